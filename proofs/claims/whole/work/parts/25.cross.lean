set_option maxHeartbeats 4000000 in
set_option maxRecDepth 100000 in
theorem kX9_cross_2 (l : Launch) (D : va_G) (cy : Nat → ClassId) (ad : Nat → Nat) (jf : Nat → Int64) (A : Nat → Prop) (u : gS) (p2 p3 p4 p5 : Int) (j_2 : 0 ≤ p2 ∧ p2 ≤ 239) (j_3 : 0 ≤ p3 ∧ p3 ≤ 119) (j_4 : 0 ≤ p4 ∧ p4 ≤ 47) (j_5 : 0 ≤ p5 ∧ p5 ≤ 7) (i10 : ∀ j, j < 36 → -9 ≤ u.2.1 10 j ∧ u.2.1 10 j ≤ 9) (i11 : ∀ j, j < 36 → -9 ≤ u.2.1 11 j ∧ u.2.1 11 j ≤ 9) (isd : ∀ j, j < 100 → 0 ≤ u.2.1 15 j ∧ u.2.1 15 j ≤ 24) (icl : ∀ j, j < 101 → 0 ≤ u.2.1 16 j ∧ u.2.1 16 j ≤ 100000) (hd : ∀ j, j < 288 → u.2.1 9 j = 0 ∨ u.2.1 9 j = 1) (irc : 0 ≤ u.1 8 ∧ u.1 8 ≤ 100) (itc : u.1 9 = 0 ∨ u.1 9 = 1) : Met l yX9_cross wsX9_cross ({ frames := 3, cells := 0, slots := 0, locals := 72 }) (va_Pc [.ref (ad 2), .ref (ad 1), .int (zI p2), .int (zI p3), .int (zI p4), .int (zI p5)] (gB D cy ad jf A u)) (va_Qi (fun (r : Int32) (v : gS) => r = zI (cCross u 13 14 15 16 6 7 8 9 p2 p3 p4 p5).1 ∧ v = (cCross u 13 14 15 16 6 7 8 9 p2 p3 p4 p5).2) (gB D cy ad jf A) A) 0 0 A := by
  refine Met.ofW (cc := cX9_cross) (maxL := 8) (ret := (some .int)) (by decide) rfl ?_
  intro p e s m args below meth c s₁ B hml hv
  obtain ⟨rfl, hG, hC⟩ := hv
  have hx := B.exec
  have hb := B.bytes
  have hr := B.returns
  have hts := atoms_spec (ws := wsX9_cross) B.pre
  have hown : s.vm.findClass RX9 = some m.cls := findClass_of_methodNamed B.named
  have hlocks := B.notSynchronized
  have hS : va_S A s.heap s.heap [] := va_S.rf
  have hl := lv_entry ([.ref (ad 2), .ref (ad 1), .int (zI p2), .int (zI p3), .int (zI p4), .int (zI p5)]) (n := 8) (Nat.le_of_ble_eq_true rfl)
  rw [lg_entry_eq]
  generalize (lg_sl ([.ref (ad 2), .ref (ad 1), .int (zI p2), .int (zI p3), .int (zI p4), .int (zI p5)]) ++ List.replicate (8 - (lg_sl ([.ref (ad 2), .ref (ad 1), .int (zI p2), .int (zI p3), .int (zI p4), .int (zI p5)])).length) Slot.unset).toArray = ls at hl ⊢
  have hl : lv_has ls 8 [(0, .ref (ad 2)), (1, .ref (ad 1)), (2, .int (zI p2)), (3, .int (zI p3)), (4, .int (zI p4)), (5, .int (zI p5))] := hl
  refine lv_aload_n hx hb dX9_cross_0 rfl (lv_at hl 0 rfl) ?_
  refine z_iconst hx hb dX9_cross_1 ?_
  refine g_put (C := RX9) (T := TX9) (N := 9) (ci := 8) (ty := .int) hx hb hts (fun _ h => (List.mem_cons_of_mem _ (List.mem_append_left _ (List.mem_append_right _ h)))) tyX9 tyX9_ok nmX9 hown hC.1 hG hS 2 (by decide) rfl rfl 1 6 (by decide) (hts (.fieldLink RX9 15 "StraitSwim$Swim" "quarters" "I") (List.mem_cons_of_mem _ (List.mem_append_left _ (List.mem_append_left _ (List.mem_append_left _ (List.mem_of_getElem? (i := 0) rfl)))))) (fun _ h9 => h9) rfl (by decide +kernel) rfl rfl (Nat.le_of_ble_eq_true rfl) rfl (gO_6 ad _ _) dX9_cross_2 (fun u1 H locs hu1 hG hS => ?_)
  refine lv_aload_n hx hb dX9_cross_5 rfl (lv_at hl 0 rfl) ?_
  refine g_get (C := RX9) (T := TX9) (N := 9) (ci := 8) hx hb hts (fun _ h => (List.mem_cons_of_mem _ (List.mem_append_left _ (List.mem_append_right _ h)))) hown hC.1 hG 2 (by decide) rfl rfl 3 (by decide) (hts (.fieldLink RX9 21 "StraitSwim$Swim" "xs" "[I") (List.mem_cons_of_mem _ (List.mem_append_left _ (List.mem_append_left _ (List.mem_append_left _ (List.mem_of_getElem? (i := 1) rfl)))))) (fun _ h9 => h9) rfl dX9_cross_6 ?_
  refine z_iconst hx hb dX9_cross_9 ?_
  refine lv_iload_n hx hb dX9_cross_10 rfl (lv_at hl 2 rfl) ?_
  refine g_iast (n := 101) hx hb hC.1 hG hS 13 (by decide) rfl rfl (by omega) (by omega) (by decide) dX9_cross_11 (fun u2 H locs hu2 hG hS => ?_)
  refine lv_aload_n hx hb dX9_cross_12 rfl (lv_at hl 0 rfl) ?_
  refine g_get (C := RX9) (T := TX9) (N := 9) (ci := 8) hx hb hts (fun _ h => (List.mem_cons_of_mem _ (List.mem_append_left _ (List.mem_append_right _ h)))) hown hC.1 hG 2 (by decide) rfl rfl 4 (by decide) (hts (.fieldLink RX9 25 "StraitSwim$Swim" "ys" "[I") (List.mem_cons_of_mem _ (List.mem_append_left _ (List.mem_append_left _ (List.mem_append_left _ (List.mem_of_getElem? (i := 2) rfl)))))) (fun _ h9 => h9) rfl dX9_cross_13 ?_
  refine z_iconst hx hb dX9_cross_16 ?_
  refine lv_iload_n hx hb dX9_cross_17 rfl (lv_at hl 3 rfl) ?_
  refine g_iast (n := 101) hx hb hC.1 hG hS 14 (by decide) rfl rfl (by omega) (by omega) (by decide) dX9_cross_18 (fun u3 H locs hu3 hG hS => ?_)
  refine lv_aload_n hx hb dX9_cross_19 rfl (lv_at hl 0 rfl) ?_
  refine g_get (C := RX9) (T := TX9) (N := 9) (ci := 8) hx hb hts (fun _ h => (List.mem_cons_of_mem _ (List.mem_append_left _ (List.mem_append_right _ h)))) hown hC.1 hG 2 (by decide) rfl rfl 8 (by decide) (hts (.fieldLink RX9 37 "StraitSwim$Swim" "tooCold" "Z") (List.mem_cons_of_mem _ (List.mem_append_left _ (List.mem_append_left _ (List.mem_append_left _ (List.mem_of_getElem? (i := 3) rfl)))))) (fun _ h9 => h9) rfl dX9_cross_20 ?_
  have e_4 : u3.1 9 = u.1 9 := by subst hu3; subst hu2; subst hu1; rfl
  rw [e_4]
  refine z_if_eq (tgt := 30) hx hb dX9_cross_23 (by decide) (by omega) (by omega) (fun c_5 => ?_) (fun c_5 => ?_)
  · refine z_iconst hx hb dX9_cross_30 ?_
    refine lv_istore (lv' := [(6, .int (zI 3)), (0, .ref (ad 2)), (1, .ref (ad 1)), (2, .int (zI p2)), (3, .int (zI p3)), (4, .int (zI p4)), (5, .int (zI p5))]) hx hb dX9_cross_31 hl (by decide) rfl (fun ls hl => ?_)
    refine z_iconst hx hb dX9_cross_33 ?_
    refine lv_istore (lv' := [(7, .int (zI 0)), (6, .int (zI 3)), (0, .ref (ad 2)), (1, .ref (ad 1)), (2, .int (zI p2)), (3, .int (zI p3)), (4, .int (zI p4)), (5, .int (zI p5))]) hx hb dX9_cross_34 hl (by decide) rfl (fun ls hl => ?_)
    have loop36 : ∀ (n : Nat) (t : Int) (w : gS) (H : Heap) (locs : List Loc) (ls : Array Slot), (u.1 8 - t).toNat < n → (0 ≤ t ∧ t ≤ 100) → (w.1 6 = t) → (w.1 8 = u.1 8) → (∀ j, j < 36 → -9 ≤ w.2.1 10 j ∧ w.2.1 10 j ≤ 9) → (∀ j, j < 36 → -9 ≤ w.2.1 11 j ∧ w.2.1 11 j ≤ 9) → (∀ j, j < 100 → 0 ≤ w.2.1 15 j ∧ w.2.1 15 j ≤ 24) → (∀ j, j < 101 → 0 ≤ w.2.1 16 j ∧ w.2.1 16 j ≤ 100000) → (∀ j, j < 288 → w.2.1 9 j = 0 ∨ w.2.1 9 j = 1) → (0 ≤ w.2.1 13 t.toNat ∧ w.2.1 13 t.toNat ≤ 239) → (0 ≤ w.2.1 14 t.toNat ∧ w.2.1 14 t.toNat ≤ 119) → (cCrL 13 14 15 6 8 p4 p5 3 101 0 (cCr0 u 13 14 6 p2 p3) = cCrL 13 14 15 6 8 p4 p5 3 n t w) → gH D cy ad jf A w H → va_S A s.heap H locs → lv_has ls 8 [(7, .int (zI t)), (6, .int (zI 3)), (0, .ref (ad 2)), (1, .ref (ad 1)), (2, .int (zI p2)), (3, .int (zI p3)), (4, .int (zI p4)), (5, .int (zI p5))] → W p l e (headSpec wsX9_cross ({ frames := 3, cells := 0, slots := 0, locals := 72 })).room s m ([.ref (ad 2), .ref (ad 1), .int (zI p2), .int (zI p3), .int (zI p4), .int (zI p5)]).toArray below meth c H locs 0 0 (MQ below (va_Qi (fun (r : Int32) (v : gS) => r = zI (cCross u 13 14 15 16 6 7 8 9 p2 p3 p4 p5).1 ∧ v = (cCross u 13 14 15 16 6 7 8 9 p2 p3 p4 p5).2) (gB D cy ad jf A) A) ([.ref (ad 2), .ref (ad 1), .int (zI p2), .int (zI p3), .int (zI p4), .int (zI p5)]).toArray s 0 0 A) (F0 m 36 ls []) := by
      intro n
      induction n with
      | zero => intro t w H locs ls hm; exact absurd hm (Nat.not_lt_zero _)
      | succ n ih36 =>
        intro t w H locs ls hm ht9 hq9 hrc i10 i11 isd icl hd hpx hpy hT hG hS hl
        refine lv_iload hx hb dX9_cross_36 (lv_at hl 0 rfl) ?_
        refine lv_aload_n hx hb dX9_cross_38 rfl (lv_at hl 2 rfl) ?_
        refine g_get (C := RX9) (T := TX9) (N := 9) (ci := 8) hx hb hts (fun _ h => (List.mem_cons_of_mem _ (List.mem_append_left _ (List.mem_append_right _ h)))) hown hC.1 hG 2 (by decide) rfl rfl 7 (by decide) (hts (.fieldLink RX9 34 "StraitSwim$Swim" "reach" "I") (List.mem_cons_of_mem _ (List.mem_append_left _ (List.mem_append_left _ (List.mem_append_left _ (List.mem_of_getElem? (i := 4) rfl)))))) (fun _ h9 => h9) rfl dX9_cross_39 ?_
        refine z_icmp_ge (tgt := 105) hx hb dX9_cross_42 (by decide) (by omega) (by omega) (by omega) (by omega) (fun c_6 => ?_) (fun c_6 => ?_)
        · have hE9 : cCrL 13 14 15 6 8 p4 p5 3 101 0 (cCr0 u 13 14 6 p2 p3) = (3, w) := by rw [hT, cCrL, if_neg (by omega)]
          refine lv_aload_n hx hb dX9_cross_105 rfl (lv_at hl 2 rfl) ?_
          refine lv_aload_n hx hb dX9_cross_106 rfl (lv_at hl 2 rfl) ?_
          refine g_get (C := RX9) (T := TX9) (N := 9) (ci := 8) hx hb hts (fun _ h => (List.mem_cons_of_mem _ (List.mem_append_left _ (List.mem_append_right _ h)))) hown hC.1 hG 2 (by decide) rfl rfl 6 (by decide) (hts (.fieldLink RX9 31 "StraitSwim$Swim" "colds" "[I") (List.mem_cons_of_mem _ (List.mem_append_left _ (List.mem_append_left _ (List.mem_append_left _ (List.mem_of_getElem? (i := 5) rfl)))))) (fun _ h9 => h9) rfl dX9_cross_107 ?_
          refine lv_iload hx hb dX9_cross_110 (lv_at hl 1 rfl) ?_
          refine z_iconst hx hb dX9_cross_112 ?_
          refine z_icmp_ne (tgt := 125) hx hb dX9_cross_113 (by decide) (by omega) (by omega) (by omega) (by omega) (fun c_7 => ?_) (fun c_7 => ?_)
          · refine lv_aload_n hx hb dX9_cross_125 rfl (lv_at hl 2 rfl) ?_
            refine g_get (C := RX9) (T := TX9) (N := 9) (ci := 8) hx hb hts (fun _ h => (List.mem_cons_of_mem _ (List.mem_append_left _ (List.mem_append_right _ h)))) hown hC.1 hG 2 (by decide) rfl rfl 1 (by decide) (hts (.fieldLink RX9 15 "StraitSwim$Swim" "quarters" "I") (List.mem_cons_of_mem _ (List.mem_append_left _ (List.mem_append_left _ (List.mem_append_left _ (List.mem_of_getElem? (i := 0) rfl)))))) (fun _ h9 => h9) rfl dX9_cross_126 ?_
            refine g_iald (n := 101) hx hb hC.1 hG 16 (by decide) rfl (by omega) (by omega) (by decide) dX9_cross_129 ?_
            have q_8 := icl (w.1 6).toNat (by omega)
            refine g_put (C := RX9) (T := TX9) (N := 9) (ci := 8) (ty := .int) hx hb hts (fun _ h => (List.mem_cons_of_mem _ (List.mem_append_left _ (List.mem_append_right _ h)))) tyX9 tyX9_ok nmX9 hown hC.1 hG hS 2 (by decide) rfl rfl 2 7 (by decide) (hts (.fieldLink RX9 18 "StraitSwim$Swim" "cold" "I") (List.mem_cons_of_mem _ (List.mem_append_left _ (List.mem_append_left _ (List.mem_append_left _ (List.mem_of_getElem? (i := 6) rfl)))))) (fun _ h9 => h9) rfl (by decide +kernel) rfl rfl (Nat.le_of_ble_eq_true rfl) rfl (gO_7 ad _ _) dX9_cross_130 (fun u9 H locs hu9 hG hS => ?_)
            refine lv_iload hx hb dX9_cross_133 (lv_at hl 1 rfl) ?_
            exact W.iret (v := zI 3) hx hb hr (fun t9 ht9_ hW => ⟨⟨zI 3, u9, rfl, (by first | (exfalso; omega) | (unfold cCross; (first | rw [if_pos (by omega)] | rw [if_neg (by omega)]); rw [hE9]; unfold cCrE; dsimp only; (repeat (first | rw [if_pos (by omega)] | rw [if_neg (by omega)])); subst hu9; exact ⟨rfl, rfl⟩)), gB.mk' hG hC hS ht9_ hW⟩, hS.F ht9_⟩) hS.2.2 dX9_cross_135
          · refine lv_aload_n hx hb dX9_cross_116 rfl (lv_at hl 2 rfl) ?_
            refine g_get (C := RX9) (T := TX9) (N := 9) (ci := 8) hx hb hts (fun _ h => (List.mem_cons_of_mem _ (List.mem_append_left _ (List.mem_append_right _ h)))) hown hC.1 hG 2 (by decide) rfl rfl 1 (by decide) (hts (.fieldLink RX9 15 "StraitSwim$Swim" "quarters" "I") (List.mem_cons_of_mem _ (List.mem_append_left _ (List.mem_append_left _ (List.mem_append_left _ (List.mem_of_getElem? (i := 0) rfl)))))) (fun _ h9 => h9) rfl dX9_cross_117 ?_
            refine z_iconst hx hb dX9_cross_120 ?_
            refine z_isub hx hb dX9_cross_121 ?_
            refine lv_goto (tgt := 129) hx hb dX9_cross_122 (by decide) ?_
            refine g_iald (n := 101) hx hb hC.1 hG 16 (by decide) rfl (by omega) (by omega) (by decide) dX9_cross_129 ?_
            have q_10 := icl ((w.1 6) - 1).toNat (by omega)
            refine g_put (C := RX9) (T := TX9) (N := 9) (ci := 8) (ty := .int) hx hb hts (fun _ h => (List.mem_cons_of_mem _ (List.mem_append_left _ (List.mem_append_right _ h)))) tyX9 tyX9_ok nmX9 hown hC.1 hG hS 2 (by decide) rfl rfl 2 7 (by decide) (hts (.fieldLink RX9 18 "StraitSwim$Swim" "cold" "I") (List.mem_cons_of_mem _ (List.mem_append_left _ (List.mem_append_left _ (List.mem_append_left _ (List.mem_of_getElem? (i := 6) rfl)))))) (fun _ h9 => h9) rfl (by decide +kernel) rfl rfl (Nat.le_of_ble_eq_true rfl) rfl (gO_7 ad _ _) dX9_cross_130 (fun u11 H locs hu11 hG hS => ?_)
            refine lv_iload hx hb dX9_cross_133 (lv_at hl 1 rfl) ?_
            exact W.iret (v := zI 3) hx hb hr (fun t9 ht9_ hW => ⟨⟨zI 3, u11, rfl, (by first | (exfalso; omega) | (unfold cCross; (first | rw [if_pos (by omega)] | rw [if_neg (by omega)]); rw [hE9]; unfold cCrE; dsimp only; (repeat (first | rw [if_pos (by omega)] | rw [if_neg (by omega)])); subst hu11; exact ⟨rfl, rfl⟩)), gB.mk' hG hC hS ht9_ hW⟩, hS.F ht9_⟩) hS.2.2 dX9_cross_135
        · refine lv_aload_n hx hb dX9_cross_45 rfl (lv_at hl 2 rfl) ?_
          refine lv_aload_n hx hb dX9_cross_46 rfl (lv_at hl 3 rfl) ?_
          refine lv_iload hx hb dX9_cross_47 (lv_at hl 0 rfl) ?_
          refine lv_iload hx hb dX9_cross_49 (lv_at hl 6 rfl) ?_
          refine lv_iload hx hb dX9_cross_51 (lv_at hl 0 rfl) ?_
          refine z_iadd hx hb dX9_cross_53 ?_
          refine lv_iload hx hb dX9_cross_54 (lv_at hl 7 rfl) ?_
          refine g_calli (va_runV (As := [.ref (ad 1), .int (zI t), .int (zI (p4 + t)), .int (zI p5)]) (rest := []) ⟨hx, hb, hml, hown, hts⟩ (kX9_staysWithin_2 l D cy ad jf A w t (p4 + t) p5 (by omega) (by omega) (by omega) i10 i11 isd hpx hpy) (cwV 4 hts gX9_cross_X9_staysWithin rfl rfl rfl (by decide +kernel) ⟨by decide, by decide⟩) (g_preV (C := RX9) hG hC hS 2 (by decide) rfl rfl) rfl rfl hl.1 rfl (lv_room (Nat.le_of_ble_eq_true rfl)) dX9_cross_56 ⟨Nat.le_of_ble_eq_true rfl, Nat.le_of_ble_eq_true rfl⟩) hS (fun r12 u13 H locs p_14 hG hS => ?_)
          obtain ⟨rfl, hu13⟩ := p_14
          obtain ⟨z15, hz15⟩ : ∃ z : Int, z = (cStay w 13 14 15 6 t (p4 + t) p5).1 := ⟨_, rfl⟩
          rw [← hz15]
          have qz15 : z15 = 0 ∨ z15 = 1 := by rw [hz15]; exact cStay_res _ _ _ _ _ _ _ _
          obtain ⟨hk1_, hk2_, hk3_, hk4_⟩ := cStay_keep w 13 14 15 6 t (p4 + t) p5
          obtain ⟨hn1, hn2⟩ := cStay_in w 13 14 15 6 t (p4 + t) p5 (by decide) hpx hpy
          rw [← hu13] at hk1_ hk2_ hk3_ hk4_ hn1 hn2
          rw [← hk1_ 10 (by decide)] at i10
          rw [← hk1_ 11 (by decide)] at i11
          rw [← hk1_ 15 (by decide)] at isd
          rw [← hk1_ 9 (by decide)] at hd
          rw [← hk1_ 16 (by decide)] at icl
          have hrc2 := (hk2_ 8 (by decide)).trans hrc
          refine z_if_ne (tgt := 68) hx hb dX9_cross_59 (by decide) (by omega) (by omega) (fun c_16 => ?_) (fun c_16 => ?_)
          · refine lv_aload_n hx hb dX9_cross_68 rfl (lv_at hl 3 rfl) ?_
            refine lv_aload_n hx hb dX9_cross_69 rfl (lv_at hl 2 rfl) ?_
            refine g_get (C := RX9) (T := TX9) (N := 9) (ci := 8) hx hb hts (fun _ h => (List.mem_cons_of_mem _ (List.mem_append_left _ (List.mem_append_right _ h)))) hown hC.1 hG 2 (by decide) rfl rfl 3 (by decide) (hts (.fieldLink RX9 21 "StraitSwim$Swim" "xs" "[I") (List.mem_cons_of_mem _ (List.mem_append_left _ (List.mem_append_left _ (List.mem_append_left _ (List.mem_of_getElem? (i := 1) rfl)))))) (fun _ h9 => h9) rfl dX9_cross_70 ?_
            refine lv_iload hx hb dX9_cross_73 (lv_at hl 0 rfl) ?_
            refine z_iconst hx hb dX9_cross_75 ?_
            refine z_iadd hx hb dX9_cross_76 ?_
            refine g_iald (n := 101) hx hb hC.1 hG 13 (by decide) rfl (by omega) (by omega) (by decide) dX9_cross_77 ?_
            refine lv_aload_n hx hb dX9_cross_78 rfl (lv_at hl 2 rfl) ?_
            refine g_get (C := RX9) (T := TX9) (N := 9) (ci := 8) hx hb hts (fun _ h => (List.mem_cons_of_mem _ (List.mem_append_left _ (List.mem_append_right _ h)))) hown hC.1 hG 2 (by decide) rfl rfl 4 (by decide) (hts (.fieldLink RX9 25 "StraitSwim$Swim" "ys" "[I") (List.mem_cons_of_mem _ (List.mem_append_left _ (List.mem_append_left _ (List.mem_append_left _ (List.mem_of_getElem? (i := 2) rfl)))))) (fun _ h9 => h9) rfl dX9_cross_79 ?_
            refine lv_iload hx hb dX9_cross_82 (lv_at hl 0 rfl) ?_
            refine z_iconst hx hb dX9_cross_84 ?_
            refine z_iadd hx hb dX9_cross_85 ?_
            refine g_iald (n := 101) hx hb hC.1 hG 14 (by decide) rfl (by omega) (by omega) (by decide) dX9_cross_86 ?_
            refine g_calli (va_runV (As := [.int (zI (u13.2.1 13 (t + 1).toNat)), .int (zI (u13.2.1 14 (t + 1).toNat))]) (rest := []) ⟨hx, hb, hml, hown, hts⟩ (kX8_isDry l D cy ad jf A u13 (u13.2.1 13 (t + 1).toNat) (u13.2.1 14 (t + 1).toNat) (by omega) (by omega) hd) (cwV 2 hts gX9_cross_X8_isDry rfl rfl rfl (by decide +kernel) ⟨by decide, by decide⟩) (g_preV (C := RX8) hG hC hS 1 (by decide) rfl rfl) rfl rfl hl.1 rfl (lv_room (Nat.le_of_ble_eq_true rfl)) dX9_cross_87 ⟨Nat.le_of_ble_eq_true rfl, Nat.le_of_ble_eq_true rfl⟩) hS (fun r17 u18 H locs p_19 hG hS => ?_)
            obtain ⟨rfl, he_⟩ := p_19
            rw [he_] at hG; clear he_
            obtain ⟨z21, hz21⟩ : ∃ z : Int, z = spDry (u13.2.1 9) (u13.2.1 13 (t + 1).toNat) (u13.2.1 14 (t + 1).toNat) := ⟨_, rfl⟩
            rw [← hz21]
            have q_20 : z21 = 0 ∨ z21 = 1 := by rw [hz21]; exact hd _ (by omega)
            refine z_if_eq (tgt := 99) hx hb dX9_cross_90 (by decide) (by omega) (by omega) (fun c_22 => ?_) (fun c_22 => ?_)
            · refine z_iinc (lv' := [(7, .int (zI (t + 1))), (6, .int (zI 3)), (0, .ref (ad 2)), (1, .ref (ad 1)), (2, .int (zI p2)), (3, .int (zI p3)), (4, .int (zI p4)), (5, .int (zI p5))]) hx hb dX9_cross_99 hl (k := 0) rfl (by decide) rfl (fun ls hl => ?_)
              refine lv_goto (tgt := 36) hx hb dX9_cross_102 (by decide) ?_
              exact ih36 (t + 1) u13 _ _ _ (by omega) (by omega) (by exact hk3_) (by exact hrc2) (by exact i10) (by exact i11) (by exact isd) (by exact icl) (by exact hd) (by exact hn1) (by exact hn2) (by rw [hT, cCrL, if_pos (by omega)]; simp only [← hz15, ← hu13, ← hz21]; (repeat (first | rw [if_pos (by omega)] | rw [if_neg (by omega)]))) hG hS (lv_sub hl [0, 1, 2, 3, 4, 5, 6, 7] rfl)
            · refine z_iconst hx hb dX9_cross_93 ?_
              refine lv_istore (lv' := [(6, .int (zI 0)), (7, .int (zI t)), (0, .ref (ad 2)), (1, .ref (ad 1)), (2, .int (zI p2)), (3, .int (zI p3)), (4, .int (zI p4)), (5, .int (zI p5))]) hx hb dX9_cross_94 hl (by decide) rfl (fun ls hl => ?_)
              refine lv_goto (tgt := 105) hx hb dX9_cross_96 (by decide) ?_
              have hE9 : cCrL 13 14 15 6 8 p4 p5 3 101 0 (cCr0 u 13 14 6 p2 p3) = (0, u13) := by rw [hT, cCrL, if_pos (by omega)]; simp only [← hz15, ← hu13, ← hz21]; (repeat (first | rw [if_pos (by omega)] | rw [if_neg (by omega)]))
              refine lv_aload_n hx hb dX9_cross_105 rfl (lv_at hl 2 rfl) ?_
              refine lv_aload_n hx hb dX9_cross_106 rfl (lv_at hl 2 rfl) ?_
              refine g_get (C := RX9) (T := TX9) (N := 9) (ci := 8) hx hb hts (fun _ h => (List.mem_cons_of_mem _ (List.mem_append_left _ (List.mem_append_right _ h)))) hown hC.1 hG 2 (by decide) rfl rfl 6 (by decide) (hts (.fieldLink RX9 31 "StraitSwim$Swim" "colds" "[I") (List.mem_cons_of_mem _ (List.mem_append_left _ (List.mem_append_left _ (List.mem_append_left _ (List.mem_of_getElem? (i := 5) rfl)))))) (fun _ h9 => h9) rfl dX9_cross_107 ?_
              refine lv_iload hx hb dX9_cross_110 (lv_at hl 0 rfl) ?_
              refine z_iconst hx hb dX9_cross_112 ?_
              refine z_icmp_ne (tgt := 125) hx hb dX9_cross_113 (by decide) (by omega) (by omega) (by omega) (by omega) (fun c_23 => ?_) (fun c_23 => ?_)
              · refine lv_aload_n hx hb dX9_cross_125 rfl (lv_at hl 2 rfl) ?_
                refine g_get (C := RX9) (T := TX9) (N := 9) (ci := 8) hx hb hts (fun _ h => (List.mem_cons_of_mem _ (List.mem_append_left _ (List.mem_append_right _ h)))) hown hC.1 hG 2 (by decide) rfl rfl 1 (by decide) (hts (.fieldLink RX9 15 "StraitSwim$Swim" "quarters" "I") (List.mem_cons_of_mem _ (List.mem_append_left _ (List.mem_append_left _ (List.mem_append_left _ (List.mem_of_getElem? (i := 0) rfl)))))) (fun _ h9 => h9) rfl dX9_cross_126 ?_
                refine g_iald (n := 101) hx hb hC.1 hG 16 (by decide) rfl (by omega) (by omega) (by decide) dX9_cross_129 ?_
                have q_24 := icl (u13.1 6).toNat (by omega)
                refine g_put (C := RX9) (T := TX9) (N := 9) (ci := 8) (ty := .int) hx hb hts (fun _ h => (List.mem_cons_of_mem _ (List.mem_append_left _ (List.mem_append_right _ h)))) tyX9 tyX9_ok nmX9 hown hC.1 hG hS 2 (by decide) rfl rfl 2 7 (by decide) (hts (.fieldLink RX9 18 "StraitSwim$Swim" "cold" "I") (List.mem_cons_of_mem _ (List.mem_append_left _ (List.mem_append_left _ (List.mem_append_left _ (List.mem_of_getElem? (i := 6) rfl)))))) (fun _ h9 => h9) rfl (by decide +kernel) rfl rfl (Nat.le_of_ble_eq_true rfl) rfl (gO_7 ad _ _) dX9_cross_130 (fun u25 H locs hu25 hG hS => ?_)
                refine lv_iload hx hb dX9_cross_133 (lv_at hl 0 rfl) ?_
                exact W.iret (v := zI 0) hx hb hr (fun t9 ht9_ hW => ⟨⟨zI 0, u25, rfl, (by first | (exfalso; omega) | (unfold cCross; (first | rw [if_pos (by omega)] | rw [if_neg (by omega)]); rw [hE9]; unfold cCrE; dsimp only; (repeat (first | rw [if_pos (by omega)] | rw [if_neg (by omega)])); subst hu25; exact ⟨rfl, rfl⟩)), gB.mk' hG hC hS ht9_ hW⟩, hS.F ht9_⟩) hS.2.2 dX9_cross_135
              · refine lv_aload_n hx hb dX9_cross_116 rfl (lv_at hl 2 rfl) ?_
                refine g_get (C := RX9) (T := TX9) (N := 9) (ci := 8) hx hb hts (fun _ h => (List.mem_cons_of_mem _ (List.mem_append_left _ (List.mem_append_right _ h)))) hown hC.1 hG 2 (by decide) rfl rfl 1 (by decide) (hts (.fieldLink RX9 15 "StraitSwim$Swim" "quarters" "I") (List.mem_cons_of_mem _ (List.mem_append_left _ (List.mem_append_left _ (List.mem_append_left _ (List.mem_of_getElem? (i := 0) rfl)))))) (fun _ h9 => h9) rfl dX9_cross_117 ?_
                refine z_iconst hx hb dX9_cross_120 ?_
                refine z_isub hx hb dX9_cross_121 ?_
                refine lv_goto (tgt := 129) hx hb dX9_cross_122 (by decide) ?_
                refine g_iald (n := 101) hx hb hC.1 hG 16 (by decide) rfl (by omega) (by omega) (by decide) dX9_cross_129 ?_
                have q_26 := icl ((u13.1 6) - 1).toNat (by omega)
                refine g_put (C := RX9) (T := TX9) (N := 9) (ci := 8) (ty := .int) hx hb hts (fun _ h => (List.mem_cons_of_mem _ (List.mem_append_left _ (List.mem_append_right _ h)))) tyX9 tyX9_ok nmX9 hown hC.1 hG hS 2 (by decide) rfl rfl 2 7 (by decide) (hts (.fieldLink RX9 18 "StraitSwim$Swim" "cold" "I") (List.mem_cons_of_mem _ (List.mem_append_left _ (List.mem_append_left _ (List.mem_append_left _ (List.mem_of_getElem? (i := 6) rfl)))))) (fun _ h9 => h9) rfl (by decide +kernel) rfl rfl (Nat.le_of_ble_eq_true rfl) rfl (gO_7 ad _ _) dX9_cross_130 (fun u27 H locs hu27 hG hS => ?_)
                refine lv_iload hx hb dX9_cross_133 (lv_at hl 0 rfl) ?_
                exact W.iret (v := zI 0) hx hb hr (fun t9 ht9_ hW => ⟨⟨zI 0, u27, rfl, (by first | (exfalso; omega) | (unfold cCross; (first | rw [if_pos (by omega)] | rw [if_neg (by omega)]); rw [hE9]; unfold cCrE; dsimp only; (repeat (first | rw [if_pos (by omega)] | rw [if_neg (by omega)])); subst hu27; exact ⟨rfl, rfl⟩)), gB.mk' hG hC hS ht9_ hW⟩, hS.F ht9_⟩) hS.2.2 dX9_cross_135
          · refine z_iconst hx hb dX9_cross_62 ?_
            refine lv_istore (lv' := [(6, .int (zI 2)), (7, .int (zI t)), (0, .ref (ad 2)), (1, .ref (ad 1)), (2, .int (zI p2)), (3, .int (zI p3)), (4, .int (zI p4)), (5, .int (zI p5))]) hx hb dX9_cross_63 hl (by decide) rfl (fun ls hl => ?_)
            refine lv_goto (tgt := 105) hx hb dX9_cross_65 (by decide) ?_
            have hE9 : cCrL 13 14 15 6 8 p4 p5 3 101 0 (cCr0 u 13 14 6 p2 p3) = (2, u13) := by rw [hT, cCrL, if_pos (by omega)]; simp only [← hz15, ← hu13]; (repeat (first | rw [if_pos (by omega)] | rw [if_neg (by omega)]))
            refine lv_aload_n hx hb dX9_cross_105 rfl (lv_at hl 2 rfl) ?_
            refine lv_aload_n hx hb dX9_cross_106 rfl (lv_at hl 2 rfl) ?_
            refine g_get (C := RX9) (T := TX9) (N := 9) (ci := 8) hx hb hts (fun _ h => (List.mem_cons_of_mem _ (List.mem_append_left _ (List.mem_append_right _ h)))) hown hC.1 hG 2 (by decide) rfl rfl 6 (by decide) (hts (.fieldLink RX9 31 "StraitSwim$Swim" "colds" "[I") (List.mem_cons_of_mem _ (List.mem_append_left _ (List.mem_append_left _ (List.mem_append_left _ (List.mem_of_getElem? (i := 5) rfl)))))) (fun _ h9 => h9) rfl dX9_cross_107 ?_
            refine lv_iload hx hb dX9_cross_110 (lv_at hl 0 rfl) ?_
            refine z_iconst hx hb dX9_cross_112 ?_
            refine z_icmp_ne (tgt := 125) hx hb dX9_cross_113 (by decide) (by omega) (by omega) (by omega) (by omega) (fun c_28 => ?_) (fun c_28 => ?_)
            · refine lv_aload_n hx hb dX9_cross_125 rfl (lv_at hl 2 rfl) ?_
              refine g_get (C := RX9) (T := TX9) (N := 9) (ci := 8) hx hb hts (fun _ h => (List.mem_cons_of_mem _ (List.mem_append_left _ (List.mem_append_right _ h)))) hown hC.1 hG 2 (by decide) rfl rfl 1 (by decide) (hts (.fieldLink RX9 15 "StraitSwim$Swim" "quarters" "I") (List.mem_cons_of_mem _ (List.mem_append_left _ (List.mem_append_left _ (List.mem_append_left _ (List.mem_of_getElem? (i := 0) rfl)))))) (fun _ h9 => h9) rfl dX9_cross_126 ?_
              refine g_iald (n := 101) hx hb hC.1 hG 16 (by decide) rfl (by omega) (by omega) (by decide) dX9_cross_129 ?_
              have q_29 := icl (u13.1 6).toNat (by omega)
              refine g_put (C := RX9) (T := TX9) (N := 9) (ci := 8) (ty := .int) hx hb hts (fun _ h => (List.mem_cons_of_mem _ (List.mem_append_left _ (List.mem_append_right _ h)))) tyX9 tyX9_ok nmX9 hown hC.1 hG hS 2 (by decide) rfl rfl 2 7 (by decide) (hts (.fieldLink RX9 18 "StraitSwim$Swim" "cold" "I") (List.mem_cons_of_mem _ (List.mem_append_left _ (List.mem_append_left _ (List.mem_append_left _ (List.mem_of_getElem? (i := 6) rfl)))))) (fun _ h9 => h9) rfl (by decide +kernel) rfl rfl (Nat.le_of_ble_eq_true rfl) rfl (gO_7 ad _ _) dX9_cross_130 (fun u30 H locs hu30 hG hS => ?_)
              refine lv_iload hx hb dX9_cross_133 (lv_at hl 0 rfl) ?_
              exact W.iret (v := zI 2) hx hb hr (fun t9 ht9_ hW => ⟨⟨zI 2, u30, rfl, (by first | (exfalso; omega) | (unfold cCross; (first | rw [if_pos (by omega)] | rw [if_neg (by omega)]); rw [hE9]; unfold cCrE; dsimp only; (repeat (first | rw [if_pos (by omega)] | rw [if_neg (by omega)])); subst hu30; exact ⟨rfl, rfl⟩)), gB.mk' hG hC hS ht9_ hW⟩, hS.F ht9_⟩) hS.2.2 dX9_cross_135
            · refine lv_aload_n hx hb dX9_cross_116 rfl (lv_at hl 2 rfl) ?_
              refine g_get (C := RX9) (T := TX9) (N := 9) (ci := 8) hx hb hts (fun _ h => (List.mem_cons_of_mem _ (List.mem_append_left _ (List.mem_append_right _ h)))) hown hC.1 hG 2 (by decide) rfl rfl 1 (by decide) (hts (.fieldLink RX9 15 "StraitSwim$Swim" "quarters" "I") (List.mem_cons_of_mem _ (List.mem_append_left _ (List.mem_append_left _ (List.mem_append_left _ (List.mem_of_getElem? (i := 0) rfl)))))) (fun _ h9 => h9) rfl dX9_cross_117 ?_
              refine z_iconst hx hb dX9_cross_120 ?_
              refine z_isub hx hb dX9_cross_121 ?_
              refine lv_goto (tgt := 129) hx hb dX9_cross_122 (by decide) ?_
              refine g_iald (n := 101) hx hb hC.1 hG 16 (by decide) rfl (by omega) (by omega) (by decide) dX9_cross_129 ?_
              have q_31 := icl ((u13.1 6) - 1).toNat (by omega)
              refine g_put (C := RX9) (T := TX9) (N := 9) (ci := 8) (ty := .int) hx hb hts (fun _ h => (List.mem_cons_of_mem _ (List.mem_append_left _ (List.mem_append_right _ h)))) tyX9 tyX9_ok nmX9 hown hC.1 hG hS 2 (by decide) rfl rfl 2 7 (by decide) (hts (.fieldLink RX9 18 "StraitSwim$Swim" "cold" "I") (List.mem_cons_of_mem _ (List.mem_append_left _ (List.mem_append_left _ (List.mem_append_left _ (List.mem_of_getElem? (i := 6) rfl)))))) (fun _ h9 => h9) rfl (by decide +kernel) rfl rfl (Nat.le_of_ble_eq_true rfl) rfl (gO_7 ad _ _) dX9_cross_130 (fun u32 H locs hu32 hG hS => ?_)
              refine lv_iload hx hb dX9_cross_133 (lv_at hl 0 rfl) ?_
              exact W.iret (v := zI 2) hx hb hr (fun t9 ht9_ hW => ⟨⟨zI 2, u32, rfl, (by first | (exfalso; omega) | (unfold cCross; (first | rw [if_pos (by omega)] | rw [if_neg (by omega)]); rw [hE9]; unfold cCrE; dsimp only; (repeat (first | rw [if_pos (by omega)] | rw [if_neg (by omega)])); subst hu32; exact ⟨rfl, rfl⟩)), gB.mk' hG hC hS ht9_ hW⟩, hS.F ht9_⟩) hS.2.2 dX9_cross_135
    exact loop36 101 0 u3 _ _ _ (by omega) (by omega) (by subst hu3; subst hu2; subst hu1; rfl) (by subst hu3; subst hu2; subst hu1; rfl) (by subst hu3; subst hu2; subst hu1; exact i10) (by subst hu3; subst hu2; subst hu1; exact i11) (by subst hu3; subst hu2; subst hu1; exact isd) (by subst hu3; subst hu2; subst hu1; exact icl) (by subst hu3; subst hu2; subst hu1; exact hd) (by have e9 : u3.2.1 13 (Int.toNat 0) = p2 := (by subst hu3; subst hu2; subst hu1; rfl); rw [e9]; exact j_2) (by have e9 : u3.2.1 14 (Int.toNat 0) = p3 := (by subst hu3; subst hu2; subst hu1; rfl); rw [e9]; exact j_3) (by unfold cCr0; subst hu3; subst hu2; subst hu1; rfl) hG hS (lv_sub hl [0, 1, 2, 3, 4, 5, 6, 7] rfl)
  · refine z_iconst hx hb dX9_cross_26 ?_
    refine lv_goto (tgt := 31) hx hb dX9_cross_27 (by decide) ?_
    refine lv_istore (lv' := [(6, .int (zI 1)), (0, .ref (ad 2)), (1, .ref (ad 1)), (2, .int (zI p2)), (3, .int (zI p3)), (4, .int (zI p4)), (5, .int (zI p5))]) hx hb dX9_cross_31 hl (by decide) rfl (fun ls hl => ?_)
    refine z_iconst hx hb dX9_cross_33 ?_
    refine lv_istore (lv' := [(7, .int (zI 0)), (6, .int (zI 1)), (0, .ref (ad 2)), (1, .ref (ad 1)), (2, .int (zI p2)), (3, .int (zI p3)), (4, .int (zI p4)), (5, .int (zI p5))]) hx hb dX9_cross_34 hl (by decide) rfl (fun ls hl => ?_)
    have loop36 : ∀ (n : Nat) (t : Int) (w : gS) (H : Heap) (locs : List Loc) (ls : Array Slot), (u.1 8 - t).toNat < n → (0 ≤ t ∧ t ≤ 100) → (w.1 6 = t) → (w.1 8 = u.1 8) → (∀ j, j < 36 → -9 ≤ w.2.1 10 j ∧ w.2.1 10 j ≤ 9) → (∀ j, j < 36 → -9 ≤ w.2.1 11 j ∧ w.2.1 11 j ≤ 9) → (∀ j, j < 100 → 0 ≤ w.2.1 15 j ∧ w.2.1 15 j ≤ 24) → (∀ j, j < 101 → 0 ≤ w.2.1 16 j ∧ w.2.1 16 j ≤ 100000) → (∀ j, j < 288 → w.2.1 9 j = 0 ∨ w.2.1 9 j = 1) → (0 ≤ w.2.1 13 t.toNat ∧ w.2.1 13 t.toNat ≤ 239) → (0 ≤ w.2.1 14 t.toNat ∧ w.2.1 14 t.toNat ≤ 119) → (cCrL 13 14 15 6 8 p4 p5 1 101 0 (cCr0 u 13 14 6 p2 p3) = cCrL 13 14 15 6 8 p4 p5 1 n t w) → gH D cy ad jf A w H → va_S A s.heap H locs → lv_has ls 8 [(7, .int (zI t)), (6, .int (zI 1)), (0, .ref (ad 2)), (1, .ref (ad 1)), (2, .int (zI p2)), (3, .int (zI p3)), (4, .int (zI p4)), (5, .int (zI p5))] → W p l e (headSpec wsX9_cross ({ frames := 3, cells := 0, slots := 0, locals := 72 })).room s m ([.ref (ad 2), .ref (ad 1), .int (zI p2), .int (zI p3), .int (zI p4), .int (zI p5)]).toArray below meth c H locs 0 0 (MQ below (va_Qi (fun (r : Int32) (v : gS) => r = zI (cCross u 13 14 15 16 6 7 8 9 p2 p3 p4 p5).1 ∧ v = (cCross u 13 14 15 16 6 7 8 9 p2 p3 p4 p5).2) (gB D cy ad jf A) A) ([.ref (ad 2), .ref (ad 1), .int (zI p2), .int (zI p3), .int (zI p4), .int (zI p5)]).toArray s 0 0 A) (F0 m 36 ls []) := by
      intro n
      induction n with
      | zero => intro t w H locs ls hm; exact absurd hm (Nat.not_lt_zero _)
      | succ n ih36 =>
        intro t w H locs ls hm ht9 hq9 hrc i10 i11 isd icl hd hpx hpy hT hG hS hl
        refine lv_iload hx hb dX9_cross_36 (lv_at hl 0 rfl) ?_
        refine lv_aload_n hx hb dX9_cross_38 rfl (lv_at hl 2 rfl) ?_
        refine g_get (C := RX9) (T := TX9) (N := 9) (ci := 8) hx hb hts (fun _ h => (List.mem_cons_of_mem _ (List.mem_append_left _ (List.mem_append_right _ h)))) hown hC.1 hG 2 (by decide) rfl rfl 7 (by decide) (hts (.fieldLink RX9 34 "StraitSwim$Swim" "reach" "I") (List.mem_cons_of_mem _ (List.mem_append_left _ (List.mem_append_left _ (List.mem_append_left _ (List.mem_of_getElem? (i := 4) rfl)))))) (fun _ h9 => h9) rfl dX9_cross_39 ?_
        refine z_icmp_ge (tgt := 105) hx hb dX9_cross_42 (by decide) (by omega) (by omega) (by omega) (by omega) (fun c_33 => ?_) (fun c_33 => ?_)
        · have hE9 : cCrL 13 14 15 6 8 p4 p5 1 101 0 (cCr0 u 13 14 6 p2 p3) = (1, w) := by rw [hT, cCrL, if_neg (by omega)]
          refine lv_aload_n hx hb dX9_cross_105 rfl (lv_at hl 2 rfl) ?_
          refine lv_aload_n hx hb dX9_cross_106 rfl (lv_at hl 2 rfl) ?_
          refine g_get (C := RX9) (T := TX9) (N := 9) (ci := 8) hx hb hts (fun _ h => (List.mem_cons_of_mem _ (List.mem_append_left _ (List.mem_append_right _ h)))) hown hC.1 hG 2 (by decide) rfl rfl 6 (by decide) (hts (.fieldLink RX9 31 "StraitSwim$Swim" "colds" "[I") (List.mem_cons_of_mem _ (List.mem_append_left _ (List.mem_append_left _ (List.mem_append_left _ (List.mem_of_getElem? (i := 5) rfl)))))) (fun _ h9 => h9) rfl dX9_cross_107 ?_
          refine lv_iload hx hb dX9_cross_110 (lv_at hl 1 rfl) ?_
          refine z_iconst hx hb dX9_cross_112 ?_
          refine z_icmp_ne (tgt := 125) hx hb dX9_cross_113 (by decide) (by omega) (by omega) (by omega) (by omega) (fun c_34 => ?_) (fun c_34 => ?_)
          · refine lv_aload_n hx hb dX9_cross_125 rfl (lv_at hl 2 rfl) ?_
            refine g_get (C := RX9) (T := TX9) (N := 9) (ci := 8) hx hb hts (fun _ h => (List.mem_cons_of_mem _ (List.mem_append_left _ (List.mem_append_right _ h)))) hown hC.1 hG 2 (by decide) rfl rfl 1 (by decide) (hts (.fieldLink RX9 15 "StraitSwim$Swim" "quarters" "I") (List.mem_cons_of_mem _ (List.mem_append_left _ (List.mem_append_left _ (List.mem_append_left _ (List.mem_of_getElem? (i := 0) rfl)))))) (fun _ h9 => h9) rfl dX9_cross_126 ?_
            refine g_iald (n := 101) hx hb hC.1 hG 16 (by decide) rfl (by omega) (by omega) (by decide) dX9_cross_129 ?_
            have q_35 := icl (w.1 6).toNat (by omega)
            refine g_put (C := RX9) (T := TX9) (N := 9) (ci := 8) (ty := .int) hx hb hts (fun _ h => (List.mem_cons_of_mem _ (List.mem_append_left _ (List.mem_append_right _ h)))) tyX9 tyX9_ok nmX9 hown hC.1 hG hS 2 (by decide) rfl rfl 2 7 (by decide) (hts (.fieldLink RX9 18 "StraitSwim$Swim" "cold" "I") (List.mem_cons_of_mem _ (List.mem_append_left _ (List.mem_append_left _ (List.mem_append_left _ (List.mem_of_getElem? (i := 6) rfl)))))) (fun _ h9 => h9) rfl (by decide +kernel) rfl rfl (Nat.le_of_ble_eq_true rfl) rfl (gO_7 ad _ _) dX9_cross_130 (fun u36 H locs hu36 hG hS => ?_)
            refine lv_iload hx hb dX9_cross_133 (lv_at hl 1 rfl) ?_
            exact W.iret (v := zI 1) hx hb hr (fun t9 ht9_ hW => ⟨⟨zI 1, u36, rfl, (by first | (exfalso; omega) | (unfold cCross; (first | rw [if_pos (by omega)] | rw [if_neg (by omega)]); rw [hE9]; unfold cCrE; dsimp only; (repeat (first | rw [if_pos (by omega)] | rw [if_neg (by omega)])); subst hu36; exact ⟨rfl, rfl⟩)), gB.mk' hG hC hS ht9_ hW⟩, hS.F ht9_⟩) hS.2.2 dX9_cross_135
          · refine lv_aload_n hx hb dX9_cross_116 rfl (lv_at hl 2 rfl) ?_
            refine g_get (C := RX9) (T := TX9) (N := 9) (ci := 8) hx hb hts (fun _ h => (List.mem_cons_of_mem _ (List.mem_append_left _ (List.mem_append_right _ h)))) hown hC.1 hG 2 (by decide) rfl rfl 1 (by decide) (hts (.fieldLink RX9 15 "StraitSwim$Swim" "quarters" "I") (List.mem_cons_of_mem _ (List.mem_append_left _ (List.mem_append_left _ (List.mem_append_left _ (List.mem_of_getElem? (i := 0) rfl)))))) (fun _ h9 => h9) rfl dX9_cross_117 ?_
            refine z_iconst hx hb dX9_cross_120 ?_
            refine z_isub hx hb dX9_cross_121 ?_
            refine lv_goto (tgt := 129) hx hb dX9_cross_122 (by decide) ?_
            refine g_iald (n := 101) hx hb hC.1 hG 16 (by decide) rfl (by omega) (by omega) (by decide) dX9_cross_129 ?_
            have q_37 := icl ((w.1 6) - 1).toNat (by omega)
            refine g_put (C := RX9) (T := TX9) (N := 9) (ci := 8) (ty := .int) hx hb hts (fun _ h => (List.mem_cons_of_mem _ (List.mem_append_left _ (List.mem_append_right _ h)))) tyX9 tyX9_ok nmX9 hown hC.1 hG hS 2 (by decide) rfl rfl 2 7 (by decide) (hts (.fieldLink RX9 18 "StraitSwim$Swim" "cold" "I") (List.mem_cons_of_mem _ (List.mem_append_left _ (List.mem_append_left _ (List.mem_append_left _ (List.mem_of_getElem? (i := 6) rfl)))))) (fun _ h9 => h9) rfl (by decide +kernel) rfl rfl (Nat.le_of_ble_eq_true rfl) rfl (gO_7 ad _ _) dX9_cross_130 (fun u38 H locs hu38 hG hS => ?_)
            refine lv_iload hx hb dX9_cross_133 (lv_at hl 1 rfl) ?_
            exact W.iret (v := zI 1) hx hb hr (fun t9 ht9_ hW => ⟨⟨zI 1, u38, rfl, (by first | (exfalso; omega) | (unfold cCross; (first | rw [if_pos (by omega)] | rw [if_neg (by omega)]); rw [hE9]; unfold cCrE; dsimp only; (repeat (first | rw [if_pos (by omega)] | rw [if_neg (by omega)])); subst hu38; exact ⟨rfl, rfl⟩)), gB.mk' hG hC hS ht9_ hW⟩, hS.F ht9_⟩) hS.2.2 dX9_cross_135
        · refine lv_aload_n hx hb dX9_cross_45 rfl (lv_at hl 2 rfl) ?_
          refine lv_aload_n hx hb dX9_cross_46 rfl (lv_at hl 3 rfl) ?_
          refine lv_iload hx hb dX9_cross_47 (lv_at hl 0 rfl) ?_
          refine lv_iload hx hb dX9_cross_49 (lv_at hl 6 rfl) ?_
          refine lv_iload hx hb dX9_cross_51 (lv_at hl 0 rfl) ?_
          refine z_iadd hx hb dX9_cross_53 ?_
          refine lv_iload hx hb dX9_cross_54 (lv_at hl 7 rfl) ?_
          refine g_calli (va_runV (As := [.ref (ad 1), .int (zI t), .int (zI (p4 + t)), .int (zI p5)]) (rest := []) ⟨hx, hb, hml, hown, hts⟩ (kX9_staysWithin_2 l D cy ad jf A w t (p4 + t) p5 (by omega) (by omega) (by omega) i10 i11 isd hpx hpy) (cwV 4 hts gX9_cross_X9_staysWithin rfl rfl rfl (by decide +kernel) ⟨by decide, by decide⟩) (g_preV (C := RX9) hG hC hS 2 (by decide) rfl rfl) rfl rfl hl.1 rfl (lv_room (Nat.le_of_ble_eq_true rfl)) dX9_cross_56 ⟨Nat.le_of_ble_eq_true rfl, Nat.le_of_ble_eq_true rfl⟩) hS (fun r39 u40 H locs p_41 hG hS => ?_)
          obtain ⟨rfl, hu40⟩ := p_41
          obtain ⟨z42, hz42⟩ : ∃ z : Int, z = (cStay w 13 14 15 6 t (p4 + t) p5).1 := ⟨_, rfl⟩
          rw [← hz42]
          have qz42 : z42 = 0 ∨ z42 = 1 := by rw [hz42]; exact cStay_res _ _ _ _ _ _ _ _
          obtain ⟨hk1_, hk2_, hk3_, hk4_⟩ := cStay_keep w 13 14 15 6 t (p4 + t) p5
          obtain ⟨hn1, hn2⟩ := cStay_in w 13 14 15 6 t (p4 + t) p5 (by decide) hpx hpy
          rw [← hu40] at hk1_ hk2_ hk3_ hk4_ hn1 hn2
          rw [← hk1_ 10 (by decide)] at i10
          rw [← hk1_ 11 (by decide)] at i11
          rw [← hk1_ 15 (by decide)] at isd
          rw [← hk1_ 9 (by decide)] at hd
          rw [← hk1_ 16 (by decide)] at icl
          have hrc2 := (hk2_ 8 (by decide)).trans hrc
          refine z_if_ne (tgt := 68) hx hb dX9_cross_59 (by decide) (by omega) (by omega) (fun c_43 => ?_) (fun c_43 => ?_)
          · refine lv_aload_n hx hb dX9_cross_68 rfl (lv_at hl 3 rfl) ?_
            refine lv_aload_n hx hb dX9_cross_69 rfl (lv_at hl 2 rfl) ?_
            refine g_get (C := RX9) (T := TX9) (N := 9) (ci := 8) hx hb hts (fun _ h => (List.mem_cons_of_mem _ (List.mem_append_left _ (List.mem_append_right _ h)))) hown hC.1 hG 2 (by decide) rfl rfl 3 (by decide) (hts (.fieldLink RX9 21 "StraitSwim$Swim" "xs" "[I") (List.mem_cons_of_mem _ (List.mem_append_left _ (List.mem_append_left _ (List.mem_append_left _ (List.mem_of_getElem? (i := 1) rfl)))))) (fun _ h9 => h9) rfl dX9_cross_70 ?_
            refine lv_iload hx hb dX9_cross_73 (lv_at hl 0 rfl) ?_
            refine z_iconst hx hb dX9_cross_75 ?_
            refine z_iadd hx hb dX9_cross_76 ?_
            refine g_iald (n := 101) hx hb hC.1 hG 13 (by decide) rfl (by omega) (by omega) (by decide) dX9_cross_77 ?_
            refine lv_aload_n hx hb dX9_cross_78 rfl (lv_at hl 2 rfl) ?_
            refine g_get (C := RX9) (T := TX9) (N := 9) (ci := 8) hx hb hts (fun _ h => (List.mem_cons_of_mem _ (List.mem_append_left _ (List.mem_append_right _ h)))) hown hC.1 hG 2 (by decide) rfl rfl 4 (by decide) (hts (.fieldLink RX9 25 "StraitSwim$Swim" "ys" "[I") (List.mem_cons_of_mem _ (List.mem_append_left _ (List.mem_append_left _ (List.mem_append_left _ (List.mem_of_getElem? (i := 2) rfl)))))) (fun _ h9 => h9) rfl dX9_cross_79 ?_
            refine lv_iload hx hb dX9_cross_82 (lv_at hl 0 rfl) ?_
            refine z_iconst hx hb dX9_cross_84 ?_
            refine z_iadd hx hb dX9_cross_85 ?_
            refine g_iald (n := 101) hx hb hC.1 hG 14 (by decide) rfl (by omega) (by omega) (by decide) dX9_cross_86 ?_
            refine g_calli (va_runV (As := [.int (zI (u40.2.1 13 (t + 1).toNat)), .int (zI (u40.2.1 14 (t + 1).toNat))]) (rest := []) ⟨hx, hb, hml, hown, hts⟩ (kX8_isDry l D cy ad jf A u40 (u40.2.1 13 (t + 1).toNat) (u40.2.1 14 (t + 1).toNat) (by omega) (by omega) hd) (cwV 2 hts gX9_cross_X8_isDry rfl rfl rfl (by decide +kernel) ⟨by decide, by decide⟩) (g_preV (C := RX8) hG hC hS 1 (by decide) rfl rfl) rfl rfl hl.1 rfl (lv_room (Nat.le_of_ble_eq_true rfl)) dX9_cross_87 ⟨Nat.le_of_ble_eq_true rfl, Nat.le_of_ble_eq_true rfl⟩) hS (fun r44 u45 H locs p_46 hG hS => ?_)
            obtain ⟨rfl, he_⟩ := p_46
            rw [he_] at hG; clear he_
            obtain ⟨z48, hz48⟩ : ∃ z : Int, z = spDry (u40.2.1 9) (u40.2.1 13 (t + 1).toNat) (u40.2.1 14 (t + 1).toNat) := ⟨_, rfl⟩
            rw [← hz48]
            have q_47 : z48 = 0 ∨ z48 = 1 := by rw [hz48]; exact hd _ (by omega)
            refine z_if_eq (tgt := 99) hx hb dX9_cross_90 (by decide) (by omega) (by omega) (fun c_49 => ?_) (fun c_49 => ?_)
            · refine z_iinc (lv' := [(7, .int (zI (t + 1))), (6, .int (zI 1)), (0, .ref (ad 2)), (1, .ref (ad 1)), (2, .int (zI p2)), (3, .int (zI p3)), (4, .int (zI p4)), (5, .int (zI p5))]) hx hb dX9_cross_99 hl (k := 0) rfl (by decide) rfl (fun ls hl => ?_)
              refine lv_goto (tgt := 36) hx hb dX9_cross_102 (by decide) ?_
              exact ih36 (t + 1) u40 _ _ _ (by omega) (by omega) (by exact hk3_) (by exact hrc2) (by exact i10) (by exact i11) (by exact isd) (by exact icl) (by exact hd) (by exact hn1) (by exact hn2) (by rw [hT, cCrL, if_pos (by omega)]; simp only [← hz42, ← hu40, ← hz48]; (repeat (first | rw [if_pos (by omega)] | rw [if_neg (by omega)]))) hG hS (lv_sub hl [0, 1, 2, 3, 4, 5, 6, 7] rfl)
            · refine z_iconst hx hb dX9_cross_93 ?_
              refine lv_istore (lv' := [(6, .int (zI 0)), (7, .int (zI t)), (0, .ref (ad 2)), (1, .ref (ad 1)), (2, .int (zI p2)), (3, .int (zI p3)), (4, .int (zI p4)), (5, .int (zI p5))]) hx hb dX9_cross_94 hl (by decide) rfl (fun ls hl => ?_)
              refine lv_goto (tgt := 105) hx hb dX9_cross_96 (by decide) ?_
              have hE9 : cCrL 13 14 15 6 8 p4 p5 1 101 0 (cCr0 u 13 14 6 p2 p3) = (0, u40) := by rw [hT, cCrL, if_pos (by omega)]; simp only [← hz42, ← hu40, ← hz48]; (repeat (first | rw [if_pos (by omega)] | rw [if_neg (by omega)]))
              refine lv_aload_n hx hb dX9_cross_105 rfl (lv_at hl 2 rfl) ?_
              refine lv_aload_n hx hb dX9_cross_106 rfl (lv_at hl 2 rfl) ?_
              refine g_get (C := RX9) (T := TX9) (N := 9) (ci := 8) hx hb hts (fun _ h => (List.mem_cons_of_mem _ (List.mem_append_left _ (List.mem_append_right _ h)))) hown hC.1 hG 2 (by decide) rfl rfl 6 (by decide) (hts (.fieldLink RX9 31 "StraitSwim$Swim" "colds" "[I") (List.mem_cons_of_mem _ (List.mem_append_left _ (List.mem_append_left _ (List.mem_append_left _ (List.mem_of_getElem? (i := 5) rfl)))))) (fun _ h9 => h9) rfl dX9_cross_107 ?_
              refine lv_iload hx hb dX9_cross_110 (lv_at hl 0 rfl) ?_
              refine z_iconst hx hb dX9_cross_112 ?_
              refine z_icmp_ne (tgt := 125) hx hb dX9_cross_113 (by decide) (by omega) (by omega) (by omega) (by omega) (fun c_50 => ?_) (fun c_50 => ?_)
              · refine lv_aload_n hx hb dX9_cross_125 rfl (lv_at hl 2 rfl) ?_
                refine g_get (C := RX9) (T := TX9) (N := 9) (ci := 8) hx hb hts (fun _ h => (List.mem_cons_of_mem _ (List.mem_append_left _ (List.mem_append_right _ h)))) hown hC.1 hG 2 (by decide) rfl rfl 1 (by decide) (hts (.fieldLink RX9 15 "StraitSwim$Swim" "quarters" "I") (List.mem_cons_of_mem _ (List.mem_append_left _ (List.mem_append_left _ (List.mem_append_left _ (List.mem_of_getElem? (i := 0) rfl)))))) (fun _ h9 => h9) rfl dX9_cross_126 ?_
                refine g_iald (n := 101) hx hb hC.1 hG 16 (by decide) rfl (by omega) (by omega) (by decide) dX9_cross_129 ?_
                have q_51 := icl (u40.1 6).toNat (by omega)
                refine g_put (C := RX9) (T := TX9) (N := 9) (ci := 8) (ty := .int) hx hb hts (fun _ h => (List.mem_cons_of_mem _ (List.mem_append_left _ (List.mem_append_right _ h)))) tyX9 tyX9_ok nmX9 hown hC.1 hG hS 2 (by decide) rfl rfl 2 7 (by decide) (hts (.fieldLink RX9 18 "StraitSwim$Swim" "cold" "I") (List.mem_cons_of_mem _ (List.mem_append_left _ (List.mem_append_left _ (List.mem_append_left _ (List.mem_of_getElem? (i := 6) rfl)))))) (fun _ h9 => h9) rfl (by decide +kernel) rfl rfl (Nat.le_of_ble_eq_true rfl) rfl (gO_7 ad _ _) dX9_cross_130 (fun u52 H locs hu52 hG hS => ?_)
                refine lv_iload hx hb dX9_cross_133 (lv_at hl 0 rfl) ?_
                exact W.iret (v := zI 0) hx hb hr (fun t9 ht9_ hW => ⟨⟨zI 0, u52, rfl, (by first | (exfalso; omega) | (unfold cCross; (first | rw [if_pos (by omega)] | rw [if_neg (by omega)]); rw [hE9]; unfold cCrE; dsimp only; (repeat (first | rw [if_pos (by omega)] | rw [if_neg (by omega)])); subst hu52; exact ⟨rfl, rfl⟩)), gB.mk' hG hC hS ht9_ hW⟩, hS.F ht9_⟩) hS.2.2 dX9_cross_135
              · refine lv_aload_n hx hb dX9_cross_116 rfl (lv_at hl 2 rfl) ?_
                refine g_get (C := RX9) (T := TX9) (N := 9) (ci := 8) hx hb hts (fun _ h => (List.mem_cons_of_mem _ (List.mem_append_left _ (List.mem_append_right _ h)))) hown hC.1 hG 2 (by decide) rfl rfl 1 (by decide) (hts (.fieldLink RX9 15 "StraitSwim$Swim" "quarters" "I") (List.mem_cons_of_mem _ (List.mem_append_left _ (List.mem_append_left _ (List.mem_append_left _ (List.mem_of_getElem? (i := 0) rfl)))))) (fun _ h9 => h9) rfl dX9_cross_117 ?_
                refine z_iconst hx hb dX9_cross_120 ?_
                refine z_isub hx hb dX9_cross_121 ?_
                refine lv_goto (tgt := 129) hx hb dX9_cross_122 (by decide) ?_
                refine g_iald (n := 101) hx hb hC.1 hG 16 (by decide) rfl (by omega) (by omega) (by decide) dX9_cross_129 ?_
                have q_53 := icl ((u40.1 6) - 1).toNat (by omega)
                refine g_put (C := RX9) (T := TX9) (N := 9) (ci := 8) (ty := .int) hx hb hts (fun _ h => (List.mem_cons_of_mem _ (List.mem_append_left _ (List.mem_append_right _ h)))) tyX9 tyX9_ok nmX9 hown hC.1 hG hS 2 (by decide) rfl rfl 2 7 (by decide) (hts (.fieldLink RX9 18 "StraitSwim$Swim" "cold" "I") (List.mem_cons_of_mem _ (List.mem_append_left _ (List.mem_append_left _ (List.mem_append_left _ (List.mem_of_getElem? (i := 6) rfl)))))) (fun _ h9 => h9) rfl (by decide +kernel) rfl rfl (Nat.le_of_ble_eq_true rfl) rfl (gO_7 ad _ _) dX9_cross_130 (fun u54 H locs hu54 hG hS => ?_)
                refine lv_iload hx hb dX9_cross_133 (lv_at hl 0 rfl) ?_
                exact W.iret (v := zI 0) hx hb hr (fun t9 ht9_ hW => ⟨⟨zI 0, u54, rfl, (by first | (exfalso; omega) | (unfold cCross; (first | rw [if_pos (by omega)] | rw [if_neg (by omega)]); rw [hE9]; unfold cCrE; dsimp only; (repeat (first | rw [if_pos (by omega)] | rw [if_neg (by omega)])); subst hu54; exact ⟨rfl, rfl⟩)), gB.mk' hG hC hS ht9_ hW⟩, hS.F ht9_⟩) hS.2.2 dX9_cross_135
          · refine z_iconst hx hb dX9_cross_62 ?_
            refine lv_istore (lv' := [(6, .int (zI 2)), (7, .int (zI t)), (0, .ref (ad 2)), (1, .ref (ad 1)), (2, .int (zI p2)), (3, .int (zI p3)), (4, .int (zI p4)), (5, .int (zI p5))]) hx hb dX9_cross_63 hl (by decide) rfl (fun ls hl => ?_)
            refine lv_goto (tgt := 105) hx hb dX9_cross_65 (by decide) ?_
            have hE9 : cCrL 13 14 15 6 8 p4 p5 1 101 0 (cCr0 u 13 14 6 p2 p3) = (2, u40) := by rw [hT, cCrL, if_pos (by omega)]; simp only [← hz42, ← hu40]; (repeat (first | rw [if_pos (by omega)] | rw [if_neg (by omega)]))
            refine lv_aload_n hx hb dX9_cross_105 rfl (lv_at hl 2 rfl) ?_
            refine lv_aload_n hx hb dX9_cross_106 rfl (lv_at hl 2 rfl) ?_
            refine g_get (C := RX9) (T := TX9) (N := 9) (ci := 8) hx hb hts (fun _ h => (List.mem_cons_of_mem _ (List.mem_append_left _ (List.mem_append_right _ h)))) hown hC.1 hG 2 (by decide) rfl rfl 6 (by decide) (hts (.fieldLink RX9 31 "StraitSwim$Swim" "colds" "[I") (List.mem_cons_of_mem _ (List.mem_append_left _ (List.mem_append_left _ (List.mem_append_left _ (List.mem_of_getElem? (i := 5) rfl)))))) (fun _ h9 => h9) rfl dX9_cross_107 ?_
            refine lv_iload hx hb dX9_cross_110 (lv_at hl 0 rfl) ?_
            refine z_iconst hx hb dX9_cross_112 ?_
            refine z_icmp_ne (tgt := 125) hx hb dX9_cross_113 (by decide) (by omega) (by omega) (by omega) (by omega) (fun c_55 => ?_) (fun c_55 => ?_)
            · refine lv_aload_n hx hb dX9_cross_125 rfl (lv_at hl 2 rfl) ?_
              refine g_get (C := RX9) (T := TX9) (N := 9) (ci := 8) hx hb hts (fun _ h => (List.mem_cons_of_mem _ (List.mem_append_left _ (List.mem_append_right _ h)))) hown hC.1 hG 2 (by decide) rfl rfl 1 (by decide) (hts (.fieldLink RX9 15 "StraitSwim$Swim" "quarters" "I") (List.mem_cons_of_mem _ (List.mem_append_left _ (List.mem_append_left _ (List.mem_append_left _ (List.mem_of_getElem? (i := 0) rfl)))))) (fun _ h9 => h9) rfl dX9_cross_126 ?_
              refine g_iald (n := 101) hx hb hC.1 hG 16 (by decide) rfl (by omega) (by omega) (by decide) dX9_cross_129 ?_
              have q_56 := icl (u40.1 6).toNat (by omega)
              refine g_put (C := RX9) (T := TX9) (N := 9) (ci := 8) (ty := .int) hx hb hts (fun _ h => (List.mem_cons_of_mem _ (List.mem_append_left _ (List.mem_append_right _ h)))) tyX9 tyX9_ok nmX9 hown hC.1 hG hS 2 (by decide) rfl rfl 2 7 (by decide) (hts (.fieldLink RX9 18 "StraitSwim$Swim" "cold" "I") (List.mem_cons_of_mem _ (List.mem_append_left _ (List.mem_append_left _ (List.mem_append_left _ (List.mem_of_getElem? (i := 6) rfl)))))) (fun _ h9 => h9) rfl (by decide +kernel) rfl rfl (Nat.le_of_ble_eq_true rfl) rfl (gO_7 ad _ _) dX9_cross_130 (fun u57 H locs hu57 hG hS => ?_)
              refine lv_iload hx hb dX9_cross_133 (lv_at hl 0 rfl) ?_
              exact W.iret (v := zI 2) hx hb hr (fun t9 ht9_ hW => ⟨⟨zI 2, u57, rfl, (by first | (exfalso; omega) | (unfold cCross; (first | rw [if_pos (by omega)] | rw [if_neg (by omega)]); rw [hE9]; unfold cCrE; dsimp only; (repeat (first | rw [if_pos (by omega)] | rw [if_neg (by omega)])); subst hu57; exact ⟨rfl, rfl⟩)), gB.mk' hG hC hS ht9_ hW⟩, hS.F ht9_⟩) hS.2.2 dX9_cross_135
            · refine lv_aload_n hx hb dX9_cross_116 rfl (lv_at hl 2 rfl) ?_
              refine g_get (C := RX9) (T := TX9) (N := 9) (ci := 8) hx hb hts (fun _ h => (List.mem_cons_of_mem _ (List.mem_append_left _ (List.mem_append_right _ h)))) hown hC.1 hG 2 (by decide) rfl rfl 1 (by decide) (hts (.fieldLink RX9 15 "StraitSwim$Swim" "quarters" "I") (List.mem_cons_of_mem _ (List.mem_append_left _ (List.mem_append_left _ (List.mem_append_left _ (List.mem_of_getElem? (i := 0) rfl)))))) (fun _ h9 => h9) rfl dX9_cross_117 ?_
              refine z_iconst hx hb dX9_cross_120 ?_
              refine z_isub hx hb dX9_cross_121 ?_
              refine lv_goto (tgt := 129) hx hb dX9_cross_122 (by decide) ?_
              refine g_iald (n := 101) hx hb hC.1 hG 16 (by decide) rfl (by omega) (by omega) (by decide) dX9_cross_129 ?_
              have q_58 := icl ((u40.1 6) - 1).toNat (by omega)
              refine g_put (C := RX9) (T := TX9) (N := 9) (ci := 8) (ty := .int) hx hb hts (fun _ h => (List.mem_cons_of_mem _ (List.mem_append_left _ (List.mem_append_right _ h)))) tyX9 tyX9_ok nmX9 hown hC.1 hG hS 2 (by decide) rfl rfl 2 7 (by decide) (hts (.fieldLink RX9 18 "StraitSwim$Swim" "cold" "I") (List.mem_cons_of_mem _ (List.mem_append_left _ (List.mem_append_left _ (List.mem_append_left _ (List.mem_of_getElem? (i := 6) rfl)))))) (fun _ h9 => h9) rfl (by decide +kernel) rfl rfl (Nat.le_of_ble_eq_true rfl) rfl (gO_7 ad _ _) dX9_cross_130 (fun u59 H locs hu59 hG hS => ?_)
              refine lv_iload hx hb dX9_cross_133 (lv_at hl 0 rfl) ?_
              exact W.iret (v := zI 2) hx hb hr (fun t9 ht9_ hW => ⟨⟨zI 2, u59, rfl, (by first | (exfalso; omega) | (unfold cCross; (first | rw [if_pos (by omega)] | rw [if_neg (by omega)]); rw [hE9]; unfold cCrE; dsimp only; (repeat (first | rw [if_pos (by omega)] | rw [if_neg (by omega)])); subst hu59; exact ⟨rfl, rfl⟩)), gB.mk' hG hC hS ht9_ hW⟩, hS.F ht9_⟩) hS.2.2 dX9_cross_135
    exact loop36 101 0 u3 _ _ _ (by omega) (by omega) (by subst hu3; subst hu2; subst hu1; rfl) (by subst hu3; subst hu2; subst hu1; rfl) (by subst hu3; subst hu2; subst hu1; exact i10) (by subst hu3; subst hu2; subst hu1; exact i11) (by subst hu3; subst hu2; subst hu1; exact isd) (by subst hu3; subst hu2; subst hu1; exact icl) (by subst hu3; subst hu2; subst hu1; exact hd) (by have e9 : u3.2.1 13 (Int.toNat 0) = p2 := (by subst hu3; subst hu2; subst hu1; rfl); rw [e9]; exact j_2) (by have e9 : u3.2.1 14 (Int.toNat 0) = p3 := (by subst hu3; subst hu2; subst hu1; rfl); rw [e9]; exact j_3) (by unfold cCr0; subst hu3; subst hu2; subst hu1; rfl) hG hS (lv_sub hl [0, 1, 2, 3, 4, 5, 6, 7] rfl)
set_option maxHeartbeats 4000000 in
set_option maxRecDepth 100000 in
theorem kX9_cross_3 (l : Launch) (D : va_G) (cy : Nat → ClassId) (ad : Nat → Nat) (jf : Nat → Int64) (A : Nat → Prop) (u : gS) (p2 p3 p4 p5 : Int) (j_2 : 0 ≤ p2 ∧ p2 ≤ 239) (j_3 : 0 ≤ p3 ∧ p3 ≤ 119) (j_4 : 0 ≤ p4 ∧ p4 ≤ 47) (j_5 : 0 ≤ p5 ∧ p5 ≤ 7) (i10 : ∀ j, j < 36 → -9 ≤ u.2.1 10 j ∧ u.2.1 10 j ≤ 9) (i11 : ∀ j, j < 36 → -9 ≤ u.2.1 11 j ∧ u.2.1 11 j ≤ 9) (isd : ∀ j, j < 100 → 0 ≤ u.2.1 19 j ∧ u.2.1 19 j ≤ 24) (icl : ∀ j, j < 101 → 0 ≤ u.2.1 20 j ∧ u.2.1 20 j ≤ 100000) (hd : ∀ j, j < 288 → u.2.1 9 j = 0 ∨ u.2.1 9 j = 1) (irc : 0 ≤ u.1 13 ∧ u.1 13 ≤ 100) (itc : u.1 14 = 0 ∨ u.1 14 = 1) : Met l yX9_cross wsX9_cross ({ frames := 3, cells := 0, slots := 0, locals := 72 }) (va_Pc [.ref (ad 3), .ref (ad 1), .int (zI p2), .int (zI p3), .int (zI p4), .int (zI p5)] (gB D cy ad jf A u)) (va_Qi (fun (r : Int32) (v : gS) => r = zI (cCross u 17 18 19 20 11 12 13 14 p2 p3 p4 p5).1 ∧ v = (cCross u 17 18 19 20 11 12 13 14 p2 p3 p4 p5).2) (gB D cy ad jf A) A) 0 0 A := by
  refine Met.ofW (cc := cX9_cross) (maxL := 8) (ret := (some .int)) (by decide) rfl ?_
  intro p e s m args below meth c s₁ B hml hv
  obtain ⟨rfl, hG, hC⟩ := hv
  have hx := B.exec
  have hb := B.bytes
  have hr := B.returns
  have hts := atoms_spec (ws := wsX9_cross) B.pre
  have hown : s.vm.findClass RX9 = some m.cls := findClass_of_methodNamed B.named
  have hlocks := B.notSynchronized
  have hS : va_S A s.heap s.heap [] := va_S.rf
  have hl := lv_entry ([.ref (ad 3), .ref (ad 1), .int (zI p2), .int (zI p3), .int (zI p4), .int (zI p5)]) (n := 8) (Nat.le_of_ble_eq_true rfl)
  rw [lg_entry_eq]
  generalize (lg_sl ([.ref (ad 3), .ref (ad 1), .int (zI p2), .int (zI p3), .int (zI p4), .int (zI p5)]) ++ List.replicate (8 - (lg_sl ([.ref (ad 3), .ref (ad 1), .int (zI p2), .int (zI p3), .int (zI p4), .int (zI p5)])).length) Slot.unset).toArray = ls at hl ⊢
  have hl : lv_has ls 8 [(0, .ref (ad 3)), (1, .ref (ad 1)), (2, .int (zI p2)), (3, .int (zI p3)), (4, .int (zI p4)), (5, .int (zI p5))] := hl
  refine lv_aload_n hx hb dX9_cross_0 rfl (lv_at hl 0 rfl) ?_
  refine z_iconst hx hb dX9_cross_1 ?_
  refine g_put (C := RX9) (T := TX9) (N := 9) (ci := 8) (ty := .int) hx hb hts (fun _ h => (List.mem_cons_of_mem _ (List.mem_append_left _ (List.mem_append_right _ h)))) tyX9 tyX9_ok nmX9 hown hC.1 hG hS 3 (by decide) rfl rfl 1 11 (by decide) (hts (.fieldLink RX9 15 "StraitSwim$Swim" "quarters" "I") (List.mem_cons_of_mem _ (List.mem_append_left _ (List.mem_append_left _ (List.mem_append_left _ (List.mem_of_getElem? (i := 0) rfl)))))) (fun _ h9 => h9) rfl (by decide +kernel) rfl rfl (Nat.le_of_ble_eq_true rfl) rfl (gO_11 ad _ _) dX9_cross_2 (fun u1 H locs hu1 hG hS => ?_)
  refine lv_aload_n hx hb dX9_cross_5 rfl (lv_at hl 0 rfl) ?_
  refine g_get (C := RX9) (T := TX9) (N := 9) (ci := 8) hx hb hts (fun _ h => (List.mem_cons_of_mem _ (List.mem_append_left _ (List.mem_append_right _ h)))) hown hC.1 hG 3 (by decide) rfl rfl 3 (by decide) (hts (.fieldLink RX9 21 "StraitSwim$Swim" "xs" "[I") (List.mem_cons_of_mem _ (List.mem_append_left _ (List.mem_append_left _ (List.mem_append_left _ (List.mem_of_getElem? (i := 1) rfl)))))) (fun _ h9 => h9) rfl dX9_cross_6 ?_
  refine z_iconst hx hb dX9_cross_9 ?_
  refine lv_iload_n hx hb dX9_cross_10 rfl (lv_at hl 2 rfl) ?_
  refine g_iast (n := 101) hx hb hC.1 hG hS 17 (by decide) rfl rfl (by omega) (by omega) (by decide) dX9_cross_11 (fun u2 H locs hu2 hG hS => ?_)
  refine lv_aload_n hx hb dX9_cross_12 rfl (lv_at hl 0 rfl) ?_
  refine g_get (C := RX9) (T := TX9) (N := 9) (ci := 8) hx hb hts (fun _ h => (List.mem_cons_of_mem _ (List.mem_append_left _ (List.mem_append_right _ h)))) hown hC.1 hG 3 (by decide) rfl rfl 4 (by decide) (hts (.fieldLink RX9 25 "StraitSwim$Swim" "ys" "[I") (List.mem_cons_of_mem _ (List.mem_append_left _ (List.mem_append_left _ (List.mem_append_left _ (List.mem_of_getElem? (i := 2) rfl)))))) (fun _ h9 => h9) rfl dX9_cross_13 ?_
  refine z_iconst hx hb dX9_cross_16 ?_
  refine lv_iload_n hx hb dX9_cross_17 rfl (lv_at hl 3 rfl) ?_
  refine g_iast (n := 101) hx hb hC.1 hG hS 18 (by decide) rfl rfl (by omega) (by omega) (by decide) dX9_cross_18 (fun u3 H locs hu3 hG hS => ?_)
  refine lv_aload_n hx hb dX9_cross_19 rfl (lv_at hl 0 rfl) ?_
  refine g_get (C := RX9) (T := TX9) (N := 9) (ci := 8) hx hb hts (fun _ h => (List.mem_cons_of_mem _ (List.mem_append_left _ (List.mem_append_right _ h)))) hown hC.1 hG 3 (by decide) rfl rfl 8 (by decide) (hts (.fieldLink RX9 37 "StraitSwim$Swim" "tooCold" "Z") (List.mem_cons_of_mem _ (List.mem_append_left _ (List.mem_append_left _ (List.mem_append_left _ (List.mem_of_getElem? (i := 3) rfl)))))) (fun _ h9 => h9) rfl dX9_cross_20 ?_
  have e_4 : u3.1 14 = u.1 14 := by subst hu3; subst hu2; subst hu1; rfl
  rw [e_4]
  refine z_if_eq (tgt := 30) hx hb dX9_cross_23 (by decide) (by omega) (by omega) (fun c_5 => ?_) (fun c_5 => ?_)
  · refine z_iconst hx hb dX9_cross_30 ?_
    refine lv_istore (lv' := [(6, .int (zI 3)), (0, .ref (ad 3)), (1, .ref (ad 1)), (2, .int (zI p2)), (3, .int (zI p3)), (4, .int (zI p4)), (5, .int (zI p5))]) hx hb dX9_cross_31 hl (by decide) rfl (fun ls hl => ?_)
    refine z_iconst hx hb dX9_cross_33 ?_
    refine lv_istore (lv' := [(7, .int (zI 0)), (6, .int (zI 3)), (0, .ref (ad 3)), (1, .ref (ad 1)), (2, .int (zI p2)), (3, .int (zI p3)), (4, .int (zI p4)), (5, .int (zI p5))]) hx hb dX9_cross_34 hl (by decide) rfl (fun ls hl => ?_)
    have loop36 : ∀ (n : Nat) (t : Int) (w : gS) (H : Heap) (locs : List Loc) (ls : Array Slot), (u.1 13 - t).toNat < n → (0 ≤ t ∧ t ≤ 100) → (w.1 11 = t) → (w.1 13 = u.1 13) → (∀ j, j < 36 → -9 ≤ w.2.1 10 j ∧ w.2.1 10 j ≤ 9) → (∀ j, j < 36 → -9 ≤ w.2.1 11 j ∧ w.2.1 11 j ≤ 9) → (∀ j, j < 100 → 0 ≤ w.2.1 19 j ∧ w.2.1 19 j ≤ 24) → (∀ j, j < 101 → 0 ≤ w.2.1 20 j ∧ w.2.1 20 j ≤ 100000) → (∀ j, j < 288 → w.2.1 9 j = 0 ∨ w.2.1 9 j = 1) → (0 ≤ w.2.1 17 t.toNat ∧ w.2.1 17 t.toNat ≤ 239) → (0 ≤ w.2.1 18 t.toNat ∧ w.2.1 18 t.toNat ≤ 119) → (cCrL 17 18 19 11 13 p4 p5 3 101 0 (cCr0 u 17 18 11 p2 p3) = cCrL 17 18 19 11 13 p4 p5 3 n t w) → gH D cy ad jf A w H → va_S A s.heap H locs → lv_has ls 8 [(7, .int (zI t)), (6, .int (zI 3)), (0, .ref (ad 3)), (1, .ref (ad 1)), (2, .int (zI p2)), (3, .int (zI p3)), (4, .int (zI p4)), (5, .int (zI p5))] → W p l e (headSpec wsX9_cross ({ frames := 3, cells := 0, slots := 0, locals := 72 })).room s m ([.ref (ad 3), .ref (ad 1), .int (zI p2), .int (zI p3), .int (zI p4), .int (zI p5)]).toArray below meth c H locs 0 0 (MQ below (va_Qi (fun (r : Int32) (v : gS) => r = zI (cCross u 17 18 19 20 11 12 13 14 p2 p3 p4 p5).1 ∧ v = (cCross u 17 18 19 20 11 12 13 14 p2 p3 p4 p5).2) (gB D cy ad jf A) A) ([.ref (ad 3), .ref (ad 1), .int (zI p2), .int (zI p3), .int (zI p4), .int (zI p5)]).toArray s 0 0 A) (F0 m 36 ls []) := by
      intro n
      induction n with
      | zero => intro t w H locs ls hm; exact absurd hm (Nat.not_lt_zero _)
      | succ n ih36 =>
        intro t w H locs ls hm ht9 hq9 hrc i10 i11 isd icl hd hpx hpy hT hG hS hl
        refine lv_iload hx hb dX9_cross_36 (lv_at hl 0 rfl) ?_
        refine lv_aload_n hx hb dX9_cross_38 rfl (lv_at hl 2 rfl) ?_
        refine g_get (C := RX9) (T := TX9) (N := 9) (ci := 8) hx hb hts (fun _ h => (List.mem_cons_of_mem _ (List.mem_append_left _ (List.mem_append_right _ h)))) hown hC.1 hG 3 (by decide) rfl rfl 7 (by decide) (hts (.fieldLink RX9 34 "StraitSwim$Swim" "reach" "I") (List.mem_cons_of_mem _ (List.mem_append_left _ (List.mem_append_left _ (List.mem_append_left _ (List.mem_of_getElem? (i := 4) rfl)))))) (fun _ h9 => h9) rfl dX9_cross_39 ?_
        refine z_icmp_ge (tgt := 105) hx hb dX9_cross_42 (by decide) (by omega) (by omega) (by omega) (by omega) (fun c_6 => ?_) (fun c_6 => ?_)
        · have hE9 : cCrL 17 18 19 11 13 p4 p5 3 101 0 (cCr0 u 17 18 11 p2 p3) = (3, w) := by rw [hT, cCrL, if_neg (by omega)]
          refine lv_aload_n hx hb dX9_cross_105 rfl (lv_at hl 2 rfl) ?_
          refine lv_aload_n hx hb dX9_cross_106 rfl (lv_at hl 2 rfl) ?_
          refine g_get (C := RX9) (T := TX9) (N := 9) (ci := 8) hx hb hts (fun _ h => (List.mem_cons_of_mem _ (List.mem_append_left _ (List.mem_append_right _ h)))) hown hC.1 hG 3 (by decide) rfl rfl 6 (by decide) (hts (.fieldLink RX9 31 "StraitSwim$Swim" "colds" "[I") (List.mem_cons_of_mem _ (List.mem_append_left _ (List.mem_append_left _ (List.mem_append_left _ (List.mem_of_getElem? (i := 5) rfl)))))) (fun _ h9 => h9) rfl dX9_cross_107 ?_
          refine lv_iload hx hb dX9_cross_110 (lv_at hl 1 rfl) ?_
          refine z_iconst hx hb dX9_cross_112 ?_
          refine z_icmp_ne (tgt := 125) hx hb dX9_cross_113 (by decide) (by omega) (by omega) (by omega) (by omega) (fun c_7 => ?_) (fun c_7 => ?_)
          · refine lv_aload_n hx hb dX9_cross_125 rfl (lv_at hl 2 rfl) ?_
            refine g_get (C := RX9) (T := TX9) (N := 9) (ci := 8) hx hb hts (fun _ h => (List.mem_cons_of_mem _ (List.mem_append_left _ (List.mem_append_right _ h)))) hown hC.1 hG 3 (by decide) rfl rfl 1 (by decide) (hts (.fieldLink RX9 15 "StraitSwim$Swim" "quarters" "I") (List.mem_cons_of_mem _ (List.mem_append_left _ (List.mem_append_left _ (List.mem_append_left _ (List.mem_of_getElem? (i := 0) rfl)))))) (fun _ h9 => h9) rfl dX9_cross_126 ?_
            refine g_iald (n := 101) hx hb hC.1 hG 20 (by decide) rfl (by omega) (by omega) (by decide) dX9_cross_129 ?_
            have q_8 := icl (w.1 11).toNat (by omega)
            refine g_put (C := RX9) (T := TX9) (N := 9) (ci := 8) (ty := .int) hx hb hts (fun _ h => (List.mem_cons_of_mem _ (List.mem_append_left _ (List.mem_append_right _ h)))) tyX9 tyX9_ok nmX9 hown hC.1 hG hS 3 (by decide) rfl rfl 2 12 (by decide) (hts (.fieldLink RX9 18 "StraitSwim$Swim" "cold" "I") (List.mem_cons_of_mem _ (List.mem_append_left _ (List.mem_append_left _ (List.mem_append_left _ (List.mem_of_getElem? (i := 6) rfl)))))) (fun _ h9 => h9) rfl (by decide +kernel) rfl rfl (Nat.le_of_ble_eq_true rfl) rfl (gO_12 ad _ _) dX9_cross_130 (fun u9 H locs hu9 hG hS => ?_)
            refine lv_iload hx hb dX9_cross_133 (lv_at hl 1 rfl) ?_
            exact W.iret (v := zI 3) hx hb hr (fun t9 ht9_ hW => ⟨⟨zI 3, u9, rfl, (by first | (exfalso; omega) | (unfold cCross; (first | rw [if_pos (by omega)] | rw [if_neg (by omega)]); rw [hE9]; unfold cCrE; dsimp only; (repeat (first | rw [if_pos (by omega)] | rw [if_neg (by omega)])); subst hu9; exact ⟨rfl, rfl⟩)), gB.mk' hG hC hS ht9_ hW⟩, hS.F ht9_⟩) hS.2.2 dX9_cross_135
          · refine lv_aload_n hx hb dX9_cross_116 rfl (lv_at hl 2 rfl) ?_
            refine g_get (C := RX9) (T := TX9) (N := 9) (ci := 8) hx hb hts (fun _ h => (List.mem_cons_of_mem _ (List.mem_append_left _ (List.mem_append_right _ h)))) hown hC.1 hG 3 (by decide) rfl rfl 1 (by decide) (hts (.fieldLink RX9 15 "StraitSwim$Swim" "quarters" "I") (List.mem_cons_of_mem _ (List.mem_append_left _ (List.mem_append_left _ (List.mem_append_left _ (List.mem_of_getElem? (i := 0) rfl)))))) (fun _ h9 => h9) rfl dX9_cross_117 ?_
            refine z_iconst hx hb dX9_cross_120 ?_
            refine z_isub hx hb dX9_cross_121 ?_
            refine lv_goto (tgt := 129) hx hb dX9_cross_122 (by decide) ?_
            refine g_iald (n := 101) hx hb hC.1 hG 20 (by decide) rfl (by omega) (by omega) (by decide) dX9_cross_129 ?_
            have q_10 := icl ((w.1 11) - 1).toNat (by omega)
            refine g_put (C := RX9) (T := TX9) (N := 9) (ci := 8) (ty := .int) hx hb hts (fun _ h => (List.mem_cons_of_mem _ (List.mem_append_left _ (List.mem_append_right _ h)))) tyX9 tyX9_ok nmX9 hown hC.1 hG hS 3 (by decide) rfl rfl 2 12 (by decide) (hts (.fieldLink RX9 18 "StraitSwim$Swim" "cold" "I") (List.mem_cons_of_mem _ (List.mem_append_left _ (List.mem_append_left _ (List.mem_append_left _ (List.mem_of_getElem? (i := 6) rfl)))))) (fun _ h9 => h9) rfl (by decide +kernel) rfl rfl (Nat.le_of_ble_eq_true rfl) rfl (gO_12 ad _ _) dX9_cross_130 (fun u11 H locs hu11 hG hS => ?_)
            refine lv_iload hx hb dX9_cross_133 (lv_at hl 1 rfl) ?_
            exact W.iret (v := zI 3) hx hb hr (fun t9 ht9_ hW => ⟨⟨zI 3, u11, rfl, (by first | (exfalso; omega) | (unfold cCross; (first | rw [if_pos (by omega)] | rw [if_neg (by omega)]); rw [hE9]; unfold cCrE; dsimp only; (repeat (first | rw [if_pos (by omega)] | rw [if_neg (by omega)])); subst hu11; exact ⟨rfl, rfl⟩)), gB.mk' hG hC hS ht9_ hW⟩, hS.F ht9_⟩) hS.2.2 dX9_cross_135
        · refine lv_aload_n hx hb dX9_cross_45 rfl (lv_at hl 2 rfl) ?_
          refine lv_aload_n hx hb dX9_cross_46 rfl (lv_at hl 3 rfl) ?_
          refine lv_iload hx hb dX9_cross_47 (lv_at hl 0 rfl) ?_
          refine lv_iload hx hb dX9_cross_49 (lv_at hl 6 rfl) ?_
          refine lv_iload hx hb dX9_cross_51 (lv_at hl 0 rfl) ?_
          refine z_iadd hx hb dX9_cross_53 ?_
          refine lv_iload hx hb dX9_cross_54 (lv_at hl 7 rfl) ?_
          refine g_calli (va_runV (As := [.ref (ad 1), .int (zI t), .int (zI (p4 + t)), .int (zI p5)]) (rest := []) ⟨hx, hb, hml, hown, hts⟩ (kX9_staysWithin_3 l D cy ad jf A w t (p4 + t) p5 (by omega) (by omega) (by omega) i10 i11 isd hpx hpy) (cwV 4 hts gX9_cross_X9_staysWithin rfl rfl rfl (by decide +kernel) ⟨by decide, by decide⟩) (g_preV (C := RX9) hG hC hS 3 (by decide) rfl rfl) rfl rfl hl.1 rfl (lv_room (Nat.le_of_ble_eq_true rfl)) dX9_cross_56 ⟨Nat.le_of_ble_eq_true rfl, Nat.le_of_ble_eq_true rfl⟩) hS (fun r12 u13 H locs p_14 hG hS => ?_)
          obtain ⟨rfl, hu13⟩ := p_14
          obtain ⟨z15, hz15⟩ : ∃ z : Int, z = (cStay w 17 18 19 11 t (p4 + t) p5).1 := ⟨_, rfl⟩
          rw [← hz15]
          have qz15 : z15 = 0 ∨ z15 = 1 := by rw [hz15]; exact cStay_res _ _ _ _ _ _ _ _
          obtain ⟨hk1_, hk2_, hk3_, hk4_⟩ := cStay_keep w 17 18 19 11 t (p4 + t) p5
          obtain ⟨hn1, hn2⟩ := cStay_in w 17 18 19 11 t (p4 + t) p5 (by decide) hpx hpy
          rw [← hu13] at hk1_ hk2_ hk3_ hk4_ hn1 hn2
          rw [← hk1_ 10 (by decide)] at i10
          rw [← hk1_ 11 (by decide)] at i11
          rw [← hk1_ 19 (by decide)] at isd
          rw [← hk1_ 9 (by decide)] at hd
          rw [← hk1_ 20 (by decide)] at icl
          have hrc2 := (hk2_ 13 (by decide)).trans hrc
          refine z_if_ne (tgt := 68) hx hb dX9_cross_59 (by decide) (by omega) (by omega) (fun c_16 => ?_) (fun c_16 => ?_)
          · refine lv_aload_n hx hb dX9_cross_68 rfl (lv_at hl 3 rfl) ?_
            refine lv_aload_n hx hb dX9_cross_69 rfl (lv_at hl 2 rfl) ?_
            refine g_get (C := RX9) (T := TX9) (N := 9) (ci := 8) hx hb hts (fun _ h => (List.mem_cons_of_mem _ (List.mem_append_left _ (List.mem_append_right _ h)))) hown hC.1 hG 3 (by decide) rfl rfl 3 (by decide) (hts (.fieldLink RX9 21 "StraitSwim$Swim" "xs" "[I") (List.mem_cons_of_mem _ (List.mem_append_left _ (List.mem_append_left _ (List.mem_append_left _ (List.mem_of_getElem? (i := 1) rfl)))))) (fun _ h9 => h9) rfl dX9_cross_70 ?_
            refine lv_iload hx hb dX9_cross_73 (lv_at hl 0 rfl) ?_
            refine z_iconst hx hb dX9_cross_75 ?_
            refine z_iadd hx hb dX9_cross_76 ?_
            refine g_iald (n := 101) hx hb hC.1 hG 17 (by decide) rfl (by omega) (by omega) (by decide) dX9_cross_77 ?_
            refine lv_aload_n hx hb dX9_cross_78 rfl (lv_at hl 2 rfl) ?_
            refine g_get (C := RX9) (T := TX9) (N := 9) (ci := 8) hx hb hts (fun _ h => (List.mem_cons_of_mem _ (List.mem_append_left _ (List.mem_append_right _ h)))) hown hC.1 hG 3 (by decide) rfl rfl 4 (by decide) (hts (.fieldLink RX9 25 "StraitSwim$Swim" "ys" "[I") (List.mem_cons_of_mem _ (List.mem_append_left _ (List.mem_append_left _ (List.mem_append_left _ (List.mem_of_getElem? (i := 2) rfl)))))) (fun _ h9 => h9) rfl dX9_cross_79 ?_
            refine lv_iload hx hb dX9_cross_82 (lv_at hl 0 rfl) ?_
            refine z_iconst hx hb dX9_cross_84 ?_
            refine z_iadd hx hb dX9_cross_85 ?_
            refine g_iald (n := 101) hx hb hC.1 hG 18 (by decide) rfl (by omega) (by omega) (by decide) dX9_cross_86 ?_
            refine g_calli (va_runV (As := [.int (zI (u13.2.1 17 (t + 1).toNat)), .int (zI (u13.2.1 18 (t + 1).toNat))]) (rest := []) ⟨hx, hb, hml, hown, hts⟩ (kX8_isDry l D cy ad jf A u13 (u13.2.1 17 (t + 1).toNat) (u13.2.1 18 (t + 1).toNat) (by omega) (by omega) hd) (cwV 2 hts gX9_cross_X8_isDry rfl rfl rfl (by decide +kernel) ⟨by decide, by decide⟩) (g_preV (C := RX8) hG hC hS 1 (by decide) rfl rfl) rfl rfl hl.1 rfl (lv_room (Nat.le_of_ble_eq_true rfl)) dX9_cross_87 ⟨Nat.le_of_ble_eq_true rfl, Nat.le_of_ble_eq_true rfl⟩) hS (fun r17 u18 H locs p_19 hG hS => ?_)
            obtain ⟨rfl, he_⟩ := p_19
            rw [he_] at hG; clear he_
            obtain ⟨z21, hz21⟩ : ∃ z : Int, z = spDry (u13.2.1 9) (u13.2.1 17 (t + 1).toNat) (u13.2.1 18 (t + 1).toNat) := ⟨_, rfl⟩
            rw [← hz21]
            have q_20 : z21 = 0 ∨ z21 = 1 := by rw [hz21]; exact hd _ (by omega)
            refine z_if_eq (tgt := 99) hx hb dX9_cross_90 (by decide) (by omega) (by omega) (fun c_22 => ?_) (fun c_22 => ?_)
            · refine z_iinc (lv' := [(7, .int (zI (t + 1))), (6, .int (zI 3)), (0, .ref (ad 3)), (1, .ref (ad 1)), (2, .int (zI p2)), (3, .int (zI p3)), (4, .int (zI p4)), (5, .int (zI p5))]) hx hb dX9_cross_99 hl (k := 0) rfl (by decide) rfl (fun ls hl => ?_)
              refine lv_goto (tgt := 36) hx hb dX9_cross_102 (by decide) ?_
              exact ih36 (t + 1) u13 _ _ _ (by omega) (by omega) (by exact hk3_) (by exact hrc2) (by exact i10) (by exact i11) (by exact isd) (by exact icl) (by exact hd) (by exact hn1) (by exact hn2) (by rw [hT, cCrL, if_pos (by omega)]; simp only [← hz15, ← hu13, ← hz21]; (repeat (first | rw [if_pos (by omega)] | rw [if_neg (by omega)]))) hG hS (lv_sub hl [0, 1, 2, 3, 4, 5, 6, 7] rfl)
            · refine z_iconst hx hb dX9_cross_93 ?_
              refine lv_istore (lv' := [(6, .int (zI 0)), (7, .int (zI t)), (0, .ref (ad 3)), (1, .ref (ad 1)), (2, .int (zI p2)), (3, .int (zI p3)), (4, .int (zI p4)), (5, .int (zI p5))]) hx hb dX9_cross_94 hl (by decide) rfl (fun ls hl => ?_)
              refine lv_goto (tgt := 105) hx hb dX9_cross_96 (by decide) ?_
              have hE9 : cCrL 17 18 19 11 13 p4 p5 3 101 0 (cCr0 u 17 18 11 p2 p3) = (0, u13) := by rw [hT, cCrL, if_pos (by omega)]; simp only [← hz15, ← hu13, ← hz21]; (repeat (first | rw [if_pos (by omega)] | rw [if_neg (by omega)]))
              refine lv_aload_n hx hb dX9_cross_105 rfl (lv_at hl 2 rfl) ?_
              refine lv_aload_n hx hb dX9_cross_106 rfl (lv_at hl 2 rfl) ?_
              refine g_get (C := RX9) (T := TX9) (N := 9) (ci := 8) hx hb hts (fun _ h => (List.mem_cons_of_mem _ (List.mem_append_left _ (List.mem_append_right _ h)))) hown hC.1 hG 3 (by decide) rfl rfl 6 (by decide) (hts (.fieldLink RX9 31 "StraitSwim$Swim" "colds" "[I") (List.mem_cons_of_mem _ (List.mem_append_left _ (List.mem_append_left _ (List.mem_append_left _ (List.mem_of_getElem? (i := 5) rfl)))))) (fun _ h9 => h9) rfl dX9_cross_107 ?_
              refine lv_iload hx hb dX9_cross_110 (lv_at hl 0 rfl) ?_
              refine z_iconst hx hb dX9_cross_112 ?_
              refine z_icmp_ne (tgt := 125) hx hb dX9_cross_113 (by decide) (by omega) (by omega) (by omega) (by omega) (fun c_23 => ?_) (fun c_23 => ?_)
              · refine lv_aload_n hx hb dX9_cross_125 rfl (lv_at hl 2 rfl) ?_
                refine g_get (C := RX9) (T := TX9) (N := 9) (ci := 8) hx hb hts (fun _ h => (List.mem_cons_of_mem _ (List.mem_append_left _ (List.mem_append_right _ h)))) hown hC.1 hG 3 (by decide) rfl rfl 1 (by decide) (hts (.fieldLink RX9 15 "StraitSwim$Swim" "quarters" "I") (List.mem_cons_of_mem _ (List.mem_append_left _ (List.mem_append_left _ (List.mem_append_left _ (List.mem_of_getElem? (i := 0) rfl)))))) (fun _ h9 => h9) rfl dX9_cross_126 ?_
                refine g_iald (n := 101) hx hb hC.1 hG 20 (by decide) rfl (by omega) (by omega) (by decide) dX9_cross_129 ?_
                have q_24 := icl (u13.1 11).toNat (by omega)
                refine g_put (C := RX9) (T := TX9) (N := 9) (ci := 8) (ty := .int) hx hb hts (fun _ h => (List.mem_cons_of_mem _ (List.mem_append_left _ (List.mem_append_right _ h)))) tyX9 tyX9_ok nmX9 hown hC.1 hG hS 3 (by decide) rfl rfl 2 12 (by decide) (hts (.fieldLink RX9 18 "StraitSwim$Swim" "cold" "I") (List.mem_cons_of_mem _ (List.mem_append_left _ (List.mem_append_left _ (List.mem_append_left _ (List.mem_of_getElem? (i := 6) rfl)))))) (fun _ h9 => h9) rfl (by decide +kernel) rfl rfl (Nat.le_of_ble_eq_true rfl) rfl (gO_12 ad _ _) dX9_cross_130 (fun u25 H locs hu25 hG hS => ?_)
                refine lv_iload hx hb dX9_cross_133 (lv_at hl 0 rfl) ?_
                exact W.iret (v := zI 0) hx hb hr (fun t9 ht9_ hW => ⟨⟨zI 0, u25, rfl, (by first | (exfalso; omega) | (unfold cCross; (first | rw [if_pos (by omega)] | rw [if_neg (by omega)]); rw [hE9]; unfold cCrE; dsimp only; (repeat (first | rw [if_pos (by omega)] | rw [if_neg (by omega)])); subst hu25; exact ⟨rfl, rfl⟩)), gB.mk' hG hC hS ht9_ hW⟩, hS.F ht9_⟩) hS.2.2 dX9_cross_135
              · refine lv_aload_n hx hb dX9_cross_116 rfl (lv_at hl 2 rfl) ?_
                refine g_get (C := RX9) (T := TX9) (N := 9) (ci := 8) hx hb hts (fun _ h => (List.mem_cons_of_mem _ (List.mem_append_left _ (List.mem_append_right _ h)))) hown hC.1 hG 3 (by decide) rfl rfl 1 (by decide) (hts (.fieldLink RX9 15 "StraitSwim$Swim" "quarters" "I") (List.mem_cons_of_mem _ (List.mem_append_left _ (List.mem_append_left _ (List.mem_append_left _ (List.mem_of_getElem? (i := 0) rfl)))))) (fun _ h9 => h9) rfl dX9_cross_117 ?_
                refine z_iconst hx hb dX9_cross_120 ?_
                refine z_isub hx hb dX9_cross_121 ?_
                refine lv_goto (tgt := 129) hx hb dX9_cross_122 (by decide) ?_
                refine g_iald (n := 101) hx hb hC.1 hG 20 (by decide) rfl (by omega) (by omega) (by decide) dX9_cross_129 ?_
                have q_26 := icl ((u13.1 11) - 1).toNat (by omega)
                refine g_put (C := RX9) (T := TX9) (N := 9) (ci := 8) (ty := .int) hx hb hts (fun _ h => (List.mem_cons_of_mem _ (List.mem_append_left _ (List.mem_append_right _ h)))) tyX9 tyX9_ok nmX9 hown hC.1 hG hS 3 (by decide) rfl rfl 2 12 (by decide) (hts (.fieldLink RX9 18 "StraitSwim$Swim" "cold" "I") (List.mem_cons_of_mem _ (List.mem_append_left _ (List.mem_append_left _ (List.mem_append_left _ (List.mem_of_getElem? (i := 6) rfl)))))) (fun _ h9 => h9) rfl (by decide +kernel) rfl rfl (Nat.le_of_ble_eq_true rfl) rfl (gO_12 ad _ _) dX9_cross_130 (fun u27 H locs hu27 hG hS => ?_)
                refine lv_iload hx hb dX9_cross_133 (lv_at hl 0 rfl) ?_
                exact W.iret (v := zI 0) hx hb hr (fun t9 ht9_ hW => ⟨⟨zI 0, u27, rfl, (by first | (exfalso; omega) | (unfold cCross; (first | rw [if_pos (by omega)] | rw [if_neg (by omega)]); rw [hE9]; unfold cCrE; dsimp only; (repeat (first | rw [if_pos (by omega)] | rw [if_neg (by omega)])); subst hu27; exact ⟨rfl, rfl⟩)), gB.mk' hG hC hS ht9_ hW⟩, hS.F ht9_⟩) hS.2.2 dX9_cross_135
          · refine z_iconst hx hb dX9_cross_62 ?_
            refine lv_istore (lv' := [(6, .int (zI 2)), (7, .int (zI t)), (0, .ref (ad 3)), (1, .ref (ad 1)), (2, .int (zI p2)), (3, .int (zI p3)), (4, .int (zI p4)), (5, .int (zI p5))]) hx hb dX9_cross_63 hl (by decide) rfl (fun ls hl => ?_)
            refine lv_goto (tgt := 105) hx hb dX9_cross_65 (by decide) ?_
            have hE9 : cCrL 17 18 19 11 13 p4 p5 3 101 0 (cCr0 u 17 18 11 p2 p3) = (2, u13) := by rw [hT, cCrL, if_pos (by omega)]; simp only [← hz15, ← hu13]; (repeat (first | rw [if_pos (by omega)] | rw [if_neg (by omega)]))
            refine lv_aload_n hx hb dX9_cross_105 rfl (lv_at hl 2 rfl) ?_
            refine lv_aload_n hx hb dX9_cross_106 rfl (lv_at hl 2 rfl) ?_
            refine g_get (C := RX9) (T := TX9) (N := 9) (ci := 8) hx hb hts (fun _ h => (List.mem_cons_of_mem _ (List.mem_append_left _ (List.mem_append_right _ h)))) hown hC.1 hG 3 (by decide) rfl rfl 6 (by decide) (hts (.fieldLink RX9 31 "StraitSwim$Swim" "colds" "[I") (List.mem_cons_of_mem _ (List.mem_append_left _ (List.mem_append_left _ (List.mem_append_left _ (List.mem_of_getElem? (i := 5) rfl)))))) (fun _ h9 => h9) rfl dX9_cross_107 ?_
            refine lv_iload hx hb dX9_cross_110 (lv_at hl 0 rfl) ?_
            refine z_iconst hx hb dX9_cross_112 ?_
            refine z_icmp_ne (tgt := 125) hx hb dX9_cross_113 (by decide) (by omega) (by omega) (by omega) (by omega) (fun c_28 => ?_) (fun c_28 => ?_)
            · refine lv_aload_n hx hb dX9_cross_125 rfl (lv_at hl 2 rfl) ?_
              refine g_get (C := RX9) (T := TX9) (N := 9) (ci := 8) hx hb hts (fun _ h => (List.mem_cons_of_mem _ (List.mem_append_left _ (List.mem_append_right _ h)))) hown hC.1 hG 3 (by decide) rfl rfl 1 (by decide) (hts (.fieldLink RX9 15 "StraitSwim$Swim" "quarters" "I") (List.mem_cons_of_mem _ (List.mem_append_left _ (List.mem_append_left _ (List.mem_append_left _ (List.mem_of_getElem? (i := 0) rfl)))))) (fun _ h9 => h9) rfl dX9_cross_126 ?_
              refine g_iald (n := 101) hx hb hC.1 hG 20 (by decide) rfl (by omega) (by omega) (by decide) dX9_cross_129 ?_
              have q_29 := icl (u13.1 11).toNat (by omega)
              refine g_put (C := RX9) (T := TX9) (N := 9) (ci := 8) (ty := .int) hx hb hts (fun _ h => (List.mem_cons_of_mem _ (List.mem_append_left _ (List.mem_append_right _ h)))) tyX9 tyX9_ok nmX9 hown hC.1 hG hS 3 (by decide) rfl rfl 2 12 (by decide) (hts (.fieldLink RX9 18 "StraitSwim$Swim" "cold" "I") (List.mem_cons_of_mem _ (List.mem_append_left _ (List.mem_append_left _ (List.mem_append_left _ (List.mem_of_getElem? (i := 6) rfl)))))) (fun _ h9 => h9) rfl (by decide +kernel) rfl rfl (Nat.le_of_ble_eq_true rfl) rfl (gO_12 ad _ _) dX9_cross_130 (fun u30 H locs hu30 hG hS => ?_)
              refine lv_iload hx hb dX9_cross_133 (lv_at hl 0 rfl) ?_
              exact W.iret (v := zI 2) hx hb hr (fun t9 ht9_ hW => ⟨⟨zI 2, u30, rfl, (by first | (exfalso; omega) | (unfold cCross; (first | rw [if_pos (by omega)] | rw [if_neg (by omega)]); rw [hE9]; unfold cCrE; dsimp only; (repeat (first | rw [if_pos (by omega)] | rw [if_neg (by omega)])); subst hu30; exact ⟨rfl, rfl⟩)), gB.mk' hG hC hS ht9_ hW⟩, hS.F ht9_⟩) hS.2.2 dX9_cross_135
            · refine lv_aload_n hx hb dX9_cross_116 rfl (lv_at hl 2 rfl) ?_
              refine g_get (C := RX9) (T := TX9) (N := 9) (ci := 8) hx hb hts (fun _ h => (List.mem_cons_of_mem _ (List.mem_append_left _ (List.mem_append_right _ h)))) hown hC.1 hG 3 (by decide) rfl rfl 1 (by decide) (hts (.fieldLink RX9 15 "StraitSwim$Swim" "quarters" "I") (List.mem_cons_of_mem _ (List.mem_append_left _ (List.mem_append_left _ (List.mem_append_left _ (List.mem_of_getElem? (i := 0) rfl)))))) (fun _ h9 => h9) rfl dX9_cross_117 ?_
              refine z_iconst hx hb dX9_cross_120 ?_
              refine z_isub hx hb dX9_cross_121 ?_
              refine lv_goto (tgt := 129) hx hb dX9_cross_122 (by decide) ?_
              refine g_iald (n := 101) hx hb hC.1 hG 20 (by decide) rfl (by omega) (by omega) (by decide) dX9_cross_129 ?_
              have q_31 := icl ((u13.1 11) - 1).toNat (by omega)
              refine g_put (C := RX9) (T := TX9) (N := 9) (ci := 8) (ty := .int) hx hb hts (fun _ h => (List.mem_cons_of_mem _ (List.mem_append_left _ (List.mem_append_right _ h)))) tyX9 tyX9_ok nmX9 hown hC.1 hG hS 3 (by decide) rfl rfl 2 12 (by decide) (hts (.fieldLink RX9 18 "StraitSwim$Swim" "cold" "I") (List.mem_cons_of_mem _ (List.mem_append_left _ (List.mem_append_left _ (List.mem_append_left _ (List.mem_of_getElem? (i := 6) rfl)))))) (fun _ h9 => h9) rfl (by decide +kernel) rfl rfl (Nat.le_of_ble_eq_true rfl) rfl (gO_12 ad _ _) dX9_cross_130 (fun u32 H locs hu32 hG hS => ?_)
              refine lv_iload hx hb dX9_cross_133 (lv_at hl 0 rfl) ?_
              exact W.iret (v := zI 2) hx hb hr (fun t9 ht9_ hW => ⟨⟨zI 2, u32, rfl, (by first | (exfalso; omega) | (unfold cCross; (first | rw [if_pos (by omega)] | rw [if_neg (by omega)]); rw [hE9]; unfold cCrE; dsimp only; (repeat (first | rw [if_pos (by omega)] | rw [if_neg (by omega)])); subst hu32; exact ⟨rfl, rfl⟩)), gB.mk' hG hC hS ht9_ hW⟩, hS.F ht9_⟩) hS.2.2 dX9_cross_135
    exact loop36 101 0 u3 _ _ _ (by omega) (by omega) (by subst hu3; subst hu2; subst hu1; rfl) (by subst hu3; subst hu2; subst hu1; rfl) (by subst hu3; subst hu2; subst hu1; exact i10) (by subst hu3; subst hu2; subst hu1; exact i11) (by subst hu3; subst hu2; subst hu1; exact isd) (by subst hu3; subst hu2; subst hu1; exact icl) (by subst hu3; subst hu2; subst hu1; exact hd) (by have e9 : u3.2.1 17 (Int.toNat 0) = p2 := (by subst hu3; subst hu2; subst hu1; rfl); rw [e9]; exact j_2) (by have e9 : u3.2.1 18 (Int.toNat 0) = p3 := (by subst hu3; subst hu2; subst hu1; rfl); rw [e9]; exact j_3) (by unfold cCr0; subst hu3; subst hu2; subst hu1; rfl) hG hS (lv_sub hl [0, 1, 2, 3, 4, 5, 6, 7] rfl)
  · refine z_iconst hx hb dX9_cross_26 ?_
    refine lv_goto (tgt := 31) hx hb dX9_cross_27 (by decide) ?_
    refine lv_istore (lv' := [(6, .int (zI 1)), (0, .ref (ad 3)), (1, .ref (ad 1)), (2, .int (zI p2)), (3, .int (zI p3)), (4, .int (zI p4)), (5, .int (zI p5))]) hx hb dX9_cross_31 hl (by decide) rfl (fun ls hl => ?_)
    refine z_iconst hx hb dX9_cross_33 ?_
    refine lv_istore (lv' := [(7, .int (zI 0)), (6, .int (zI 1)), (0, .ref (ad 3)), (1, .ref (ad 1)), (2, .int (zI p2)), (3, .int (zI p3)), (4, .int (zI p4)), (5, .int (zI p5))]) hx hb dX9_cross_34 hl (by decide) rfl (fun ls hl => ?_)
    have loop36 : ∀ (n : Nat) (t : Int) (w : gS) (H : Heap) (locs : List Loc) (ls : Array Slot), (u.1 13 - t).toNat < n → (0 ≤ t ∧ t ≤ 100) → (w.1 11 = t) → (w.1 13 = u.1 13) → (∀ j, j < 36 → -9 ≤ w.2.1 10 j ∧ w.2.1 10 j ≤ 9) → (∀ j, j < 36 → -9 ≤ w.2.1 11 j ∧ w.2.1 11 j ≤ 9) → (∀ j, j < 100 → 0 ≤ w.2.1 19 j ∧ w.2.1 19 j ≤ 24) → (∀ j, j < 101 → 0 ≤ w.2.1 20 j ∧ w.2.1 20 j ≤ 100000) → (∀ j, j < 288 → w.2.1 9 j = 0 ∨ w.2.1 9 j = 1) → (0 ≤ w.2.1 17 t.toNat ∧ w.2.1 17 t.toNat ≤ 239) → (0 ≤ w.2.1 18 t.toNat ∧ w.2.1 18 t.toNat ≤ 119) → (cCrL 17 18 19 11 13 p4 p5 1 101 0 (cCr0 u 17 18 11 p2 p3) = cCrL 17 18 19 11 13 p4 p5 1 n t w) → gH D cy ad jf A w H → va_S A s.heap H locs → lv_has ls 8 [(7, .int (zI t)), (6, .int (zI 1)), (0, .ref (ad 3)), (1, .ref (ad 1)), (2, .int (zI p2)), (3, .int (zI p3)), (4, .int (zI p4)), (5, .int (zI p5))] → W p l e (headSpec wsX9_cross ({ frames := 3, cells := 0, slots := 0, locals := 72 })).room s m ([.ref (ad 3), .ref (ad 1), .int (zI p2), .int (zI p3), .int (zI p4), .int (zI p5)]).toArray below meth c H locs 0 0 (MQ below (va_Qi (fun (r : Int32) (v : gS) => r = zI (cCross u 17 18 19 20 11 12 13 14 p2 p3 p4 p5).1 ∧ v = (cCross u 17 18 19 20 11 12 13 14 p2 p3 p4 p5).2) (gB D cy ad jf A) A) ([.ref (ad 3), .ref (ad 1), .int (zI p2), .int (zI p3), .int (zI p4), .int (zI p5)]).toArray s 0 0 A) (F0 m 36 ls []) := by
      intro n
      induction n with
      | zero => intro t w H locs ls hm; exact absurd hm (Nat.not_lt_zero _)
      | succ n ih36 =>
        intro t w H locs ls hm ht9 hq9 hrc i10 i11 isd icl hd hpx hpy hT hG hS hl
        refine lv_iload hx hb dX9_cross_36 (lv_at hl 0 rfl) ?_
        refine lv_aload_n hx hb dX9_cross_38 rfl (lv_at hl 2 rfl) ?_
        refine g_get (C := RX9) (T := TX9) (N := 9) (ci := 8) hx hb hts (fun _ h => (List.mem_cons_of_mem _ (List.mem_append_left _ (List.mem_append_right _ h)))) hown hC.1 hG 3 (by decide) rfl rfl 7 (by decide) (hts (.fieldLink RX9 34 "StraitSwim$Swim" "reach" "I") (List.mem_cons_of_mem _ (List.mem_append_left _ (List.mem_append_left _ (List.mem_append_left _ (List.mem_of_getElem? (i := 4) rfl)))))) (fun _ h9 => h9) rfl dX9_cross_39 ?_
        refine z_icmp_ge (tgt := 105) hx hb dX9_cross_42 (by decide) (by omega) (by omega) (by omega) (by omega) (fun c_33 => ?_) (fun c_33 => ?_)
        · have hE9 : cCrL 17 18 19 11 13 p4 p5 1 101 0 (cCr0 u 17 18 11 p2 p3) = (1, w) := by rw [hT, cCrL, if_neg (by omega)]
          refine lv_aload_n hx hb dX9_cross_105 rfl (lv_at hl 2 rfl) ?_
          refine lv_aload_n hx hb dX9_cross_106 rfl (lv_at hl 2 rfl) ?_
          refine g_get (C := RX9) (T := TX9) (N := 9) (ci := 8) hx hb hts (fun _ h => (List.mem_cons_of_mem _ (List.mem_append_left _ (List.mem_append_right _ h)))) hown hC.1 hG 3 (by decide) rfl rfl 6 (by decide) (hts (.fieldLink RX9 31 "StraitSwim$Swim" "colds" "[I") (List.mem_cons_of_mem _ (List.mem_append_left _ (List.mem_append_left _ (List.mem_append_left _ (List.mem_of_getElem? (i := 5) rfl)))))) (fun _ h9 => h9) rfl dX9_cross_107 ?_
          refine lv_iload hx hb dX9_cross_110 (lv_at hl 1 rfl) ?_
          refine z_iconst hx hb dX9_cross_112 ?_
          refine z_icmp_ne (tgt := 125) hx hb dX9_cross_113 (by decide) (by omega) (by omega) (by omega) (by omega) (fun c_34 => ?_) (fun c_34 => ?_)
          · refine lv_aload_n hx hb dX9_cross_125 rfl (lv_at hl 2 rfl) ?_
            refine g_get (C := RX9) (T := TX9) (N := 9) (ci := 8) hx hb hts (fun _ h => (List.mem_cons_of_mem _ (List.mem_append_left _ (List.mem_append_right _ h)))) hown hC.1 hG 3 (by decide) rfl rfl 1 (by decide) (hts (.fieldLink RX9 15 "StraitSwim$Swim" "quarters" "I") (List.mem_cons_of_mem _ (List.mem_append_left _ (List.mem_append_left _ (List.mem_append_left _ (List.mem_of_getElem? (i := 0) rfl)))))) (fun _ h9 => h9) rfl dX9_cross_126 ?_
            refine g_iald (n := 101) hx hb hC.1 hG 20 (by decide) rfl (by omega) (by omega) (by decide) dX9_cross_129 ?_
            have q_35 := icl (w.1 11).toNat (by omega)
            refine g_put (C := RX9) (T := TX9) (N := 9) (ci := 8) (ty := .int) hx hb hts (fun _ h => (List.mem_cons_of_mem _ (List.mem_append_left _ (List.mem_append_right _ h)))) tyX9 tyX9_ok nmX9 hown hC.1 hG hS 3 (by decide) rfl rfl 2 12 (by decide) (hts (.fieldLink RX9 18 "StraitSwim$Swim" "cold" "I") (List.mem_cons_of_mem _ (List.mem_append_left _ (List.mem_append_left _ (List.mem_append_left _ (List.mem_of_getElem? (i := 6) rfl)))))) (fun _ h9 => h9) rfl (by decide +kernel) rfl rfl (Nat.le_of_ble_eq_true rfl) rfl (gO_12 ad _ _) dX9_cross_130 (fun u36 H locs hu36 hG hS => ?_)
            refine lv_iload hx hb dX9_cross_133 (lv_at hl 1 rfl) ?_
            exact W.iret (v := zI 1) hx hb hr (fun t9 ht9_ hW => ⟨⟨zI 1, u36, rfl, (by first | (exfalso; omega) | (unfold cCross; (first | rw [if_pos (by omega)] | rw [if_neg (by omega)]); rw [hE9]; unfold cCrE; dsimp only; (repeat (first | rw [if_pos (by omega)] | rw [if_neg (by omega)])); subst hu36; exact ⟨rfl, rfl⟩)), gB.mk' hG hC hS ht9_ hW⟩, hS.F ht9_⟩) hS.2.2 dX9_cross_135
          · refine lv_aload_n hx hb dX9_cross_116 rfl (lv_at hl 2 rfl) ?_
            refine g_get (C := RX9) (T := TX9) (N := 9) (ci := 8) hx hb hts (fun _ h => (List.mem_cons_of_mem _ (List.mem_append_left _ (List.mem_append_right _ h)))) hown hC.1 hG 3 (by decide) rfl rfl 1 (by decide) (hts (.fieldLink RX9 15 "StraitSwim$Swim" "quarters" "I") (List.mem_cons_of_mem _ (List.mem_append_left _ (List.mem_append_left _ (List.mem_append_left _ (List.mem_of_getElem? (i := 0) rfl)))))) (fun _ h9 => h9) rfl dX9_cross_117 ?_
            refine z_iconst hx hb dX9_cross_120 ?_
            refine z_isub hx hb dX9_cross_121 ?_
            refine lv_goto (tgt := 129) hx hb dX9_cross_122 (by decide) ?_
            refine g_iald (n := 101) hx hb hC.1 hG 20 (by decide) rfl (by omega) (by omega) (by decide) dX9_cross_129 ?_
            have q_37 := icl ((w.1 11) - 1).toNat (by omega)
            refine g_put (C := RX9) (T := TX9) (N := 9) (ci := 8) (ty := .int) hx hb hts (fun _ h => (List.mem_cons_of_mem _ (List.mem_append_left _ (List.mem_append_right _ h)))) tyX9 tyX9_ok nmX9 hown hC.1 hG hS 3 (by decide) rfl rfl 2 12 (by decide) (hts (.fieldLink RX9 18 "StraitSwim$Swim" "cold" "I") (List.mem_cons_of_mem _ (List.mem_append_left _ (List.mem_append_left _ (List.mem_append_left _ (List.mem_of_getElem? (i := 6) rfl)))))) (fun _ h9 => h9) rfl (by decide +kernel) rfl rfl (Nat.le_of_ble_eq_true rfl) rfl (gO_12 ad _ _) dX9_cross_130 (fun u38 H locs hu38 hG hS => ?_)
            refine lv_iload hx hb dX9_cross_133 (lv_at hl 1 rfl) ?_
            exact W.iret (v := zI 1) hx hb hr (fun t9 ht9_ hW => ⟨⟨zI 1, u38, rfl, (by first | (exfalso; omega) | (unfold cCross; (first | rw [if_pos (by omega)] | rw [if_neg (by omega)]); rw [hE9]; unfold cCrE; dsimp only; (repeat (first | rw [if_pos (by omega)] | rw [if_neg (by omega)])); subst hu38; exact ⟨rfl, rfl⟩)), gB.mk' hG hC hS ht9_ hW⟩, hS.F ht9_⟩) hS.2.2 dX9_cross_135
        · refine lv_aload_n hx hb dX9_cross_45 rfl (lv_at hl 2 rfl) ?_
          refine lv_aload_n hx hb dX9_cross_46 rfl (lv_at hl 3 rfl) ?_
          refine lv_iload hx hb dX9_cross_47 (lv_at hl 0 rfl) ?_
          refine lv_iload hx hb dX9_cross_49 (lv_at hl 6 rfl) ?_
          refine lv_iload hx hb dX9_cross_51 (lv_at hl 0 rfl) ?_
          refine z_iadd hx hb dX9_cross_53 ?_
          refine lv_iload hx hb dX9_cross_54 (lv_at hl 7 rfl) ?_
          refine g_calli (va_runV (As := [.ref (ad 1), .int (zI t), .int (zI (p4 + t)), .int (zI p5)]) (rest := []) ⟨hx, hb, hml, hown, hts⟩ (kX9_staysWithin_3 l D cy ad jf A w t (p4 + t) p5 (by omega) (by omega) (by omega) i10 i11 isd hpx hpy) (cwV 4 hts gX9_cross_X9_staysWithin rfl rfl rfl (by decide +kernel) ⟨by decide, by decide⟩) (g_preV (C := RX9) hG hC hS 3 (by decide) rfl rfl) rfl rfl hl.1 rfl (lv_room (Nat.le_of_ble_eq_true rfl)) dX9_cross_56 ⟨Nat.le_of_ble_eq_true rfl, Nat.le_of_ble_eq_true rfl⟩) hS (fun r39 u40 H locs p_41 hG hS => ?_)
          obtain ⟨rfl, hu40⟩ := p_41
          obtain ⟨z42, hz42⟩ : ∃ z : Int, z = (cStay w 17 18 19 11 t (p4 + t) p5).1 := ⟨_, rfl⟩
          rw [← hz42]
          have qz42 : z42 = 0 ∨ z42 = 1 := by rw [hz42]; exact cStay_res _ _ _ _ _ _ _ _
          obtain ⟨hk1_, hk2_, hk3_, hk4_⟩ := cStay_keep w 17 18 19 11 t (p4 + t) p5
          obtain ⟨hn1, hn2⟩ := cStay_in w 17 18 19 11 t (p4 + t) p5 (by decide) hpx hpy
          rw [← hu40] at hk1_ hk2_ hk3_ hk4_ hn1 hn2
          rw [← hk1_ 10 (by decide)] at i10
          rw [← hk1_ 11 (by decide)] at i11
          rw [← hk1_ 19 (by decide)] at isd
          rw [← hk1_ 9 (by decide)] at hd
          rw [← hk1_ 20 (by decide)] at icl
          have hrc2 := (hk2_ 13 (by decide)).trans hrc
          refine z_if_ne (tgt := 68) hx hb dX9_cross_59 (by decide) (by omega) (by omega) (fun c_43 => ?_) (fun c_43 => ?_)
          · refine lv_aload_n hx hb dX9_cross_68 rfl (lv_at hl 3 rfl) ?_
            refine lv_aload_n hx hb dX9_cross_69 rfl (lv_at hl 2 rfl) ?_
            refine g_get (C := RX9) (T := TX9) (N := 9) (ci := 8) hx hb hts (fun _ h => (List.mem_cons_of_mem _ (List.mem_append_left _ (List.mem_append_right _ h)))) hown hC.1 hG 3 (by decide) rfl rfl 3 (by decide) (hts (.fieldLink RX9 21 "StraitSwim$Swim" "xs" "[I") (List.mem_cons_of_mem _ (List.mem_append_left _ (List.mem_append_left _ (List.mem_append_left _ (List.mem_of_getElem? (i := 1) rfl)))))) (fun _ h9 => h9) rfl dX9_cross_70 ?_
            refine lv_iload hx hb dX9_cross_73 (lv_at hl 0 rfl) ?_
            refine z_iconst hx hb dX9_cross_75 ?_
            refine z_iadd hx hb dX9_cross_76 ?_
            refine g_iald (n := 101) hx hb hC.1 hG 17 (by decide) rfl (by omega) (by omega) (by decide) dX9_cross_77 ?_
            refine lv_aload_n hx hb dX9_cross_78 rfl (lv_at hl 2 rfl) ?_
            refine g_get (C := RX9) (T := TX9) (N := 9) (ci := 8) hx hb hts (fun _ h => (List.mem_cons_of_mem _ (List.mem_append_left _ (List.mem_append_right _ h)))) hown hC.1 hG 3 (by decide) rfl rfl 4 (by decide) (hts (.fieldLink RX9 25 "StraitSwim$Swim" "ys" "[I") (List.mem_cons_of_mem _ (List.mem_append_left _ (List.mem_append_left _ (List.mem_append_left _ (List.mem_of_getElem? (i := 2) rfl)))))) (fun _ h9 => h9) rfl dX9_cross_79 ?_
            refine lv_iload hx hb dX9_cross_82 (lv_at hl 0 rfl) ?_
            refine z_iconst hx hb dX9_cross_84 ?_
            refine z_iadd hx hb dX9_cross_85 ?_
            refine g_iald (n := 101) hx hb hC.1 hG 18 (by decide) rfl (by omega) (by omega) (by decide) dX9_cross_86 ?_
            refine g_calli (va_runV (As := [.int (zI (u40.2.1 17 (t + 1).toNat)), .int (zI (u40.2.1 18 (t + 1).toNat))]) (rest := []) ⟨hx, hb, hml, hown, hts⟩ (kX8_isDry l D cy ad jf A u40 (u40.2.1 17 (t + 1).toNat) (u40.2.1 18 (t + 1).toNat) (by omega) (by omega) hd) (cwV 2 hts gX9_cross_X8_isDry rfl rfl rfl (by decide +kernel) ⟨by decide, by decide⟩) (g_preV (C := RX8) hG hC hS 1 (by decide) rfl rfl) rfl rfl hl.1 rfl (lv_room (Nat.le_of_ble_eq_true rfl)) dX9_cross_87 ⟨Nat.le_of_ble_eq_true rfl, Nat.le_of_ble_eq_true rfl⟩) hS (fun r44 u45 H locs p_46 hG hS => ?_)
            obtain ⟨rfl, he_⟩ := p_46
            rw [he_] at hG; clear he_
            obtain ⟨z48, hz48⟩ : ∃ z : Int, z = spDry (u40.2.1 9) (u40.2.1 17 (t + 1).toNat) (u40.2.1 18 (t + 1).toNat) := ⟨_, rfl⟩
            rw [← hz48]
            have q_47 : z48 = 0 ∨ z48 = 1 := by rw [hz48]; exact hd _ (by omega)
            refine z_if_eq (tgt := 99) hx hb dX9_cross_90 (by decide) (by omega) (by omega) (fun c_49 => ?_) (fun c_49 => ?_)
            · refine z_iinc (lv' := [(7, .int (zI (t + 1))), (6, .int (zI 1)), (0, .ref (ad 3)), (1, .ref (ad 1)), (2, .int (zI p2)), (3, .int (zI p3)), (4, .int (zI p4)), (5, .int (zI p5))]) hx hb dX9_cross_99 hl (k := 0) rfl (by decide) rfl (fun ls hl => ?_)
              refine lv_goto (tgt := 36) hx hb dX9_cross_102 (by decide) ?_
              exact ih36 (t + 1) u40 _ _ _ (by omega) (by omega) (by exact hk3_) (by exact hrc2) (by exact i10) (by exact i11) (by exact isd) (by exact icl) (by exact hd) (by exact hn1) (by exact hn2) (by rw [hT, cCrL, if_pos (by omega)]; simp only [← hz42, ← hu40, ← hz48]; (repeat (first | rw [if_pos (by omega)] | rw [if_neg (by omega)]))) hG hS (lv_sub hl [0, 1, 2, 3, 4, 5, 6, 7] rfl)
            · refine z_iconst hx hb dX9_cross_93 ?_
              refine lv_istore (lv' := [(6, .int (zI 0)), (7, .int (zI t)), (0, .ref (ad 3)), (1, .ref (ad 1)), (2, .int (zI p2)), (3, .int (zI p3)), (4, .int (zI p4)), (5, .int (zI p5))]) hx hb dX9_cross_94 hl (by decide) rfl (fun ls hl => ?_)
              refine lv_goto (tgt := 105) hx hb dX9_cross_96 (by decide) ?_
              have hE9 : cCrL 17 18 19 11 13 p4 p5 1 101 0 (cCr0 u 17 18 11 p2 p3) = (0, u40) := by rw [hT, cCrL, if_pos (by omega)]; simp only [← hz42, ← hu40, ← hz48]; (repeat (first | rw [if_pos (by omega)] | rw [if_neg (by omega)]))
              refine lv_aload_n hx hb dX9_cross_105 rfl (lv_at hl 2 rfl) ?_
              refine lv_aload_n hx hb dX9_cross_106 rfl (lv_at hl 2 rfl) ?_
              refine g_get (C := RX9) (T := TX9) (N := 9) (ci := 8) hx hb hts (fun _ h => (List.mem_cons_of_mem _ (List.mem_append_left _ (List.mem_append_right _ h)))) hown hC.1 hG 3 (by decide) rfl rfl 6 (by decide) (hts (.fieldLink RX9 31 "StraitSwim$Swim" "colds" "[I") (List.mem_cons_of_mem _ (List.mem_append_left _ (List.mem_append_left _ (List.mem_append_left _ (List.mem_of_getElem? (i := 5) rfl)))))) (fun _ h9 => h9) rfl dX9_cross_107 ?_
              refine lv_iload hx hb dX9_cross_110 (lv_at hl 0 rfl) ?_
              refine z_iconst hx hb dX9_cross_112 ?_
              refine z_icmp_ne (tgt := 125) hx hb dX9_cross_113 (by decide) (by omega) (by omega) (by omega) (by omega) (fun c_50 => ?_) (fun c_50 => ?_)
              · refine lv_aload_n hx hb dX9_cross_125 rfl (lv_at hl 2 rfl) ?_
                refine g_get (C := RX9) (T := TX9) (N := 9) (ci := 8) hx hb hts (fun _ h => (List.mem_cons_of_mem _ (List.mem_append_left _ (List.mem_append_right _ h)))) hown hC.1 hG 3 (by decide) rfl rfl 1 (by decide) (hts (.fieldLink RX9 15 "StraitSwim$Swim" "quarters" "I") (List.mem_cons_of_mem _ (List.mem_append_left _ (List.mem_append_left _ (List.mem_append_left _ (List.mem_of_getElem? (i := 0) rfl)))))) (fun _ h9 => h9) rfl dX9_cross_126 ?_
                refine g_iald (n := 101) hx hb hC.1 hG 20 (by decide) rfl (by omega) (by omega) (by decide) dX9_cross_129 ?_
                have q_51 := icl (u40.1 11).toNat (by omega)
                refine g_put (C := RX9) (T := TX9) (N := 9) (ci := 8) (ty := .int) hx hb hts (fun _ h => (List.mem_cons_of_mem _ (List.mem_append_left _ (List.mem_append_right _ h)))) tyX9 tyX9_ok nmX9 hown hC.1 hG hS 3 (by decide) rfl rfl 2 12 (by decide) (hts (.fieldLink RX9 18 "StraitSwim$Swim" "cold" "I") (List.mem_cons_of_mem _ (List.mem_append_left _ (List.mem_append_left _ (List.mem_append_left _ (List.mem_of_getElem? (i := 6) rfl)))))) (fun _ h9 => h9) rfl (by decide +kernel) rfl rfl (Nat.le_of_ble_eq_true rfl) rfl (gO_12 ad _ _) dX9_cross_130 (fun u52 H locs hu52 hG hS => ?_)
                refine lv_iload hx hb dX9_cross_133 (lv_at hl 0 rfl) ?_
                exact W.iret (v := zI 0) hx hb hr (fun t9 ht9_ hW => ⟨⟨zI 0, u52, rfl, (by first | (exfalso; omega) | (unfold cCross; (first | rw [if_pos (by omega)] | rw [if_neg (by omega)]); rw [hE9]; unfold cCrE; dsimp only; (repeat (first | rw [if_pos (by omega)] | rw [if_neg (by omega)])); subst hu52; exact ⟨rfl, rfl⟩)), gB.mk' hG hC hS ht9_ hW⟩, hS.F ht9_⟩) hS.2.2 dX9_cross_135
              · refine lv_aload_n hx hb dX9_cross_116 rfl (lv_at hl 2 rfl) ?_
                refine g_get (C := RX9) (T := TX9) (N := 9) (ci := 8) hx hb hts (fun _ h => (List.mem_cons_of_mem _ (List.mem_append_left _ (List.mem_append_right _ h)))) hown hC.1 hG 3 (by decide) rfl rfl 1 (by decide) (hts (.fieldLink RX9 15 "StraitSwim$Swim" "quarters" "I") (List.mem_cons_of_mem _ (List.mem_append_left _ (List.mem_append_left _ (List.mem_append_left _ (List.mem_of_getElem? (i := 0) rfl)))))) (fun _ h9 => h9) rfl dX9_cross_117 ?_
                refine z_iconst hx hb dX9_cross_120 ?_
                refine z_isub hx hb dX9_cross_121 ?_
                refine lv_goto (tgt := 129) hx hb dX9_cross_122 (by decide) ?_
                refine g_iald (n := 101) hx hb hC.1 hG 20 (by decide) rfl (by omega) (by omega) (by decide) dX9_cross_129 ?_
                have q_53 := icl ((u40.1 11) - 1).toNat (by omega)
                refine g_put (C := RX9) (T := TX9) (N := 9) (ci := 8) (ty := .int) hx hb hts (fun _ h => (List.mem_cons_of_mem _ (List.mem_append_left _ (List.mem_append_right _ h)))) tyX9 tyX9_ok nmX9 hown hC.1 hG hS 3 (by decide) rfl rfl 2 12 (by decide) (hts (.fieldLink RX9 18 "StraitSwim$Swim" "cold" "I") (List.mem_cons_of_mem _ (List.mem_append_left _ (List.mem_append_left _ (List.mem_append_left _ (List.mem_of_getElem? (i := 6) rfl)))))) (fun _ h9 => h9) rfl (by decide +kernel) rfl rfl (Nat.le_of_ble_eq_true rfl) rfl (gO_12 ad _ _) dX9_cross_130 (fun u54 H locs hu54 hG hS => ?_)
                refine lv_iload hx hb dX9_cross_133 (lv_at hl 0 rfl) ?_
                exact W.iret (v := zI 0) hx hb hr (fun t9 ht9_ hW => ⟨⟨zI 0, u54, rfl, (by first | (exfalso; omega) | (unfold cCross; (first | rw [if_pos (by omega)] | rw [if_neg (by omega)]); rw [hE9]; unfold cCrE; dsimp only; (repeat (first | rw [if_pos (by omega)] | rw [if_neg (by omega)])); subst hu54; exact ⟨rfl, rfl⟩)), gB.mk' hG hC hS ht9_ hW⟩, hS.F ht9_⟩) hS.2.2 dX9_cross_135
          · refine z_iconst hx hb dX9_cross_62 ?_
            refine lv_istore (lv' := [(6, .int (zI 2)), (7, .int (zI t)), (0, .ref (ad 3)), (1, .ref (ad 1)), (2, .int (zI p2)), (3, .int (zI p3)), (4, .int (zI p4)), (5, .int (zI p5))]) hx hb dX9_cross_63 hl (by decide) rfl (fun ls hl => ?_)
            refine lv_goto (tgt := 105) hx hb dX9_cross_65 (by decide) ?_
            have hE9 : cCrL 17 18 19 11 13 p4 p5 1 101 0 (cCr0 u 17 18 11 p2 p3) = (2, u40) := by rw [hT, cCrL, if_pos (by omega)]; simp only [← hz42, ← hu40]; (repeat (first | rw [if_pos (by omega)] | rw [if_neg (by omega)]))
            refine lv_aload_n hx hb dX9_cross_105 rfl (lv_at hl 2 rfl) ?_
            refine lv_aload_n hx hb dX9_cross_106 rfl (lv_at hl 2 rfl) ?_
            refine g_get (C := RX9) (T := TX9) (N := 9) (ci := 8) hx hb hts (fun _ h => (List.mem_cons_of_mem _ (List.mem_append_left _ (List.mem_append_right _ h)))) hown hC.1 hG 3 (by decide) rfl rfl 6 (by decide) (hts (.fieldLink RX9 31 "StraitSwim$Swim" "colds" "[I") (List.mem_cons_of_mem _ (List.mem_append_left _ (List.mem_append_left _ (List.mem_append_left _ (List.mem_of_getElem? (i := 5) rfl)))))) (fun _ h9 => h9) rfl dX9_cross_107 ?_
            refine lv_iload hx hb dX9_cross_110 (lv_at hl 0 rfl) ?_
            refine z_iconst hx hb dX9_cross_112 ?_
            refine z_icmp_ne (tgt := 125) hx hb dX9_cross_113 (by decide) (by omega) (by omega) (by omega) (by omega) (fun c_55 => ?_) (fun c_55 => ?_)
            · refine lv_aload_n hx hb dX9_cross_125 rfl (lv_at hl 2 rfl) ?_
              refine g_get (C := RX9) (T := TX9) (N := 9) (ci := 8) hx hb hts (fun _ h => (List.mem_cons_of_mem _ (List.mem_append_left _ (List.mem_append_right _ h)))) hown hC.1 hG 3 (by decide) rfl rfl 1 (by decide) (hts (.fieldLink RX9 15 "StraitSwim$Swim" "quarters" "I") (List.mem_cons_of_mem _ (List.mem_append_left _ (List.mem_append_left _ (List.mem_append_left _ (List.mem_of_getElem? (i := 0) rfl)))))) (fun _ h9 => h9) rfl dX9_cross_126 ?_
              refine g_iald (n := 101) hx hb hC.1 hG 20 (by decide) rfl (by omega) (by omega) (by decide) dX9_cross_129 ?_
              have q_56 := icl (u40.1 11).toNat (by omega)
              refine g_put (C := RX9) (T := TX9) (N := 9) (ci := 8) (ty := .int) hx hb hts (fun _ h => (List.mem_cons_of_mem _ (List.mem_append_left _ (List.mem_append_right _ h)))) tyX9 tyX9_ok nmX9 hown hC.1 hG hS 3 (by decide) rfl rfl 2 12 (by decide) (hts (.fieldLink RX9 18 "StraitSwim$Swim" "cold" "I") (List.mem_cons_of_mem _ (List.mem_append_left _ (List.mem_append_left _ (List.mem_append_left _ (List.mem_of_getElem? (i := 6) rfl)))))) (fun _ h9 => h9) rfl (by decide +kernel) rfl rfl (Nat.le_of_ble_eq_true rfl) rfl (gO_12 ad _ _) dX9_cross_130 (fun u57 H locs hu57 hG hS => ?_)
              refine lv_iload hx hb dX9_cross_133 (lv_at hl 0 rfl) ?_
              exact W.iret (v := zI 2) hx hb hr (fun t9 ht9_ hW => ⟨⟨zI 2, u57, rfl, (by first | (exfalso; omega) | (unfold cCross; (first | rw [if_pos (by omega)] | rw [if_neg (by omega)]); rw [hE9]; unfold cCrE; dsimp only; (repeat (first | rw [if_pos (by omega)] | rw [if_neg (by omega)])); subst hu57; exact ⟨rfl, rfl⟩)), gB.mk' hG hC hS ht9_ hW⟩, hS.F ht9_⟩) hS.2.2 dX9_cross_135
            · refine lv_aload_n hx hb dX9_cross_116 rfl (lv_at hl 2 rfl) ?_
              refine g_get (C := RX9) (T := TX9) (N := 9) (ci := 8) hx hb hts (fun _ h => (List.mem_cons_of_mem _ (List.mem_append_left _ (List.mem_append_right _ h)))) hown hC.1 hG 3 (by decide) rfl rfl 1 (by decide) (hts (.fieldLink RX9 15 "StraitSwim$Swim" "quarters" "I") (List.mem_cons_of_mem _ (List.mem_append_left _ (List.mem_append_left _ (List.mem_append_left _ (List.mem_of_getElem? (i := 0) rfl)))))) (fun _ h9 => h9) rfl dX9_cross_117 ?_
              refine z_iconst hx hb dX9_cross_120 ?_
              refine z_isub hx hb dX9_cross_121 ?_
              refine lv_goto (tgt := 129) hx hb dX9_cross_122 (by decide) ?_
              refine g_iald (n := 101) hx hb hC.1 hG 20 (by decide) rfl (by omega) (by omega) (by decide) dX9_cross_129 ?_
              have q_58 := icl ((u40.1 11) - 1).toNat (by omega)
              refine g_put (C := RX9) (T := TX9) (N := 9) (ci := 8) (ty := .int) hx hb hts (fun _ h => (List.mem_cons_of_mem _ (List.mem_append_left _ (List.mem_append_right _ h)))) tyX9 tyX9_ok nmX9 hown hC.1 hG hS 3 (by decide) rfl rfl 2 12 (by decide) (hts (.fieldLink RX9 18 "StraitSwim$Swim" "cold" "I") (List.mem_cons_of_mem _ (List.mem_append_left _ (List.mem_append_left _ (List.mem_append_left _ (List.mem_of_getElem? (i := 6) rfl)))))) (fun _ h9 => h9) rfl (by decide +kernel) rfl rfl (Nat.le_of_ble_eq_true rfl) rfl (gO_12 ad _ _) dX9_cross_130 (fun u59 H locs hu59 hG hS => ?_)
              refine lv_iload hx hb dX9_cross_133 (lv_at hl 0 rfl) ?_
              exact W.iret (v := zI 2) hx hb hr (fun t9 ht9_ hW => ⟨⟨zI 2, u59, rfl, (by first | (exfalso; omega) | (unfold cCross; (first | rw [if_pos (by omega)] | rw [if_neg (by omega)]); rw [hE9]; unfold cCrE; dsimp only; (repeat (first | rw [if_pos (by omega)] | rw [if_neg (by omega)])); subst hu59; exact ⟨rfl, rfl⟩)), gB.mk' hG hC hS ht9_ hW⟩, hS.F ht9_⟩) hS.2.2 dX9_cross_135
    exact loop36 101 0 u3 _ _ _ (by omega) (by omega) (by subst hu3; subst hu2; subst hu1; rfl) (by subst hu3; subst hu2; subst hu1; rfl) (by subst hu3; subst hu2; subst hu1; exact i10) (by subst hu3; subst hu2; subst hu1; exact i11) (by subst hu3; subst hu2; subst hu1; exact isd) (by subst hu3; subst hu2; subst hu1; exact icl) (by subst hu3; subst hu2; subst hu1; exact hd) (by have e9 : u3.2.1 17 (Int.toNat 0) = p2 := (by subst hu3; subst hu2; subst hu1; rfl); rw [e9]; exact j_2) (by have e9 : u3.2.1 18 (Int.toNat 0) = p3 := (by subst hu3; subst hu2; subst hu1; rfl); rw [e9]; exact j_3) (by unfold cCr0; subst hu3; subst hu2; subst hu1; rfl) hG hS (lv_sub hl [0, 1, 2, 3, 4, 5, 6, 7] rfl)
