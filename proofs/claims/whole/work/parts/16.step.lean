set_option maxHeartbeats 4000000 in
set_option maxRecDepth 100000 in
theorem kX12_step (l : Launch) (D : va_G) (cy : Nat → ClassId) (ad : Nat → Nat) (jf : Nat → Int64) (A : Nat → Prop) (u : gS) (p1 p2 p3 p4 p5 p6 : Int) (j_1 : 0 ≤ p1 ∧ p1 ≤ 1) (j_2 : 0 ≤ p2 ∧ p2 ≤ 9) (j_3 : 0 ≤ p3 ∧ p3 ≤ 239) (j_4 : 0 ≤ p4 ∧ p4 ≤ 119) (j_5 : 0 ≤ p5 ∧ p5 ≤ 47) (j_6 : 0 ≤ p6 ∧ p6 ≤ 7) (i34 : ∀ j, j < 10 → 0 ≤ u.2.1 34 j ∧ u.2.1 34 j ≤ 3) (i35 : ∀ j, j < 10 → 0 ≤ u.2.1 35 j ∧ u.2.1 35 j ≤ 20) (i36 : ∀ j, j < 10 → 0 ≤ u.2.1 36 j ∧ u.2.1 36 j ≤ 400) (i37 : ∀ j, j < 10 → 0 ≤ u.2.1 37 j ∧ u.2.1 37 j ≤ 40) (i32 : ∀ j, j < 36 → -9 ≤ u.2.1 32 j ∧ u.2.1 32 j ≤ 9) (i33 : ∀ j, j < 36 → -9 ≤ u.2.1 33 j ∧ u.2.1 33 j ≤ 9) (hd : ∀ j, j < 288 → u.2.1 31 j = 0 ∨ u.2.1 31 j = 1) (i21 : 0 ≤ u.1 21 ∧ u.1 21 ≤ 20) : Met l yX12_step wsX12_step ({ frames := 2, cells := 0, slots := 0, locals := 47 }) (va_Pc [.ref (ad 8), .int (zI p1), .int (zI p2), .int (zI p3), .int (zI p4), .int (zI p5), .int (zI p6)] (gB D cy ad jf A u)) (va_Qi (fun (r : Int32) (v : gS) => r = zI (mStepA u p1 p2 p3 p4 p5 p6).1 ∧ v = (mStepA u p1 p2 p3 p4 p5 p6).2) (gB D cy ad jf A) A) 0 0 A := by
  refine Met.ofW (cc := cX12_step) (maxL := 16) (ret := (some .int)) (by decide) rfl ?_
  intro p e s m args below meth c s₁ B hml hv
  obtain ⟨rfl, hG, hC⟩ := hv
  have hx := B.exec
  have hb := B.bytes
  have hr := B.returns
  have hts := atoms_spec (ws := wsX12_step) B.pre
  have hown : s.vm.findClass RX12 = some m.cls := findClass_of_methodNamed B.named
  have hlocks := B.notSynchronized
  have hS : va_S A s.heap s.heap [] := va_S.rf
  have hl := lv_entry ([.ref (ad 8), .int (zI p1), .int (zI p2), .int (zI p3), .int (zI p4), .int (zI p5), .int (zI p6)]) (n := 16) (Nat.le_of_ble_eq_true rfl)
  rw [lg_entry_eq]
  generalize (lg_sl ([.ref (ad 8), .int (zI p1), .int (zI p2), .int (zI p3), .int (zI p4), .int (zI p5), .int (zI p6)]) ++ List.replicate (16 - (lg_sl ([.ref (ad 8), .int (zI p1), .int (zI p2), .int (zI p3), .int (zI p4), .int (zI p5), .int (zI p6)])).length) Slot.unset).toArray = ls at hl ⊢
  have hl : lv_has ls 16 [(0, .ref (ad 8)), (1, .int (zI p1)), (2, .int (zI p2)), (3, .int (zI p3)), (4, .int (zI p4)), (5, .int (zI p5)), (6, .int (zI p6))] := hl
  refine z_bipush hx hb dX12_step_0 (by decide) ?_
  refine lv_iload_n hx hb dX12_step_2 rfl (lv_at hl 1 rfl) ?_
  refine z_imul hx hb dX12_step_3 ?_
  refine lv_istore (lv' := [(7, .int (zI (101 * p1))), (0, .ref (ad 8)), (1, .int (zI p1)), (2, .int (zI p2)), (3, .int (zI p3)), (4, .int (zI p4)), (5, .int (zI p5)), (6, .int (zI p6))]) hx hb dX12_step_4 hl (by decide) rfl (fun ls hl => ?_)
  refine lv_aload_n hx hb dX12_step_6 rfl (lv_at hl 1 rfl) ?_
  refine g_get (C := RX12) (T := TX12) (N := 42) (ci := 11) hx hb hts (fun _ h => (List.mem_cons_of_mem _ (List.mem_append_right _ h))) hown hC.1 hG 8 (by decide) rfl rfl 11 (by decide) (hts (.fieldLink RX12 39 "StraitSwimModel" "pathX" "[I") (List.mem_cons_of_mem _ (List.mem_append_left _ (List.mem_append_left _ (List.mem_of_getElem? (i := 0) rfl))))) (fun _ h9 => h9) rfl dX12_step_7 ?_
  refine lv_iload hx hb dX12_step_10 (lv_at hl 0 rfl) ?_
  refine lv_iload_n hx hb dX12_step_12 rfl (lv_at hl 4 rfl) ?_
  refine g_iast (n := 202) hx hb hC.1 hG hS 38 (by decide) rfl rfl (by omega) (by omega) (by decide) dX12_step_13 (fun u1 H locs hu1 hG hS => ?_)
  refine lv_aload_n hx hb dX12_step_14 rfl (lv_at hl 1 rfl) ?_
  refine g_get (C := RX12) (T := TX12) (N := 42) (ci := 11) hx hb hts (fun _ h => (List.mem_cons_of_mem _ (List.mem_append_right _ h))) hown hC.1 hG 8 (by decide) rfl rfl 12 (by decide) (hts (.fieldLink RX12 42 "StraitSwimModel" "pathY" "[I") (List.mem_cons_of_mem _ (List.mem_append_left _ (List.mem_append_left _ (List.mem_of_getElem? (i := 1) rfl))))) (fun _ h9 => h9) rfl dX12_step_15 ?_
  refine lv_iload hx hb dX12_step_18 (lv_at hl 0 rfl) ?_
  refine lv_iload hx hb dX12_step_20 (lv_at hl 5 rfl) ?_
  refine g_iast (n := 202) hx hb hC.1 hG hS 39 (by decide) rfl rfl (by omega) (by omega) (by decide) dX12_step_22 (fun u2 H locs hu2 hG hS => ?_)
  refine lv_aload_n hx hb dX12_step_23 rfl (lv_at hl 1 rfl) ?_
  refine g_get (C := RX12) (T := TX12) (N := 42) (ci := 11) hx hb hts (fun _ h => (List.mem_cons_of_mem _ (List.mem_append_right _ h))) hown hC.1 hG 8 (by decide) rfl rfl 14 (by decide) (hts (.fieldLink RX12 48 "StraitSwimModel" "colds" "[I") (List.mem_cons_of_mem _ (List.mem_append_left _ (List.mem_append_left _ (List.mem_of_getElem? (i := 2) rfl))))) (fun _ h9 => h9) rfl dX12_step_24 ?_
  refine lv_iload_n hx hb dX12_step_27 rfl (lv_at hl 2 rfl) ?_
  refine z_iconst hx hb dX12_step_28 ?_
  refine g_iast (n := 2) hx hb hC.1 hG hS 41 (by decide) rfl rfl (by omega) (by omega) (by decide) dX12_step_29 (fun u3 H locs hu3 hG hS => ?_)
  refine lv_aload_n hx hb dX12_step_30 rfl (lv_at hl 1 rfl) ?_
  refine g_get (C := RX12) (T := TX12) (N := 42) (ci := 11) hx hb hts (fun _ h => (List.mem_cons_of_mem _ (List.mem_append_right _ h))) hown hC.1 hG 8 (by decide) rfl rfl 13 (by decide) (hts (.fieldLink RX12 45 "StraitSwimModel" "quarters" "[I") (List.mem_cons_of_mem _ (List.mem_append_left _ (List.mem_append_left _ (List.mem_of_getElem? (i := 3) rfl))))) (fun _ h9 => h9) rfl dX12_step_31 ?_
  refine lv_iload_n hx hb dX12_step_34 rfl (lv_at hl 2 rfl) ?_
  refine z_iconst hx hb dX12_step_35 ?_
  refine g_iast (n := 2) hx hb hC.1 hG hS 40 (by decide) rfl rfl (by omega) (by omega) (by decide) dX12_step_36 (fun u4 H locs hu4 hG hS => ?_)
  refine z_iconst hx hb dX12_step_37 ?_
  refine lv_istore (lv' := [(8, .int (zI 0)), (7, .int (zI (101 * p1))), (0, .ref (ad 8)), (1, .int (zI p1)), (2, .int (zI p2)), (3, .int (zI p3)), (4, .int (zI p4)), (5, .int (zI p5)), (6, .int (zI p6))]) hx hb dX12_step_38 hl (by decide) rfl (fun ls hl => ?_)
  have loop40 : ∀ (n : Nat) (t a : Int) (w : gS) (H : Heap) (locs : List Loc) (ls : Array Slot), (100 - t).toNat < n → (0 ≤ t ∧ t ≤ 100) → (a = 101 * p1 + t) → (∀ j, j < 10 → 0 ≤ w.2.1 34 j ∧ w.2.1 34 j ≤ 3) → (∀ j, j < 10 → 0 ≤ w.2.1 35 j ∧ w.2.1 35 j ≤ 20) → (∀ j, j < 10 → 0 ≤ w.2.1 36 j ∧ w.2.1 36 j ≤ 400) → (∀ j, j < 10 → 0 ≤ w.2.1 37 j ∧ w.2.1 37 j ≤ 40) → (∀ j, j < 36 → -9 ≤ w.2.1 32 j ∧ w.2.1 32 j ≤ 9) → (∀ j, j < 36 → -9 ≤ w.2.1 33 j ∧ w.2.1 33 j ≤ 9) → (∀ j, j < 288 → w.2.1 31 j = 0 ∨ w.2.1 31 j = 1) → (0 ≤ w.1 21 ∧ w.1 21 ≤ 20) → (0 ≤ w.2.1 38 a.toNat ∧ w.2.1 38 a.toNat ≤ 239) → (0 ≤ w.2.1 39 a.toNat ∧ w.2.1 39 a.toNat ≤ 119) → (0 ≤ w.2.1 41 p1.toNat ∧ w.2.1 41 p1.toNat ≤ 200 * t) → (mStep p1 p2 p5 p6 101 0 (101 * p1) (mSt0 u p1 p3 p4) = mStep p1 p2 p5 p6 n t a w) → gH D cy ad jf A w H → va_S A s.heap H locs → lv_has ls 16 [(8, .int (zI t)), (7, .int (zI a)), (0, .ref (ad 8)), (1, .int (zI p1)), (2, .int (zI p2)), (3, .int (zI p3)), (4, .int (zI p4)), (5, .int (zI p5)), (6, .int (zI p6))] → W p l e (headSpec wsX12_step ({ frames := 2, cells := 0, slots := 0, locals := 47 })).room s m ([.ref (ad 8), .int (zI p1), .int (zI p2), .int (zI p3), .int (zI p4), .int (zI p5), .int (zI p6)]).toArray below meth c H locs 0 0 (MQ below (va_Qi (fun (r : Int32) (v : gS) => r = zI (mStepA u p1 p2 p3 p4 p5 p6).1 ∧ v = (mStepA u p1 p2 p3 p4 p5 p6).2) (gB D cy ad jf A) A) ([.ref (ad 8), .int (zI p1), .int (zI p2), .int (zI p3), .int (zI p4), .int (zI p5), .int (zI p6)]).toArray s 0 0 A) (F0 m 40 ls []) := by
    intro n
    induction n with
    | zero => intro t a w H locs ls hm; exact absurd hm (Nat.not_lt_zero _)
    | succ n ih40 =>
      intro t a w H locs ls hm ht9 ha9 i34 i35 i36 i37 i32 i33 hd i21 hpx hpy hcd hT hG hS hl
      refine lv_iload hx hb dX12_step_40 (lv_at hl 0 rfl) ?_
      refine z_bipush hx hb dX12_step_42 (by decide) ?_
      refine z_icmp_ge (tgt := 322) hx hb dX12_step_44 (by decide) (by omega) (by omega) (by omega) (by omega) (fun c_5 => ?_) (fun c_5 => ?_)
      · refine z_iconst hx hb dX12_step_322 ?_
        exact W.iret (v := zI 3) hx hb hr (fun t9 ht9_ hW => ⟨⟨zI 3, w, rfl, (by unfold mStepA; rw [hT, mStep, if_neg (by omega)]; exact ⟨rfl, rfl⟩), gB.mk' hG hC hS ht9_ hW⟩, hS.F ht9_⟩) hS.2.2 dX12_step_323
      · refine lv_aload_n hx hb dX12_step_47 rfl (lv_at hl 2 rfl) ?_
        refine lv_iload_n hx hb dX12_step_48 rfl (lv_at hl 4 rfl) ?_
        refine lv_iload hx hb dX12_step_49 (lv_at hl 0 rfl) ?_
        refine g_calli (va_runV (As := [.int (zI p2), .int (zI t)]) (rest := []) ⟨hx, hb, hml, hown, hts⟩ (kX12_paceOf l D cy ad jf A w p2 t (by omega) (by omega) i34 i35 i37) (cwV 2 hts gX12_step_X12_paceOf rfl rfl rfl (by decide +kernel) ⟨by decide, by decide⟩) (g_preV (C := RX12) hG hC hS 8 (by decide) rfl rfl) rfl rfl hl.1 rfl (lv_room (Nat.le_of_ble_eq_true rfl)) dX12_step_51 ⟨Nat.le_of_ble_eq_true rfl, Nat.le_of_ble_eq_true rfl⟩) hS (fun r6 u7 H locs p_8 hG hS => ?_)
        obtain ⟨rfl, he_⟩ := p_8
        rw [he_] at hG; clear he_
        obtain ⟨z9, hz9⟩ : ∃ z : Int, z = spPace (w.2.1 34 p2.toNat) (w.2.1 35 p2.toNat) (w.2.1 37 p2.toNat) t := ⟨_, rfl⟩
        rw [← hz9]
        have qz9 : 0 ≤ z9 ∧ z9 ≤ 24 := by rw [hz9]; exact spPace_bnd (i34 _ (by omega)) (i35 _ (by omega)) (by omega)
        refine lv_istore (lv' := [(9, .int (zI z9)), (8, .int (zI t)), (7, .int (zI a)), (0, .ref (ad 8)), (1, .int (zI p1)), (2, .int (zI p2)), (3, .int (zI p3)), (4, .int (zI p4)), (5, .int (zI p5)), (6, .int (zI p6))]) hx hb dX12_step_54 hl (by decide) rfl (fun ls hl => ?_)
        refine lv_iload hx hb dX12_step_56 (lv_at hl 9 rfl) ?_
        refine z_iconst hx hb dX12_step_58 ?_
        refine z_irem hx hb dX12_step_59 (by omega) (by omega) (by omega) (by omega) ?_
        refine z_iconst hx hb dX12_step_60 ?_
        refine z_icmp_ne (tgt := 75) hx hb dX12_step_61 (by decide) (by omega) (by omega) (by omega) (by omega) (fun c_10 => ?_) (fun c_10 => ?_)
        · refine lv_iload hx hb dX12_step_75 (lv_at hl 0 rfl) ?_
          obtain ⟨wy, hwy⟩ : ∃ z : Int, z = z9 := ⟨_, rfl⟩
          rw [← hwy]
          refine lv_istore (lv' := [(10, .int (zI wy)), (9, .int (zI z9)), (8, .int (zI t)), (7, .int (zI a)), (0, .ref (ad 8)), (1, .int (zI p1)), (2, .int (zI p2)), (3, .int (zI p3)), (4, .int (zI p4)), (5, .int (zI p5)), (6, .int (zI p6))]) hx hb dX12_step_77 hl (by decide) rfl (fun ls hl => ?_)
          refine lv_aload_n hx hb dX12_step_79 rfl (lv_at hl 4 rfl) ?_
          refine g_get (C := RX12) (T := TX12) (N := 42) (ci := 11) hx hb hts (fun _ h => (List.mem_cons_of_mem _ (List.mem_append_right _ h))) hown hC.1 hG 8 (by decide) rfl rfl 12 (by decide) (hts (.fieldLink RX12 42 "StraitSwimModel" "pathY" "[I") (List.mem_cons_of_mem _ (List.mem_append_left _ (List.mem_append_left _ (List.mem_of_getElem? (i := 1) rfl))))) (fun _ h9 => h9) rfl dX12_step_80 ?_
          refine lv_iload hx hb dX12_step_83 (lv_at hl 3 rfl) ?_
          refine g_iald (n := 202) hx hb hC.1 hG 39 (by decide) rfl (by omega) (by omega) (by decide) dX12_step_85 ?_
          refine lv_iload hx hb dX12_step_86 (lv_at hl 9 rfl) ?_
          refine lv_iload hx hb dX12_step_88 (lv_at hl 2 rfl) ?_
          refine z_iadd hx hb dX12_step_90 ?_
          refine g_calli (va_runS (As := [.int (zI (w.2.1 39 a.toNat)), .int (zI (p5 + t))]) (rest := []) ⟨hx, hb, hml, hown, hts⟩ (kX12_tideAt l D cy ad jf A w (w.2.1 39 a.toNat) (p5 + t) (by omega) (by omega)) (va_cwS 2 hts gX12_step_X12_tideAt rfl rfl rfl (by decide +kernel) ⟨by decide, by decide⟩) (g_preS hG hC hS) rfl rfl hl.1 rfl (lv_room (Nat.le_of_ble_eq_true rfl)) dX12_step_91 ⟨Nat.le_of_ble_eq_true rfl, Nat.le_of_ble_eq_true rfl⟩) hS (fun r11 u12 H locs p_13 hG hS => ?_)
          obtain ⟨rfl, he_⟩ := p_13
          rw [he_] at hG; clear he_
          obtain ⟨td, htd⟩ : ∃ z : Int, z = (w.2.1 39 a.toNat) / 40 * 12 + (p5 + t) / 4 % 12 := ⟨_, rfl⟩
          rw [← htd]
          refine lv_istore (lv' := [(11, .int (zI td)), (10, .int (zI wy)), (9, .int (zI z9)), (8, .int (zI t)), (7, .int (zI a)), (0, .ref (ad 8)), (1, .int (zI p1)), (2, .int (zI p2)), (3, .int (zI p3)), (4, .int (zI p4)), (5, .int (zI p5)), (6, .int (zI p6))]) hx hb dX12_step_94 hl (by decide) rfl (fun ls hl => ?_)
          refine lv_aload_n hx hb dX12_step_96 rfl (lv_at hl 5 rfl) ?_
          refine g_get (C := RX12) (T := TX12) (N := 42) (ci := 11) hx hb hts (fun _ h => (List.mem_cons_of_mem _ (List.mem_append_right _ h))) hown hC.1 hG 8 (by decide) rfl rfl 11 (by decide) (hts (.fieldLink RX12 39 "StraitSwimModel" "pathX" "[I") (List.mem_cons_of_mem _ (List.mem_append_left _ (List.mem_append_left _ (List.mem_of_getElem? (i := 0) rfl))))) (fun _ h9 => h9) rfl dX12_step_97 ?_
          refine lv_iload hx hb dX12_step_100 (lv_at hl 4 rfl) ?_
          refine g_iald (n := 202) hx hb hC.1 hG 38 (by decide) rfl (by omega) (by omega) (by decide) dX12_step_102 ?_
          refine lv_iload hx hb dX12_step_103 (lv_at hl 11 rfl) ?_
          refine g_calli (va_runS (As := [.int (zI p6)]) (rest := [.int (zI (w.2.1 38 a.toNat))]) ⟨hx, hb, hml, hown, hts⟩ (kX12_eastOf l D cy ad jf A w p6 (by omega)) (va_cwS 1 hts gX12_step_X12_eastOf rfl rfl rfl (by decide +kernel) ⟨by decide, by decide⟩) (g_preS hG hC hS) rfl rfl hl.1 rfl (lv_room (Nat.le_of_ble_eq_true rfl)) dX12_step_105 ⟨Nat.le_of_ble_eq_true rfl, Nat.le_of_ble_eq_true rfl⟩) hS (fun r14 u15 H locs p_16 hG hS => ?_)
          obtain ⟨rfl, he_⟩ := p_16
          rw [he_] at hG; clear he_
          obtain ⟨z17, hz17⟩ : ∃ z : Int, z = aimE p6.toNat := ⟨_, rfl⟩
          rw [← hz17]
          have qz17 : -1 ≤ z17 ∧ z17 ≤ 1 := by rw [hz17]; exact aimE_bnd _
          refine lv_iload hx hb dX12_step_108 (lv_at hl 1 rfl) ?_
          have q_18 := mul1 (a := z17) (b := wy) (by omega) (by omega)
          refine z_imul hx hb dX12_step_110 ?_
          refine z_iadd hx hb dX12_step_111 ?_
          refine lv_aload_n hx hb dX12_step_112 rfl (lv_at hl 5 rfl) ?_
          refine g_get (C := RX12) (T := TX12) (N := 42) (ci := 11) hx hb hts (fun _ h => (List.mem_cons_of_mem _ (List.mem_append_right _ h))) hown hC.1 hG 8 (by decide) rfl rfl 2 (by decide) (hts (.fieldLink RX12 13 "StraitSwimModel" "easts" "[I") (List.mem_cons_of_mem _ (List.mem_append_left _ (List.mem_append_left _ (List.mem_of_getElem? (i := 4) rfl))))) (fun _ h9 => h9) rfl dX12_step_113 ?_
          refine lv_iload hx hb dX12_step_116 (lv_at hl 0 rfl) ?_
          refine g_iald (n := 36) hx hb hC.1 hG 32 (by decide) rfl (by omega) (by omega) (by decide) dX12_step_118 ?_
          have q_19 := i32 td.toNat (by omega)
          refine z_iadd hx hb dX12_step_119 ?_
          obtain ⟨nx, hnx⟩ : ∃ z : Int, z = ((w.2.1 38 a.toNat) + (z17 * wy)) + (w.2.1 32 td.toNat) := ⟨_, rfl⟩
          rw [← hnx]
          refine lv_istore (lv' := [(12, .int (zI nx)), (11, .int (zI td)), (10, .int (zI wy)), (9, .int (zI z9)), (8, .int (zI t)), (7, .int (zI a)), (0, .ref (ad 8)), (1, .int (zI p1)), (2, .int (zI p2)), (3, .int (zI p3)), (4, .int (zI p4)), (5, .int (zI p5)), (6, .int (zI p6))]) hx hb dX12_step_120 hl (by decide) rfl (fun ls hl => ?_)
          refine lv_aload_n hx hb dX12_step_122 rfl (lv_at hl 6 rfl) ?_
          refine g_get (C := RX12) (T := TX12) (N := 42) (ci := 11) hx hb hts (fun _ h => (List.mem_cons_of_mem _ (List.mem_append_right _ h))) hown hC.1 hG 8 (by decide) rfl rfl 12 (by decide) (hts (.fieldLink RX12 42 "StraitSwimModel" "pathY" "[I") (List.mem_cons_of_mem _ (List.mem_append_left _ (List.mem_append_left _ (List.mem_of_getElem? (i := 1) rfl))))) (fun _ h9 => h9) rfl dX12_step_123 ?_
          refine lv_iload hx hb dX12_step_126 (lv_at hl 5 rfl) ?_
          refine g_iald (n := 202) hx hb hC.1 hG 39 (by decide) rfl (by omega) (by omega) (by decide) dX12_step_128 ?_
          refine lv_iload hx hb dX12_step_129 (lv_at hl 12 rfl) ?_
          refine g_calli (va_runS (As := [.int (zI p6)]) (rest := [.int (zI (w.2.1 39 a.toNat))]) ⟨hx, hb, hml, hown, hts⟩ (kX12_northOf l D cy ad jf A w p6 (by omega)) (va_cwS 1 hts gX12_step_X12_northOf rfl rfl rfl (by decide +kernel) ⟨by decide, by decide⟩) (g_preS hG hC hS) rfl rfl hl.1 rfl (lv_room (Nat.le_of_ble_eq_true rfl)) dX12_step_131 ⟨Nat.le_of_ble_eq_true rfl, Nat.le_of_ble_eq_true rfl⟩) hS (fun r20 u21 H locs p_22 hG hS => ?_)
          obtain ⟨rfl, he_⟩ := p_22
          rw [he_] at hG; clear he_
          obtain ⟨z23, hz23⟩ : ∃ z : Int, z = aimN p6.toNat := ⟨_, rfl⟩
          rw [← hz23]
          have qz23 : -1 ≤ z23 ∧ z23 ≤ 1 := by rw [hz23]; exact aimN_bnd _
          refine lv_iload hx hb dX12_step_134 (lv_at hl 2 rfl) ?_
          have q_24 := mul1 (a := z23) (b := wy) (by omega) (by omega)
          refine z_imul hx hb dX12_step_136 ?_
          refine z_iadd hx hb dX12_step_137 ?_
          refine lv_aload_n hx hb dX12_step_138 rfl (lv_at hl 6 rfl) ?_
          refine g_get (C := RX12) (T := TX12) (N := 42) (ci := 11) hx hb hts (fun _ h => (List.mem_cons_of_mem _ (List.mem_append_right _ h))) hown hC.1 hG 8 (by decide) rfl rfl 3 (by decide) (hts (.fieldLink RX12 17 "StraitSwimModel" "norths" "[I") (List.mem_cons_of_mem _ (List.mem_append_left _ (List.mem_append_left _ (List.mem_of_getElem? (i := 5) rfl))))) (fun _ h9 => h9) rfl dX12_step_139 ?_
          refine lv_iload hx hb dX12_step_142 (lv_at hl 1 rfl) ?_
          refine g_iald (n := 36) hx hb hC.1 hG 33 (by decide) rfl (by omega) (by omega) (by decide) dX12_step_144 ?_
          have q_25 := i33 td.toNat (by omega)
          refine z_iadd hx hb dX12_step_145 ?_
          obtain ⟨ny, hny⟩ : ∃ z : Int, z = ((w.2.1 39 a.toNat) + (z23 * wy)) + (w.2.1 33 td.toNat) := ⟨_, rfl⟩
          rw [← hny]
          refine lv_istore (lv' := [(13, .int (zI ny)), (12, .int (zI nx)), (11, .int (zI td)), (10, .int (zI wy)), (9, .int (zI z9)), (8, .int (zI t)), (7, .int (zI a)), (0, .ref (ad 8)), (1, .int (zI p1)), (2, .int (zI p2)), (3, .int (zI p3)), (4, .int (zI p4)), (5, .int (zI p5)), (6, .int (zI p6))]) hx hb dX12_step_146 hl (by decide) rfl (fun ls hl => ?_)
          have hX : nx = stX w p2 p5 p6 t a := by unfold stX stW stT spWay; (repeat (first | rw [if_pos (by omega)] | rw [if_neg (by omega)])); subst_vars; rfl
          have hY : ny = stY w p2 p5 p6 t a := by unfold stY stW stT spWay; (repeat (first | rw [if_pos (by omega)] | rw [if_neg (by omega)])); subst_vars; rfl
          have hbX : -1000 ≤ nx ∧ nx ≤ 1000 := by omega
          have hbY : -1000 ≤ ny ∧ ny ≤ 1000 := by omega
          refine lv_aload_n hx hb dX12_step_148 rfl (lv_at hl 7 rfl) ?_
          refine g_get (C := RX12) (T := TX12) (N := 42) (ci := 11) hx hb hts (fun _ h => (List.mem_cons_of_mem _ (List.mem_append_right _ h))) hown hC.1 hG 8 (by decide) rfl rfl 13 (by decide) (hts (.fieldLink RX12 45 "StraitSwimModel" "quarters" "[I") (List.mem_cons_of_mem _ (List.mem_append_left _ (List.mem_append_left _ (List.mem_of_getElem? (i := 3) rfl))))) (fun _ h9 => h9) rfl dX12_step_149 ?_
          refine lv_iload_n hx hb dX12_step_152 rfl (lv_at hl 8 rfl) ?_
          refine lv_iload hx hb dX12_step_153 (lv_at hl 5 rfl) ?_
          refine z_iconst hx hb dX12_step_155 ?_
          refine z_iadd hx hb dX12_step_156 ?_
          refine g_iast (n := 2) hx hb hC.1 hG hS 40 (by decide) rfl rfl (by omega) (by omega) (by decide) dX12_step_157 (fun u26 H locs hu26 hG hS => ?_)
          refine lv_iload hx hb dX12_step_158 (lv_at hl 1 rfl) ?_
          refine lv_iload hx hb dX12_step_160 (lv_at hl 0 rfl) ?_
          refine g_calli (va_runS (As := [.int (zI nx), .int (zI ny)]) (rest := []) ⟨hx, hb, hml, hown, hts⟩ (kX12_isPlace l D cy ad jf A u26 nx ny (by omega) (by omega)) (va_cwS 2 hts gX12_step_X12_isPlace rfl rfl rfl (by decide +kernel) ⟨by decide, by decide⟩) (g_preS hG hC hS) rfl rfl hl.1 rfl (lv_room (Nat.le_of_ble_eq_true rfl)) dX12_step_162 ⟨Nat.le_of_ble_eq_true rfl, Nat.le_of_ble_eq_true rfl⟩) hS (fun r27 u28 H locs p_29 hG hS => ?_)
          obtain ⟨⟨b30, rfl, q_31⟩, he_⟩ := p_29
          rw [he_] at hG; clear he_
          have hbb30 : 0 ≤ b30 ∧ b30 ≤ 1 := by rcases q_31 with ⟨h, _⟩ | ⟨h, _⟩ <;> omega
          refine z_if_ne (tgt := 172) hx hb dX12_step_165 (by decide) (by omega) (by omega) (fun c_32 => ?_) (fun c_32 => ?_)
          · refine z_iconst hx hb dX12_step_172 ?_
            refine lv_istore (lv' := [(14, .int (zI 0)), (13, .int (zI ny)), (12, .int (zI nx)), (11, .int (zI td)), (10, .int (zI wy)), (9, .int (zI z9)), (8, .int (zI t)), (7, .int (zI a)), (0, .ref (ad 8)), (1, .int (zI p1)), (2, .int (zI p2)), (3, .int (zI p3)), (4, .int (zI p4)), (5, .int (zI p5)), (6, .int (zI p6))]) hx hb dX12_step_173 hl (by decide) rfl (fun ls hl => ?_)
            refine lv_aload_n hx hb dX12_step_175 rfl (lv_at hl 8 rfl) ?_
            refine g_get (C := RX12) (T := TX12) (N := 42) (ci := 11) hx hb hts (fun _ h => (List.mem_cons_of_mem _ (List.mem_append_right _ h))) hown hC.1 hG 8 (by decide) rfl rfl 11 (by decide) (hts (.fieldLink RX12 39 "StraitSwimModel" "pathX" "[I") (List.mem_cons_of_mem _ (List.mem_append_left _ (List.mem_append_left _ (List.mem_of_getElem? (i := 0) rfl))))) (fun _ h9 => h9) rfl dX12_step_176 ?_
            refine lv_iload hx hb dX12_step_179 (lv_at hl 7 rfl) ?_
            refine z_iconst hx hb dX12_step_181 ?_
            refine z_iadd hx hb dX12_step_182 ?_
            refine lv_iload hx hb dX12_step_183 (lv_at hl 0 rfl) ?_
            refine z_if_eq (tgt := 198) hx hb dX12_step_185 (by decide) (by omega) (by omega) (fun c_33 => ?_) (fun c_33 => ?_)
            · refine lv_iload hx hb dX12_step_198 (lv_at hl 2 rfl) ?_
              refine g_iast (n := 202) hx hb hC.1 hG hS 38 (by decide) rfl rfl (by omega) (by omega) (by decide) dX12_step_200 (fun u34 H locs hu34 hG hS => ?_)
              refine lv_aload_n hx hb dX12_step_201 rfl (lv_at hl 8 rfl) ?_
              refine g_get (C := RX12) (T := TX12) (N := 42) (ci := 11) hx hb hts (fun _ h => (List.mem_cons_of_mem _ (List.mem_append_right _ h))) hown hC.1 hG 8 (by decide) rfl rfl 12 (by decide) (hts (.fieldLink RX12 42 "StraitSwimModel" "pathY" "[I") (List.mem_cons_of_mem _ (List.mem_append_left _ (List.mem_append_left _ (List.mem_of_getElem? (i := 1) rfl))))) (fun _ h9 => h9) rfl dX12_step_202 ?_
              refine lv_iload hx hb dX12_step_205 (lv_at hl 7 rfl) ?_
              refine z_iconst hx hb dX12_step_207 ?_
              refine z_iadd hx hb dX12_step_208 ?_
              refine lv_iload hx hb dX12_step_209 (lv_at hl 0 rfl) ?_
              refine z_if_eq (tgt := 224) hx hb dX12_step_211 (by decide) (by omega) (by omega) (fun c_35 => ?_) (fun c_35 => ?_)
              · refine lv_iload hx hb dX12_step_224 (lv_at hl 1 rfl) ?_
                refine g_iast (n := 202) hx hb hC.1 hG hS 39 (by decide) rfl rfl (by omega) (by omega) (by decide) dX12_step_226 (fun u36 H locs hu36 hG hS => ?_)
                refine lv_iload hx hb dX12_step_227 (lv_at hl 0 rfl) ?_
                refine z_if_eq (tgt := 234) hx hb dX12_step_229 (by decide) (by omega) (by omega) (fun c_37 => ?_) (fun c_37 => ?_)
                · refine z_iinc (lv' := [(7, .int (zI (a + 1))), (14, .int (zI 0)), (13, .int (zI ny)), (12, .int (zI nx)), (11, .int (zI td)), (10, .int (zI wy)), (9, .int (zI z9)), (8, .int (zI t)), (0, .ref (ad 8)), (1, .int (zI p1)), (2, .int (zI p2)), (3, .int (zI p3)), (4, .int (zI p4)), (5, .int (zI p5)), (6, .int (zI p6))]) hx hb dX12_step_234 hl (k := 7) rfl (by decide) rfl (fun ls hl => ?_)
                  refine lv_aload_n hx hb dX12_step_237 rfl (lv_at hl 8 rfl) ?_
                  refine g_get (C := RX12) (T := TX12) (N := 42) (ci := 11) hx hb hts (fun _ h => (List.mem_cons_of_mem _ (List.mem_append_right _ h))) hown hC.1 hG 8 (by decide) rfl rfl 14 (by decide) (hts (.fieldLink RX12 48 "StraitSwimModel" "colds" "[I") (List.mem_cons_of_mem _ (List.mem_append_left _ (List.mem_append_left _ (List.mem_of_getElem? (i := 2) rfl))))) (fun _ h9 => h9) rfl dX12_step_238 ?_
                  refine lv_iload_n hx hb dX12_step_241 rfl (lv_at hl 9 rfl) ?_
                  refine g_iald (n := 2) hx hb hC.1 hG 41 (by decide) rfl (by omega) (by omega) (by decide) dX12_step_242 ?_
                  have e_38 : u36.2.1 41 = w.2.1 41 := by subst hu36; subst hu34; subst hu26; rfl
                  rw [e_38]
                  refine lv_aload_n hx hb dX12_step_243 rfl (lv_at hl 8 rfl) ?_
                  refine lv_iload_n hx hb dX12_step_244 rfl (lv_at hl 10 rfl) ?_
                  refine lv_iload hx hb dX12_step_245 (lv_at hl 7 rfl) ?_
                  refine g_calli (va_runV (As := [.int (zI p2), .int (zI t)]) (rest := [.int (zI (w.2.1 41 p1.toNat))]) ⟨hx, hb, hml, hown, hts⟩ (kX12_coldOf l D cy ad jf A u36 p2 t (by omega) (by omega) (by subst hu36; subst hu34; subst hu26; exact i21) (by subst hu36; subst hu34; subst hu26; exact i34)) (cwV 2 hts gX12_step_X12_coldOf rfl rfl rfl (by decide +kernel) ⟨by decide, by decide⟩) (g_preV (C := RX12) hG hC hS 8 (by decide) rfl rfl) rfl rfl hl.1 rfl (lv_room (Nat.le_of_ble_eq_true rfl)) dX12_step_247 ⟨Nat.le_of_ble_eq_true rfl, Nat.le_of_ble_eq_true rfl⟩) hS (fun r39 u40 H locs p_41 hG hS => ?_)
                  obtain ⟨rfl, he_⟩ := p_41
                  rw [he_] at hG; clear he_
                  have e_43 : spCold (u36.2.1 34 p2.toNat) (u36.1 21) t = spCold (w.2.1 34 p2.toNat) (w.1 21) t := by subst hu36; subst hu34; subst hu26; rfl
                  rw [e_43]
                  obtain ⟨z42, hz42⟩ : ∃ z : Int, z = spCold (w.2.1 34 p2.toNat) (w.1 21) t := ⟨_, rfl⟩
                  rw [← hz42]
                  have qz42 : 0 ≤ z42 ∧ z42 ≤ 145 := by rw [hz42]; exact spCold_bnd (i34 _ (by omega)) i21 (by omega)
                  refine z_iadd hx hb dX12_step_250 ?_
                  refine lv_aload_n hx hb dX12_step_251 rfl (lv_at hl 8 rfl) ?_
                  refine lv_iload_n hx hb dX12_step_252 rfl (lv_at hl 10 rfl) ?_
                  refine lv_iload hx hb dX12_step_253 (lv_at hl 7 rfl) ?_
                  refine g_calli (va_runV (As := [.int (zI p2), .int (zI t)]) (rest := [.int (zI ((w.2.1 41 p1.toNat) + z42))]) ⟨hx, hb, hml, hown, hts⟩ (kX12_isFed l D cy ad jf A u36 p2 t (by omega) (by omega) (by subst hu36; subst hu34; subst hu26; exact i37)) (cwV 2 hts gX12_step_X12_isFed rfl rfl rfl (by decide +kernel) ⟨by decide, by decide⟩) (g_preV (C := RX12) hG hC hS 8 (by decide) rfl rfl) rfl rfl hl.1 rfl (lv_room (Nat.le_of_ble_eq_true rfl)) dX12_step_255 ⟨Nat.le_of_ble_eq_true rfl, Nat.le_of_ble_eq_true rfl⟩) hS (fun r44 u45 H locs p_46 hG hS => ?_)
                  rw [show u36.2.1 37 = w.2.1 37 from (by subst hu36; subst hu34; subst hu26; rfl)] at p_46
                  obtain ⟨⟨b47, rfl, q_48⟩, he_⟩ := p_46
                  rw [he_] at hG; clear he_
                  have hbb47 : 0 ≤ b47 ∧ b47 ≤ 1 := by rcases q_48 with ⟨h, _⟩ | ⟨h, _⟩ <;> omega
                  refine z_if_eq (tgt := 265) hx hb dX12_step_258 (by decide) (by omega) (by omega) (fun c_49 => ?_) (fun c_49 => ?_)
                  · refine z_iconst hx hb dX12_step_265 ?_
                    refine z_isub hx hb dX12_step_266 ?_
                    obtain ⟨cd, hcd⟩ : ∃ z : Int, z = ((w.2.1 41 p1.toNat) + z42) - 0 := ⟨_, rfl⟩
                    rw [← hcd]
                    refine lv_istore (lv' := [(15, .int (zI cd)), (7, .int (zI (a + 1))), (14, .int (zI 0)), (13, .int (zI ny)), (12, .int (zI nx)), (11, .int (zI td)), (10, .int (zI wy)), (9, .int (zI z9)), (8, .int (zI t)), (0, .ref (ad 8)), (1, .int (zI p1)), (2, .int (zI p2)), (3, .int (zI p3)), (4, .int (zI p4)), (5, .int (zI p5)), (6, .int (zI p6))]) hx hb dX12_step_267 hl (by decide) rfl (fun ls hl => ?_)
                    have hC0 : cd = stC0 w p1 p2 t := by unfold stC0; (repeat (first | rw [if_pos (by omega)] | rw [if_neg (by omega)])); subst_vars; rfl
                    refine lv_aload_n hx hb dX12_step_269 rfl (lv_at hl 9 rfl) ?_
                    refine g_get (C := RX12) (T := TX12) (N := 42) (ci := 11) hx hb hts (fun _ h => (List.mem_cons_of_mem _ (List.mem_append_right _ h))) hown hC.1 hG 8 (by decide) rfl rfl 14 (by decide) (hts (.fieldLink RX12 48 "StraitSwimModel" "colds" "[I") (List.mem_cons_of_mem _ (List.mem_append_left _ (List.mem_append_left _ (List.mem_of_getElem? (i := 2) rfl))))) (fun _ h9 => h9) rfl dX12_step_270 ?_
                    refine lv_iload_n hx hb dX12_step_273 rfl (lv_at hl 10 rfl) ?_
                    refine lv_iload hx hb dX12_step_274 (lv_at hl 0 rfl) ?_
                    refine z_if_ge (tgt := 283) hx hb dX12_step_276 (by decide) (by omega) (by omega) (fun c_50 => ?_) (fun c_50 => ?_)
                    · refine lv_iload hx hb dX12_step_283 (lv_at hl 0 rfl) ?_
                      refine g_iast (n := 2) hx hb hC.1 hG hS 41 (by decide) rfl rfl (by omega) (by omega) (by decide) dX12_step_285 (fun u51 H locs hu51 hG hS => ?_)
                      have hCC : stC w p1 p2 t = cd := by unfold stC; rw [← hC0]; (repeat (first | rw [if_pos (by omega)] | rw [if_neg (by omega)]))
                      refine lv_aload_n hx hb dX12_step_286 rfl (lv_at hl 9 rfl) ?_
                      refine lv_iload hx hb dX12_step_287 (lv_at hl 4 rfl) ?_
                      refine lv_iload hx hb dX12_step_289 (lv_at hl 3 rfl) ?_
                      refine g_calli (va_runV (As := [.int (zI nx), .int (zI ny)]) (rest := []) ⟨hx, hb, hml, hown, hts⟩ (kX12_isDry l D cy ad jf A u51 nx ny (by omega) (by omega) (by subst hu51; subst hu36; subst hu34; subst hu26; exact hd)) (cwV 2 hts gX12_step_X12_isDry rfl rfl rfl (by decide +kernel) ⟨by decide, by decide⟩) (g_preV (C := RX12) hG hC hS 8 (by decide) rfl rfl) rfl rfl hl.1 rfl (lv_room (Nat.le_of_ble_eq_true rfl)) dX12_step_291 ⟨Nat.le_of_ble_eq_true rfl, Nat.le_of_ble_eq_true rfl⟩) hS (fun r52 u53 H locs p_54 hG hS => ?_)
                      obtain ⟨rfl, he_⟩ := p_54
                      rw [he_] at hG; clear he_
                      have e_57 : spDry (u51.2.1 31) nx ny = spDry (w.2.1 31) nx ny := by subst hu51; subst hu36; subst hu34; subst hu26; rfl
                      rw [e_57]
                      obtain ⟨z56, hz56⟩ : ∃ z : Int, z = spDry (w.2.1 31) nx ny := ⟨_, rfl⟩
                      rw [← hz56]
                      have q_55 : z56 = 0 ∨ z56 = 1 := by rw [hz56]; exact hd _ (by omega)
                      refine z_if_eq (tgt := 299) hx hb dX12_step_294 (by decide) (by omega) (by omega) (fun c_58 => ?_) (fun c_58 => ?_)
                      · refine lv_aload_n hx hb dX12_step_299 rfl (lv_at hl 9 rfl) ?_
                        refine g_get (C := RX12) (T := TX12) (N := 42) (ci := 11) hx hb hts (fun _ h => (List.mem_cons_of_mem _ (List.mem_append_right _ h))) hown hC.1 hG 8 (by decide) rfl rfl 14 (by decide) (hts (.fieldLink RX12 48 "StraitSwimModel" "colds" "[I") (List.mem_cons_of_mem _ (List.mem_append_left _ (List.mem_append_left _ (List.mem_of_getElem? (i := 2) rfl))))) (fun _ h9 => h9) rfl dX12_step_300 ?_
                        refine lv_iload_n hx hb dX12_step_303 rfl (lv_at hl 10 rfl) ?_
                        refine g_iald (n := 2) hx hb hC.1 hG 41 (by decide) rfl (by omega) (by omega) (by decide) dX12_step_304 ?_
                        have e_59 : u51.2.1 41 = va_up (w.2.1 41) p1.toNat cd := by subst hu51; subst hu36; subst hu34; subst hu26; rfl
                        rw [e_59]
                        rw [up_s]
                        refine lv_aload_n hx hb dX12_step_305 rfl (lv_at hl 9 rfl) ?_
                        refine g_get (C := RX12) (T := TX12) (N := 42) (ci := 11) hx hb hts (fun _ h => (List.mem_cons_of_mem _ (List.mem_append_right _ h))) hown hC.1 hG 8 (by decide) rfl rfl 9 (by decide) (hts (.fieldLink RX12 33 "StraitSwimModel" "limit" "[I") (List.mem_cons_of_mem _ (List.mem_append_left _ (List.mem_append_left _ (List.mem_of_getElem? (i := 6) rfl))))) (fun _ h9 => h9) rfl dX12_step_306 ?_
                        refine lv_iload_n hx hb dX12_step_309 rfl (lv_at hl 11 rfl) ?_
                        refine g_iald (n := 10) hx hb hC.1 hG 36 (by decide) rfl (by omega) (by omega) (by decide) dX12_step_310 ?_
                        have e_61 : u51.2.1 36 = w.2.1 36 := by subst hu51; subst hu36; subst hu34; subst hu26; rfl
                        rw [e_61]
                        have q_62 := i36 p2.toNat (by omega)
                        refine z_icmp_lt (tgt := 316) hx hb dX12_step_311 (by decide) (by omega) (by omega) (by omega) (by omega) (fun c_63 => ?_) (fun c_63 => ?_)
                        · refine z_iinc (lv' := [(8, .int (zI (t + 1))), (15, .int (zI cd)), (7, .int (zI (a + 1))), (14, .int (zI 0)), (13, .int (zI ny)), (12, .int (zI nx)), (11, .int (zI td)), (10, .int (zI wy)), (9, .int (zI z9)), (0, .ref (ad 8)), (1, .int (zI p1)), (2, .int (zI p2)), (3, .int (zI p3)), (4, .int (zI p4)), (5, .int (zI p5)), (6, .int (zI p6))]) hx hb dX12_step_316 hl (k := 8) rfl (by decide) rfl (fun ls hl => ?_)
                          refine lv_goto (tgt := 40) hx hb dX12_step_319 (by decide) ?_
                          exact ih40 (t + 1) (a + 1) u51 _ _ _ (by omega) (by omega) (by omega) (by subst hu51; subst hu36; subst hu34; subst hu26; exact i34) (by subst hu51; subst hu36; subst hu34; subst hu26; exact i35) (by subst hu51; subst hu36; subst hu34; subst hu26; exact i36) (by subst hu51; subst hu36; subst hu34; subst hu26; exact i37) (by subst hu51; subst hu36; subst hu34; subst hu26; exact i32) (by subst hu51; subst hu36; subst hu34; subst hu26; exact i33) (by subst hu51; subst hu36; subst hu34; subst hu26; exact hd) (by subst hu51; subst hu36; subst hu34; subst hu26; exact i21) (by subst hu51; subst hu36; subst hu34; subst hu26; show 0 ≤ va_up _ _ _ _ ∧ va_up _ _ _ _ ≤ 239; rw [up_s]; omega) (by subst hu51; subst hu36; subst hu34; subst hu26; show 0 ≤ va_up _ _ _ _ ∧ va_up _ _ _ _ ≤ 119; rw [up_s]; omega) (by subst hu51; subst hu36; subst hu34; subst hu26; show 0 ≤ va_up _ _ _ _ ∧ va_up _ _ _ _ ≤ _; rw [up_s]; omega) (by first | (exfalso; omega) | (rw [hT, mStep, if_pos (by omega)]; simp only [← hX, ← hY, hCC, ← hz56]; (repeat (first | rw [if_pos (by omega)] | rw [if_neg (by omega)])); unfold stD stB; subst hu51; subst hu36; subst hu34; subst hu26; rfl)) hG hS (lv_sub hl [0, 2, 9, 10, 11, 12, 13, 14, 15] rfl)
                        · refine z_iconst hx hb dX12_step_314 ?_
                          exact W.iret (v := zI 1) hx hb hr (fun t9 ht9_ hW => ⟨⟨zI 1, u51, rfl, (by first | (exfalso; omega) | (unfold mStepA; rw [hT, mStep, if_pos (by omega)]; simp only [← hX, ← hY, hCC, ← hz56]; (repeat (first | rw [if_pos (by omega)] | rw [if_neg (by omega)])); all_goals (unfold stD stB; subst hu51; subst hu36; subst hu34; subst hu26; exact ⟨rfl, rfl⟩))), gB.mk' hG hC hS ht9_ hW⟩, hS.F ht9_⟩) hS.2.2 dX12_step_315
                      · refine z_iconst hx hb dX12_step_297 ?_
                        exact W.iret (v := zI 0) hx hb hr (fun t9 ht9_ hW => ⟨⟨zI 0, u51, rfl, (by first | (exfalso; omega) | (unfold mStepA; rw [hT, mStep, if_pos (by omega)]; simp only [← hX, ← hY, hCC, ← hz56]; (repeat (first | rw [if_pos (by omega)] | rw [if_neg (by omega)])); all_goals (unfold stD stB; subst hu51; subst hu36; subst hu34; subst hu26; exact ⟨rfl, rfl⟩))), gB.mk' hG hC hS ht9_ hW⟩, hS.F ht9_⟩) hS.2.2 dX12_step_298
                    · refine z_iconst hx hb dX12_step_279 ?_
                      refine lv_goto (tgt := 285) hx hb dX12_step_280 (by decide) ?_
                      refine g_iast (n := 2) hx hb hC.1 hG hS 41 (by decide) rfl rfl (by omega) (by omega) (by decide) dX12_step_285 (fun u64 H locs hu64 hG hS => ?_)
                      have hCC : stC w p1 p2 t = 0 := by unfold stC; rw [← hC0]; (repeat (first | rw [if_pos (by omega)] | rw [if_neg (by omega)]))
                      refine lv_aload_n hx hb dX12_step_286 rfl (lv_at hl 9 rfl) ?_
                      refine lv_iload hx hb dX12_step_287 (lv_at hl 4 rfl) ?_
                      refine lv_iload hx hb dX12_step_289 (lv_at hl 3 rfl) ?_
                      refine g_calli (va_runV (As := [.int (zI nx), .int (zI ny)]) (rest := []) ⟨hx, hb, hml, hown, hts⟩ (kX12_isDry l D cy ad jf A u64 nx ny (by omega) (by omega) (by subst hu64; subst hu36; subst hu34; subst hu26; exact hd)) (cwV 2 hts gX12_step_X12_isDry rfl rfl rfl (by decide +kernel) ⟨by decide, by decide⟩) (g_preV (C := RX12) hG hC hS 8 (by decide) rfl rfl) rfl rfl hl.1 rfl (lv_room (Nat.le_of_ble_eq_true rfl)) dX12_step_291 ⟨Nat.le_of_ble_eq_true rfl, Nat.le_of_ble_eq_true rfl⟩) hS (fun r65 u66 H locs p_67 hG hS => ?_)
                      obtain ⟨rfl, he_⟩ := p_67
                      rw [he_] at hG; clear he_
                      have e_70 : spDry (u64.2.1 31) nx ny = spDry (w.2.1 31) nx ny := by subst hu64; subst hu36; subst hu34; subst hu26; rfl
                      rw [e_70]
                      obtain ⟨z69, hz69⟩ : ∃ z : Int, z = spDry (w.2.1 31) nx ny := ⟨_, rfl⟩
                      rw [← hz69]
                      have q_68 : z69 = 0 ∨ z69 = 1 := by rw [hz69]; exact hd _ (by omega)
                      refine z_if_eq (tgt := 299) hx hb dX12_step_294 (by decide) (by omega) (by omega) (fun c_71 => ?_) (fun c_71 => ?_)
                      · refine lv_aload_n hx hb dX12_step_299 rfl (lv_at hl 9 rfl) ?_
                        refine g_get (C := RX12) (T := TX12) (N := 42) (ci := 11) hx hb hts (fun _ h => (List.mem_cons_of_mem _ (List.mem_append_right _ h))) hown hC.1 hG 8 (by decide) rfl rfl 14 (by decide) (hts (.fieldLink RX12 48 "StraitSwimModel" "colds" "[I") (List.mem_cons_of_mem _ (List.mem_append_left _ (List.mem_append_left _ (List.mem_of_getElem? (i := 2) rfl))))) (fun _ h9 => h9) rfl dX12_step_300 ?_
                        refine lv_iload_n hx hb dX12_step_303 rfl (lv_at hl 10 rfl) ?_
                        refine g_iald (n := 2) hx hb hC.1 hG 41 (by decide) rfl (by omega) (by omega) (by decide) dX12_step_304 ?_
                        have e_72 : u64.2.1 41 = va_up (w.2.1 41) p1.toNat 0 := by subst hu64; subst hu36; subst hu34; subst hu26; rfl
                        rw [e_72]
                        rw [up_s]
                        refine lv_aload_n hx hb dX12_step_305 rfl (lv_at hl 9 rfl) ?_
                        refine g_get (C := RX12) (T := TX12) (N := 42) (ci := 11) hx hb hts (fun _ h => (List.mem_cons_of_mem _ (List.mem_append_right _ h))) hown hC.1 hG 8 (by decide) rfl rfl 9 (by decide) (hts (.fieldLink RX12 33 "StraitSwimModel" "limit" "[I") (List.mem_cons_of_mem _ (List.mem_append_left _ (List.mem_append_left _ (List.mem_of_getElem? (i := 6) rfl))))) (fun _ h9 => h9) rfl dX12_step_306 ?_
                        refine lv_iload_n hx hb dX12_step_309 rfl (lv_at hl 11 rfl) ?_
                        refine g_iald (n := 10) hx hb hC.1 hG 36 (by decide) rfl (by omega) (by omega) (by decide) dX12_step_310 ?_
                        have e_74 : u64.2.1 36 = w.2.1 36 := by subst hu64; subst hu36; subst hu34; subst hu26; rfl
                        rw [e_74]
                        have q_75 := i36 p2.toNat (by omega)
                        refine z_icmp_lt (tgt := 316) hx hb dX12_step_311 (by decide) (by omega) (by omega) (by omega) (by omega) (fun c_76 => ?_) (fun c_76 => ?_)
                        · refine z_iinc (lv' := [(8, .int (zI (t + 1))), (15, .int (zI cd)), (7, .int (zI (a + 1))), (14, .int (zI 0)), (13, .int (zI ny)), (12, .int (zI nx)), (11, .int (zI td)), (10, .int (zI wy)), (9, .int (zI z9)), (0, .ref (ad 8)), (1, .int (zI p1)), (2, .int (zI p2)), (3, .int (zI p3)), (4, .int (zI p4)), (5, .int (zI p5)), (6, .int (zI p6))]) hx hb dX12_step_316 hl (k := 8) rfl (by decide) rfl (fun ls hl => ?_)
                          refine lv_goto (tgt := 40) hx hb dX12_step_319 (by decide) ?_
                          exact ih40 (t + 1) (a + 1) u64 _ _ _ (by omega) (by omega) (by omega) (by subst hu64; subst hu36; subst hu34; subst hu26; exact i34) (by subst hu64; subst hu36; subst hu34; subst hu26; exact i35) (by subst hu64; subst hu36; subst hu34; subst hu26; exact i36) (by subst hu64; subst hu36; subst hu34; subst hu26; exact i37) (by subst hu64; subst hu36; subst hu34; subst hu26; exact i32) (by subst hu64; subst hu36; subst hu34; subst hu26; exact i33) (by subst hu64; subst hu36; subst hu34; subst hu26; exact hd) (by subst hu64; subst hu36; subst hu34; subst hu26; exact i21) (by subst hu64; subst hu36; subst hu34; subst hu26; show 0 ≤ va_up _ _ _ _ ∧ va_up _ _ _ _ ≤ 239; rw [up_s]; omega) (by subst hu64; subst hu36; subst hu34; subst hu26; show 0 ≤ va_up _ _ _ _ ∧ va_up _ _ _ _ ≤ 119; rw [up_s]; omega) (by subst hu64; subst hu36; subst hu34; subst hu26; show 0 ≤ va_up _ _ _ _ ∧ va_up _ _ _ _ ≤ _; rw [up_s]; omega) (by first | (exfalso; omega) | (rw [hT, mStep, if_pos (by omega)]; simp only [← hX, ← hY, hCC, ← hz69]; (repeat (first | rw [if_pos (by omega)] | rw [if_neg (by omega)])); unfold stD stB; subst hu64; subst hu36; subst hu34; subst hu26; rfl)) hG hS (lv_sub hl [0, 2, 9, 10, 11, 12, 13, 14, 15] rfl)
                        · refine z_iconst hx hb dX12_step_314 ?_
                          exact W.iret (v := zI 1) hx hb hr (fun t9 ht9_ hW => ⟨⟨zI 1, u64, rfl, (by first | (exfalso; omega) | (unfold mStepA; rw [hT, mStep, if_pos (by omega)]; simp only [← hX, ← hY, hCC, ← hz69]; (repeat (first | rw [if_pos (by omega)] | rw [if_neg (by omega)])); all_goals (unfold stD stB; subst hu64; subst hu36; subst hu34; subst hu26; exact ⟨rfl, rfl⟩))), gB.mk' hG hC hS ht9_ hW⟩, hS.F ht9_⟩) hS.2.2 dX12_step_315
                      · refine z_iconst hx hb dX12_step_297 ?_
                        exact W.iret (v := zI 0) hx hb hr (fun t9 ht9_ hW => ⟨⟨zI 0, u64, rfl, (by first | (exfalso; omega) | (unfold mStepA; rw [hT, mStep, if_pos (by omega)]; simp only [← hX, ← hY, hCC, ← hz69]; (repeat (first | rw [if_pos (by omega)] | rw [if_neg (by omega)])); all_goals (unfold stD stB; subst hu64; subst hu36; subst hu34; subst hu26; exact ⟨rfl, rfl⟩))), gB.mk' hG hC hS ht9_ hW⟩, hS.F ht9_⟩) hS.2.2 dX12_step_298
                  · refine z_iconst hx hb dX12_step_261 ?_
                    refine lv_goto (tgt := 266) hx hb dX12_step_262 (by decide) ?_
                    refine z_isub hx hb dX12_step_266 ?_
                    obtain ⟨cd, hcd⟩ : ∃ z : Int, z = ((w.2.1 41 p1.toNat) + z42) - 3 := ⟨_, rfl⟩
                    rw [← hcd]
                    refine lv_istore (lv' := [(15, .int (zI cd)), (7, .int (zI (a + 1))), (14, .int (zI 0)), (13, .int (zI ny)), (12, .int (zI nx)), (11, .int (zI td)), (10, .int (zI wy)), (9, .int (zI z9)), (8, .int (zI t)), (0, .ref (ad 8)), (1, .int (zI p1)), (2, .int (zI p2)), (3, .int (zI p3)), (4, .int (zI p4)), (5, .int (zI p5)), (6, .int (zI p6))]) hx hb dX12_step_267 hl (by decide) rfl (fun ls hl => ?_)
                    have hC0 : cd = stC0 w p1 p2 t := by unfold stC0; (repeat (first | rw [if_pos (by omega)] | rw [if_neg (by omega)])); subst_vars; rfl
                    refine lv_aload_n hx hb dX12_step_269 rfl (lv_at hl 9 rfl) ?_
                    refine g_get (C := RX12) (T := TX12) (N := 42) (ci := 11) hx hb hts (fun _ h => (List.mem_cons_of_mem _ (List.mem_append_right _ h))) hown hC.1 hG 8 (by decide) rfl rfl 14 (by decide) (hts (.fieldLink RX12 48 "StraitSwimModel" "colds" "[I") (List.mem_cons_of_mem _ (List.mem_append_left _ (List.mem_append_left _ (List.mem_of_getElem? (i := 2) rfl))))) (fun _ h9 => h9) rfl dX12_step_270 ?_
                    refine lv_iload_n hx hb dX12_step_273 rfl (lv_at hl 10 rfl) ?_
                    refine lv_iload hx hb dX12_step_274 (lv_at hl 0 rfl) ?_
                    refine z_if_ge (tgt := 283) hx hb dX12_step_276 (by decide) (by omega) (by omega) (fun c_77 => ?_) (fun c_77 => ?_)
                    · refine lv_iload hx hb dX12_step_283 (lv_at hl 0 rfl) ?_
                      refine g_iast (n := 2) hx hb hC.1 hG hS 41 (by decide) rfl rfl (by omega) (by omega) (by decide) dX12_step_285 (fun u78 H locs hu78 hG hS => ?_)
                      have hCC : stC w p1 p2 t = cd := by unfold stC; rw [← hC0]; (repeat (first | rw [if_pos (by omega)] | rw [if_neg (by omega)]))
                      refine lv_aload_n hx hb dX12_step_286 rfl (lv_at hl 9 rfl) ?_
                      refine lv_iload hx hb dX12_step_287 (lv_at hl 4 rfl) ?_
                      refine lv_iload hx hb dX12_step_289 (lv_at hl 3 rfl) ?_
                      refine g_calli (va_runV (As := [.int (zI nx), .int (zI ny)]) (rest := []) ⟨hx, hb, hml, hown, hts⟩ (kX12_isDry l D cy ad jf A u78 nx ny (by omega) (by omega) (by subst hu78; subst hu36; subst hu34; subst hu26; exact hd)) (cwV 2 hts gX12_step_X12_isDry rfl rfl rfl (by decide +kernel) ⟨by decide, by decide⟩) (g_preV (C := RX12) hG hC hS 8 (by decide) rfl rfl) rfl rfl hl.1 rfl (lv_room (Nat.le_of_ble_eq_true rfl)) dX12_step_291 ⟨Nat.le_of_ble_eq_true rfl, Nat.le_of_ble_eq_true rfl⟩) hS (fun r79 u80 H locs p_81 hG hS => ?_)
                      obtain ⟨rfl, he_⟩ := p_81
                      rw [he_] at hG; clear he_
                      have e_84 : spDry (u78.2.1 31) nx ny = spDry (w.2.1 31) nx ny := by subst hu78; subst hu36; subst hu34; subst hu26; rfl
                      rw [e_84]
                      obtain ⟨z83, hz83⟩ : ∃ z : Int, z = spDry (w.2.1 31) nx ny := ⟨_, rfl⟩
                      rw [← hz83]
                      have q_82 : z83 = 0 ∨ z83 = 1 := by rw [hz83]; exact hd _ (by omega)
                      refine z_if_eq (tgt := 299) hx hb dX12_step_294 (by decide) (by omega) (by omega) (fun c_85 => ?_) (fun c_85 => ?_)
                      · refine lv_aload_n hx hb dX12_step_299 rfl (lv_at hl 9 rfl) ?_
                        refine g_get (C := RX12) (T := TX12) (N := 42) (ci := 11) hx hb hts (fun _ h => (List.mem_cons_of_mem _ (List.mem_append_right _ h))) hown hC.1 hG 8 (by decide) rfl rfl 14 (by decide) (hts (.fieldLink RX12 48 "StraitSwimModel" "colds" "[I") (List.mem_cons_of_mem _ (List.mem_append_left _ (List.mem_append_left _ (List.mem_of_getElem? (i := 2) rfl))))) (fun _ h9 => h9) rfl dX12_step_300 ?_
                        refine lv_iload_n hx hb dX12_step_303 rfl (lv_at hl 10 rfl) ?_
                        refine g_iald (n := 2) hx hb hC.1 hG 41 (by decide) rfl (by omega) (by omega) (by decide) dX12_step_304 ?_
                        have e_86 : u78.2.1 41 = va_up (w.2.1 41) p1.toNat cd := by subst hu78; subst hu36; subst hu34; subst hu26; rfl
                        rw [e_86]
                        rw [up_s]
                        refine lv_aload_n hx hb dX12_step_305 rfl (lv_at hl 9 rfl) ?_
                        refine g_get (C := RX12) (T := TX12) (N := 42) (ci := 11) hx hb hts (fun _ h => (List.mem_cons_of_mem _ (List.mem_append_right _ h))) hown hC.1 hG 8 (by decide) rfl rfl 9 (by decide) (hts (.fieldLink RX12 33 "StraitSwimModel" "limit" "[I") (List.mem_cons_of_mem _ (List.mem_append_left _ (List.mem_append_left _ (List.mem_of_getElem? (i := 6) rfl))))) (fun _ h9 => h9) rfl dX12_step_306 ?_
                        refine lv_iload_n hx hb dX12_step_309 rfl (lv_at hl 11 rfl) ?_
                        refine g_iald (n := 10) hx hb hC.1 hG 36 (by decide) rfl (by omega) (by omega) (by decide) dX12_step_310 ?_
                        have e_88 : u78.2.1 36 = w.2.1 36 := by subst hu78; subst hu36; subst hu34; subst hu26; rfl
                        rw [e_88]
                        have q_89 := i36 p2.toNat (by omega)
                        refine z_icmp_lt (tgt := 316) hx hb dX12_step_311 (by decide) (by omega) (by omega) (by omega) (by omega) (fun c_90 => ?_) (fun c_90 => ?_)
                        · refine z_iinc (lv' := [(8, .int (zI (t + 1))), (15, .int (zI cd)), (7, .int (zI (a + 1))), (14, .int (zI 0)), (13, .int (zI ny)), (12, .int (zI nx)), (11, .int (zI td)), (10, .int (zI wy)), (9, .int (zI z9)), (0, .ref (ad 8)), (1, .int (zI p1)), (2, .int (zI p2)), (3, .int (zI p3)), (4, .int (zI p4)), (5, .int (zI p5)), (6, .int (zI p6))]) hx hb dX12_step_316 hl (k := 8) rfl (by decide) rfl (fun ls hl => ?_)
                          refine lv_goto (tgt := 40) hx hb dX12_step_319 (by decide) ?_
                          exact ih40 (t + 1) (a + 1) u78 _ _ _ (by omega) (by omega) (by omega) (by subst hu78; subst hu36; subst hu34; subst hu26; exact i34) (by subst hu78; subst hu36; subst hu34; subst hu26; exact i35) (by subst hu78; subst hu36; subst hu34; subst hu26; exact i36) (by subst hu78; subst hu36; subst hu34; subst hu26; exact i37) (by subst hu78; subst hu36; subst hu34; subst hu26; exact i32) (by subst hu78; subst hu36; subst hu34; subst hu26; exact i33) (by subst hu78; subst hu36; subst hu34; subst hu26; exact hd) (by subst hu78; subst hu36; subst hu34; subst hu26; exact i21) (by subst hu78; subst hu36; subst hu34; subst hu26; show 0 ≤ va_up _ _ _ _ ∧ va_up _ _ _ _ ≤ 239; rw [up_s]; omega) (by subst hu78; subst hu36; subst hu34; subst hu26; show 0 ≤ va_up _ _ _ _ ∧ va_up _ _ _ _ ≤ 119; rw [up_s]; omega) (by subst hu78; subst hu36; subst hu34; subst hu26; show 0 ≤ va_up _ _ _ _ ∧ va_up _ _ _ _ ≤ _; rw [up_s]; omega) (by first | (exfalso; omega) | (rw [hT, mStep, if_pos (by omega)]; simp only [← hX, ← hY, hCC, ← hz83]; (repeat (first | rw [if_pos (by omega)] | rw [if_neg (by omega)])); unfold stD stB; subst hu78; subst hu36; subst hu34; subst hu26; rfl)) hG hS (lv_sub hl [0, 2, 9, 10, 11, 12, 13, 14, 15] rfl)
                        · refine z_iconst hx hb dX12_step_314 ?_
                          exact W.iret (v := zI 1) hx hb hr (fun t9 ht9_ hW => ⟨⟨zI 1, u78, rfl, (by first | (exfalso; omega) | (unfold mStepA; rw [hT, mStep, if_pos (by omega)]; simp only [← hX, ← hY, hCC, ← hz83]; (repeat (first | rw [if_pos (by omega)] | rw [if_neg (by omega)])); all_goals (unfold stD stB; subst hu78; subst hu36; subst hu34; subst hu26; exact ⟨rfl, rfl⟩))), gB.mk' hG hC hS ht9_ hW⟩, hS.F ht9_⟩) hS.2.2 dX12_step_315
                      · refine z_iconst hx hb dX12_step_297 ?_
                        exact W.iret (v := zI 0) hx hb hr (fun t9 ht9_ hW => ⟨⟨zI 0, u78, rfl, (by first | (exfalso; omega) | (unfold mStepA; rw [hT, mStep, if_pos (by omega)]; simp only [← hX, ← hY, hCC, ← hz83]; (repeat (first | rw [if_pos (by omega)] | rw [if_neg (by omega)])); all_goals (unfold stD stB; subst hu78; subst hu36; subst hu34; subst hu26; exact ⟨rfl, rfl⟩))), gB.mk' hG hC hS ht9_ hW⟩, hS.F ht9_⟩) hS.2.2 dX12_step_298
                    · refine z_iconst hx hb dX12_step_279 ?_
                      refine lv_goto (tgt := 285) hx hb dX12_step_280 (by decide) ?_
                      refine g_iast (n := 2) hx hb hC.1 hG hS 41 (by decide) rfl rfl (by omega) (by omega) (by decide) dX12_step_285 (fun u91 H locs hu91 hG hS => ?_)
                      have hCC : stC w p1 p2 t = 0 := by unfold stC; rw [← hC0]; (repeat (first | rw [if_pos (by omega)] | rw [if_neg (by omega)]))
                      refine lv_aload_n hx hb dX12_step_286 rfl (lv_at hl 9 rfl) ?_
                      refine lv_iload hx hb dX12_step_287 (lv_at hl 4 rfl) ?_
                      refine lv_iload hx hb dX12_step_289 (lv_at hl 3 rfl) ?_
                      refine g_calli (va_runV (As := [.int (zI nx), .int (zI ny)]) (rest := []) ⟨hx, hb, hml, hown, hts⟩ (kX12_isDry l D cy ad jf A u91 nx ny (by omega) (by omega) (by subst hu91; subst hu36; subst hu34; subst hu26; exact hd)) (cwV 2 hts gX12_step_X12_isDry rfl rfl rfl (by decide +kernel) ⟨by decide, by decide⟩) (g_preV (C := RX12) hG hC hS 8 (by decide) rfl rfl) rfl rfl hl.1 rfl (lv_room (Nat.le_of_ble_eq_true rfl)) dX12_step_291 ⟨Nat.le_of_ble_eq_true rfl, Nat.le_of_ble_eq_true rfl⟩) hS (fun r92 u93 H locs p_94 hG hS => ?_)
                      obtain ⟨rfl, he_⟩ := p_94
                      rw [he_] at hG; clear he_
                      have e_97 : spDry (u91.2.1 31) nx ny = spDry (w.2.1 31) nx ny := by subst hu91; subst hu36; subst hu34; subst hu26; rfl
                      rw [e_97]
                      obtain ⟨z96, hz96⟩ : ∃ z : Int, z = spDry (w.2.1 31) nx ny := ⟨_, rfl⟩
                      rw [← hz96]
                      have q_95 : z96 = 0 ∨ z96 = 1 := by rw [hz96]; exact hd _ (by omega)
                      refine z_if_eq (tgt := 299) hx hb dX12_step_294 (by decide) (by omega) (by omega) (fun c_98 => ?_) (fun c_98 => ?_)
                      · refine lv_aload_n hx hb dX12_step_299 rfl (lv_at hl 9 rfl) ?_
                        refine g_get (C := RX12) (T := TX12) (N := 42) (ci := 11) hx hb hts (fun _ h => (List.mem_cons_of_mem _ (List.mem_append_right _ h))) hown hC.1 hG 8 (by decide) rfl rfl 14 (by decide) (hts (.fieldLink RX12 48 "StraitSwimModel" "colds" "[I") (List.mem_cons_of_mem _ (List.mem_append_left _ (List.mem_append_left _ (List.mem_of_getElem? (i := 2) rfl))))) (fun _ h9 => h9) rfl dX12_step_300 ?_
                        refine lv_iload_n hx hb dX12_step_303 rfl (lv_at hl 10 rfl) ?_
                        refine g_iald (n := 2) hx hb hC.1 hG 41 (by decide) rfl (by omega) (by omega) (by decide) dX12_step_304 ?_
                        have e_99 : u91.2.1 41 = va_up (w.2.1 41) p1.toNat 0 := by subst hu91; subst hu36; subst hu34; subst hu26; rfl
                        rw [e_99]
                        rw [up_s]
                        refine lv_aload_n hx hb dX12_step_305 rfl (lv_at hl 9 rfl) ?_
                        refine g_get (C := RX12) (T := TX12) (N := 42) (ci := 11) hx hb hts (fun _ h => (List.mem_cons_of_mem _ (List.mem_append_right _ h))) hown hC.1 hG 8 (by decide) rfl rfl 9 (by decide) (hts (.fieldLink RX12 33 "StraitSwimModel" "limit" "[I") (List.mem_cons_of_mem _ (List.mem_append_left _ (List.mem_append_left _ (List.mem_of_getElem? (i := 6) rfl))))) (fun _ h9 => h9) rfl dX12_step_306 ?_
                        refine lv_iload_n hx hb dX12_step_309 rfl (lv_at hl 11 rfl) ?_
                        refine g_iald (n := 10) hx hb hC.1 hG 36 (by decide) rfl (by omega) (by omega) (by decide) dX12_step_310 ?_
                        have e_101 : u91.2.1 36 = w.2.1 36 := by subst hu91; subst hu36; subst hu34; subst hu26; rfl
                        rw [e_101]
                        have q_102 := i36 p2.toNat (by omega)
                        refine z_icmp_lt (tgt := 316) hx hb dX12_step_311 (by decide) (by omega) (by omega) (by omega) (by omega) (fun c_103 => ?_) (fun c_103 => ?_)
                        · refine z_iinc (lv' := [(8, .int (zI (t + 1))), (15, .int (zI cd)), (7, .int (zI (a + 1))), (14, .int (zI 0)), (13, .int (zI ny)), (12, .int (zI nx)), (11, .int (zI td)), (10, .int (zI wy)), (9, .int (zI z9)), (0, .ref (ad 8)), (1, .int (zI p1)), (2, .int (zI p2)), (3, .int (zI p3)), (4, .int (zI p4)), (5, .int (zI p5)), (6, .int (zI p6))]) hx hb dX12_step_316 hl (k := 8) rfl (by decide) rfl (fun ls hl => ?_)
                          refine lv_goto (tgt := 40) hx hb dX12_step_319 (by decide) ?_
                          exact ih40 (t + 1) (a + 1) u91 _ _ _ (by omega) (by omega) (by omega) (by subst hu91; subst hu36; subst hu34; subst hu26; exact i34) (by subst hu91; subst hu36; subst hu34; subst hu26; exact i35) (by subst hu91; subst hu36; subst hu34; subst hu26; exact i36) (by subst hu91; subst hu36; subst hu34; subst hu26; exact i37) (by subst hu91; subst hu36; subst hu34; subst hu26; exact i32) (by subst hu91; subst hu36; subst hu34; subst hu26; exact i33) (by subst hu91; subst hu36; subst hu34; subst hu26; exact hd) (by subst hu91; subst hu36; subst hu34; subst hu26; exact i21) (by subst hu91; subst hu36; subst hu34; subst hu26; show 0 ≤ va_up _ _ _ _ ∧ va_up _ _ _ _ ≤ 239; rw [up_s]; omega) (by subst hu91; subst hu36; subst hu34; subst hu26; show 0 ≤ va_up _ _ _ _ ∧ va_up _ _ _ _ ≤ 119; rw [up_s]; omega) (by subst hu91; subst hu36; subst hu34; subst hu26; show 0 ≤ va_up _ _ _ _ ∧ va_up _ _ _ _ ≤ _; rw [up_s]; omega) (by first | (exfalso; omega) | (rw [hT, mStep, if_pos (by omega)]; simp only [← hX, ← hY, hCC, ← hz96]; (repeat (first | rw [if_pos (by omega)] | rw [if_neg (by omega)])); unfold stD stB; subst hu91; subst hu36; subst hu34; subst hu26; rfl)) hG hS (lv_sub hl [0, 2, 9, 10, 11, 12, 13, 14, 15] rfl)
                        · refine z_iconst hx hb dX12_step_314 ?_
                          exact W.iret (v := zI 1) hx hb hr (fun t9 ht9_ hW => ⟨⟨zI 1, u91, rfl, (by first | (exfalso; omega) | (unfold mStepA; rw [hT, mStep, if_pos (by omega)]; simp only [← hX, ← hY, hCC, ← hz96]; (repeat (first | rw [if_pos (by omega)] | rw [if_neg (by omega)])); all_goals (unfold stD stB; subst hu91; subst hu36; subst hu34; subst hu26; exact ⟨rfl, rfl⟩))), gB.mk' hG hC hS ht9_ hW⟩, hS.F ht9_⟩) hS.2.2 dX12_step_315
                      · refine z_iconst hx hb dX12_step_297 ?_
                        exact W.iret (v := zI 0) hx hb hr (fun t9 ht9_ hW => ⟨⟨zI 0, u91, rfl, (by first | (exfalso; omega) | (unfold mStepA; rw [hT, mStep, if_pos (by omega)]; simp only [← hX, ← hY, hCC, ← hz96]; (repeat (first | rw [if_pos (by omega)] | rw [if_neg (by omega)])); all_goals (unfold stD stB; subst hu91; subst hu36; subst hu34; subst hu26; exact ⟨rfl, rfl⟩))), gB.mk' hG hC hS ht9_ hW⟩, hS.F ht9_⟩) hS.2.2 dX12_step_298
                · exfalso; omega
              · exfalso; omega
            · exfalso; omega
          · refine z_iconst hx hb dX12_step_168 ?_
            refine lv_goto (tgt := 173) hx hb dX12_step_169 (by decide) ?_
            refine lv_istore (lv' := [(14, .int (zI 1)), (13, .int (zI ny)), (12, .int (zI nx)), (11, .int (zI td)), (10, .int (zI wy)), (9, .int (zI z9)), (8, .int (zI t)), (7, .int (zI a)), (0, .ref (ad 8)), (1, .int (zI p1)), (2, .int (zI p2)), (3, .int (zI p3)), (4, .int (zI p4)), (5, .int (zI p5)), (6, .int (zI p6))]) hx hb dX12_step_173 hl (by decide) rfl (fun ls hl => ?_)
            refine lv_aload_n hx hb dX12_step_175 rfl (lv_at hl 8 rfl) ?_
            refine g_get (C := RX12) (T := TX12) (N := 42) (ci := 11) hx hb hts (fun _ h => (List.mem_cons_of_mem _ (List.mem_append_right _ h))) hown hC.1 hG 8 (by decide) rfl rfl 11 (by decide) (hts (.fieldLink RX12 39 "StraitSwimModel" "pathX" "[I") (List.mem_cons_of_mem _ (List.mem_append_left _ (List.mem_append_left _ (List.mem_of_getElem? (i := 0) rfl))))) (fun _ h9 => h9) rfl dX12_step_176 ?_
            refine lv_iload hx hb dX12_step_179 (lv_at hl 7 rfl) ?_
            refine z_iconst hx hb dX12_step_181 ?_
            refine z_iadd hx hb dX12_step_182 ?_
            refine lv_iload hx hb dX12_step_183 (lv_at hl 0 rfl) ?_
            refine z_if_eq (tgt := 198) hx hb dX12_step_185 (by decide) (by omega) (by omega) (fun c_104 => ?_) (fun c_104 => ?_)
            · exfalso; omega
            · refine lv_aload_n hx hb dX12_step_188 rfl (lv_at hl 8 rfl) ?_
              refine g_get (C := RX12) (T := TX12) (N := 42) (ci := 11) hx hb hts (fun _ h => (List.mem_cons_of_mem _ (List.mem_append_right _ h))) hown hC.1 hG 8 (by decide) rfl rfl 11 (by decide) (hts (.fieldLink RX12 39 "StraitSwimModel" "pathX" "[I") (List.mem_cons_of_mem _ (List.mem_append_left _ (List.mem_append_left _ (List.mem_of_getElem? (i := 0) rfl))))) (fun _ h9 => h9) rfl dX12_step_189 ?_
              refine lv_iload hx hb dX12_step_192 (lv_at hl 7 rfl) ?_
              refine g_iald (n := 202) hx hb hC.1 hG 38 (by decide) rfl (by omega) (by omega) (by decide) dX12_step_194 ?_
              have e_105 : u26.2.1 38 = w.2.1 38 := by subst hu26; rfl
              rw [e_105]
              refine lv_goto (tgt := 200) hx hb dX12_step_195 (by decide) ?_
              refine g_iast (n := 202) hx hb hC.1 hG hS 38 (by decide) rfl rfl (by omega) (by omega) (by decide) dX12_step_200 (fun u106 H locs hu106 hG hS => ?_)
              refine lv_aload_n hx hb dX12_step_201 rfl (lv_at hl 8 rfl) ?_
              refine g_get (C := RX12) (T := TX12) (N := 42) (ci := 11) hx hb hts (fun _ h => (List.mem_cons_of_mem _ (List.mem_append_right _ h))) hown hC.1 hG 8 (by decide) rfl rfl 12 (by decide) (hts (.fieldLink RX12 42 "StraitSwimModel" "pathY" "[I") (List.mem_cons_of_mem _ (List.mem_append_left _ (List.mem_append_left _ (List.mem_of_getElem? (i := 1) rfl))))) (fun _ h9 => h9) rfl dX12_step_202 ?_
              refine lv_iload hx hb dX12_step_205 (lv_at hl 7 rfl) ?_
              refine z_iconst hx hb dX12_step_207 ?_
              refine z_iadd hx hb dX12_step_208 ?_
              refine lv_iload hx hb dX12_step_209 (lv_at hl 0 rfl) ?_
              refine z_if_eq (tgt := 224) hx hb dX12_step_211 (by decide) (by omega) (by omega) (fun c_107 => ?_) (fun c_107 => ?_)
              · exfalso; omega
              · refine lv_aload_n hx hb dX12_step_214 rfl (lv_at hl 8 rfl) ?_
                refine g_get (C := RX12) (T := TX12) (N := 42) (ci := 11) hx hb hts (fun _ h => (List.mem_cons_of_mem _ (List.mem_append_right _ h))) hown hC.1 hG 8 (by decide) rfl rfl 12 (by decide) (hts (.fieldLink RX12 42 "StraitSwimModel" "pathY" "[I") (List.mem_cons_of_mem _ (List.mem_append_left _ (List.mem_append_left _ (List.mem_of_getElem? (i := 1) rfl))))) (fun _ h9 => h9) rfl dX12_step_215 ?_
                refine lv_iload hx hb dX12_step_218 (lv_at hl 7 rfl) ?_
                refine g_iald (n := 202) hx hb hC.1 hG 39 (by decide) rfl (by omega) (by omega) (by decide) dX12_step_220 ?_
                have e_108 : u106.2.1 39 = w.2.1 39 := by subst hu106; subst hu26; rfl
                rw [e_108]
                refine lv_goto (tgt := 226) hx hb dX12_step_221 (by decide) ?_
                refine g_iast (n := 202) hx hb hC.1 hG hS 39 (by decide) rfl rfl (by omega) (by omega) (by decide) dX12_step_226 (fun u109 H locs hu109 hG hS => ?_)
                refine lv_iload hx hb dX12_step_227 (lv_at hl 0 rfl) ?_
                refine z_if_eq (tgt := 234) hx hb dX12_step_229 (by decide) (by omega) (by omega) (fun c_110 => ?_) (fun c_110 => ?_)
                · exfalso; omega
                · refine z_iconst hx hb dX12_step_232 ?_
                  exact W.iret (v := zI 2) hx hb hr (fun t9 ht9_ hW => ⟨⟨zI 2, u109, rfl, (by first | (exfalso; omega) | (unfold mStepA; rw [hT, mStep, if_pos (by omega)]; simp only [← hX, ← hY]; (repeat (first | rw [if_pos (by omega)] | rw [if_neg (by omega)])); all_goals (unfold stB; subst hu109; subst hu106; subst hu26; exact ⟨rfl, rfl⟩))), gB.mk' hG hC hS ht9_ hW⟩, hS.F ht9_⟩) hS.2.2 dX12_step_233
        · refine lv_iload hx hb dX12_step_64 (lv_at hl 0 rfl) ?_
          refine z_bipush hx hb dX12_step_66 (by decide) ?_
          refine z_imul hx hb dX12_step_68 ?_
          refine z_bipush hx hb dX12_step_69 (by decide) ?_
          refine z_idiv hx hb dX12_step_71 (by omega) (by omega) (by omega) (by omega) ?_
          refine lv_goto (tgt := 77) hx hb dX12_step_72 (by decide) ?_
          obtain ⟨wy, hwy⟩ : ∃ z : Int, z = (z9 * 7) / 10 := ⟨_, rfl⟩
          rw [← hwy]
          refine lv_istore (lv' := [(10, .int (zI wy)), (9, .int (zI z9)), (8, .int (zI t)), (7, .int (zI a)), (0, .ref (ad 8)), (1, .int (zI p1)), (2, .int (zI p2)), (3, .int (zI p3)), (4, .int (zI p4)), (5, .int (zI p5)), (6, .int (zI p6))]) hx hb dX12_step_77 hl (by decide) rfl (fun ls hl => ?_)
          refine lv_aload_n hx hb dX12_step_79 rfl (lv_at hl 4 rfl) ?_
          refine g_get (C := RX12) (T := TX12) (N := 42) (ci := 11) hx hb hts (fun _ h => (List.mem_cons_of_mem _ (List.mem_append_right _ h))) hown hC.1 hG 8 (by decide) rfl rfl 12 (by decide) (hts (.fieldLink RX12 42 "StraitSwimModel" "pathY" "[I") (List.mem_cons_of_mem _ (List.mem_append_left _ (List.mem_append_left _ (List.mem_of_getElem? (i := 1) rfl))))) (fun _ h9 => h9) rfl dX12_step_80 ?_
          refine lv_iload hx hb dX12_step_83 (lv_at hl 3 rfl) ?_
          refine g_iald (n := 202) hx hb hC.1 hG 39 (by decide) rfl (by omega) (by omega) (by decide) dX12_step_85 ?_
          refine lv_iload hx hb dX12_step_86 (lv_at hl 9 rfl) ?_
          refine lv_iload hx hb dX12_step_88 (lv_at hl 2 rfl) ?_
          refine z_iadd hx hb dX12_step_90 ?_
          refine g_calli (va_runS (As := [.int (zI (w.2.1 39 a.toNat)), .int (zI (p5 + t))]) (rest := []) ⟨hx, hb, hml, hown, hts⟩ (kX12_tideAt l D cy ad jf A w (w.2.1 39 a.toNat) (p5 + t) (by omega) (by omega)) (va_cwS 2 hts gX12_step_X12_tideAt rfl rfl rfl (by decide +kernel) ⟨by decide, by decide⟩) (g_preS hG hC hS) rfl rfl hl.1 rfl (lv_room (Nat.le_of_ble_eq_true rfl)) dX12_step_91 ⟨Nat.le_of_ble_eq_true rfl, Nat.le_of_ble_eq_true rfl⟩) hS (fun r111 u112 H locs p_113 hG hS => ?_)
          obtain ⟨rfl, he_⟩ := p_113
          rw [he_] at hG; clear he_
          obtain ⟨td, htd⟩ : ∃ z : Int, z = (w.2.1 39 a.toNat) / 40 * 12 + (p5 + t) / 4 % 12 := ⟨_, rfl⟩
          rw [← htd]
          refine lv_istore (lv' := [(11, .int (zI td)), (10, .int (zI wy)), (9, .int (zI z9)), (8, .int (zI t)), (7, .int (zI a)), (0, .ref (ad 8)), (1, .int (zI p1)), (2, .int (zI p2)), (3, .int (zI p3)), (4, .int (zI p4)), (5, .int (zI p5)), (6, .int (zI p6))]) hx hb dX12_step_94 hl (by decide) rfl (fun ls hl => ?_)
          refine lv_aload_n hx hb dX12_step_96 rfl (lv_at hl 5 rfl) ?_
          refine g_get (C := RX12) (T := TX12) (N := 42) (ci := 11) hx hb hts (fun _ h => (List.mem_cons_of_mem _ (List.mem_append_right _ h))) hown hC.1 hG 8 (by decide) rfl rfl 11 (by decide) (hts (.fieldLink RX12 39 "StraitSwimModel" "pathX" "[I") (List.mem_cons_of_mem _ (List.mem_append_left _ (List.mem_append_left _ (List.mem_of_getElem? (i := 0) rfl))))) (fun _ h9 => h9) rfl dX12_step_97 ?_
          refine lv_iload hx hb dX12_step_100 (lv_at hl 4 rfl) ?_
          refine g_iald (n := 202) hx hb hC.1 hG 38 (by decide) rfl (by omega) (by omega) (by decide) dX12_step_102 ?_
          refine lv_iload hx hb dX12_step_103 (lv_at hl 11 rfl) ?_
          refine g_calli (va_runS (As := [.int (zI p6)]) (rest := [.int (zI (w.2.1 38 a.toNat))]) ⟨hx, hb, hml, hown, hts⟩ (kX12_eastOf l D cy ad jf A w p6 (by omega)) (va_cwS 1 hts gX12_step_X12_eastOf rfl rfl rfl (by decide +kernel) ⟨by decide, by decide⟩) (g_preS hG hC hS) rfl rfl hl.1 rfl (lv_room (Nat.le_of_ble_eq_true rfl)) dX12_step_105 ⟨Nat.le_of_ble_eq_true rfl, Nat.le_of_ble_eq_true rfl⟩) hS (fun r114 u115 H locs p_116 hG hS => ?_)
          obtain ⟨rfl, he_⟩ := p_116
          rw [he_] at hG; clear he_
          obtain ⟨z117, hz117⟩ : ∃ z : Int, z = aimE p6.toNat := ⟨_, rfl⟩
          rw [← hz117]
          have qz117 : -1 ≤ z117 ∧ z117 ≤ 1 := by rw [hz117]; exact aimE_bnd _
          refine lv_iload hx hb dX12_step_108 (lv_at hl 1 rfl) ?_
          have q_118 := mul1 (a := z117) (b := wy) (by omega) (by omega)
          refine z_imul hx hb dX12_step_110 ?_
          refine z_iadd hx hb dX12_step_111 ?_
          refine lv_aload_n hx hb dX12_step_112 rfl (lv_at hl 5 rfl) ?_
          refine g_get (C := RX12) (T := TX12) (N := 42) (ci := 11) hx hb hts (fun _ h => (List.mem_cons_of_mem _ (List.mem_append_right _ h))) hown hC.1 hG 8 (by decide) rfl rfl 2 (by decide) (hts (.fieldLink RX12 13 "StraitSwimModel" "easts" "[I") (List.mem_cons_of_mem _ (List.mem_append_left _ (List.mem_append_left _ (List.mem_of_getElem? (i := 4) rfl))))) (fun _ h9 => h9) rfl dX12_step_113 ?_
          refine lv_iload hx hb dX12_step_116 (lv_at hl 0 rfl) ?_
          refine g_iald (n := 36) hx hb hC.1 hG 32 (by decide) rfl (by omega) (by omega) (by decide) dX12_step_118 ?_
          have q_119 := i32 td.toNat (by omega)
          refine z_iadd hx hb dX12_step_119 ?_
          obtain ⟨nx, hnx⟩ : ∃ z : Int, z = ((w.2.1 38 a.toNat) + (z117 * wy)) + (w.2.1 32 td.toNat) := ⟨_, rfl⟩
          rw [← hnx]
          refine lv_istore (lv' := [(12, .int (zI nx)), (11, .int (zI td)), (10, .int (zI wy)), (9, .int (zI z9)), (8, .int (zI t)), (7, .int (zI a)), (0, .ref (ad 8)), (1, .int (zI p1)), (2, .int (zI p2)), (3, .int (zI p3)), (4, .int (zI p4)), (5, .int (zI p5)), (6, .int (zI p6))]) hx hb dX12_step_120 hl (by decide) rfl (fun ls hl => ?_)
          refine lv_aload_n hx hb dX12_step_122 rfl (lv_at hl 6 rfl) ?_
          refine g_get (C := RX12) (T := TX12) (N := 42) (ci := 11) hx hb hts (fun _ h => (List.mem_cons_of_mem _ (List.mem_append_right _ h))) hown hC.1 hG 8 (by decide) rfl rfl 12 (by decide) (hts (.fieldLink RX12 42 "StraitSwimModel" "pathY" "[I") (List.mem_cons_of_mem _ (List.mem_append_left _ (List.mem_append_left _ (List.mem_of_getElem? (i := 1) rfl))))) (fun _ h9 => h9) rfl dX12_step_123 ?_
          refine lv_iload hx hb dX12_step_126 (lv_at hl 5 rfl) ?_
          refine g_iald (n := 202) hx hb hC.1 hG 39 (by decide) rfl (by omega) (by omega) (by decide) dX12_step_128 ?_
          refine lv_iload hx hb dX12_step_129 (lv_at hl 12 rfl) ?_
          refine g_calli (va_runS (As := [.int (zI p6)]) (rest := [.int (zI (w.2.1 39 a.toNat))]) ⟨hx, hb, hml, hown, hts⟩ (kX12_northOf l D cy ad jf A w p6 (by omega)) (va_cwS 1 hts gX12_step_X12_northOf rfl rfl rfl (by decide +kernel) ⟨by decide, by decide⟩) (g_preS hG hC hS) rfl rfl hl.1 rfl (lv_room (Nat.le_of_ble_eq_true rfl)) dX12_step_131 ⟨Nat.le_of_ble_eq_true rfl, Nat.le_of_ble_eq_true rfl⟩) hS (fun r120 u121 H locs p_122 hG hS => ?_)
          obtain ⟨rfl, he_⟩ := p_122
          rw [he_] at hG; clear he_
          obtain ⟨z123, hz123⟩ : ∃ z : Int, z = aimN p6.toNat := ⟨_, rfl⟩
          rw [← hz123]
          have qz123 : -1 ≤ z123 ∧ z123 ≤ 1 := by rw [hz123]; exact aimN_bnd _
          refine lv_iload hx hb dX12_step_134 (lv_at hl 2 rfl) ?_
          have q_124 := mul1 (a := z123) (b := wy) (by omega) (by omega)
          refine z_imul hx hb dX12_step_136 ?_
          refine z_iadd hx hb dX12_step_137 ?_
          refine lv_aload_n hx hb dX12_step_138 rfl (lv_at hl 6 rfl) ?_
          refine g_get (C := RX12) (T := TX12) (N := 42) (ci := 11) hx hb hts (fun _ h => (List.mem_cons_of_mem _ (List.mem_append_right _ h))) hown hC.1 hG 8 (by decide) rfl rfl 3 (by decide) (hts (.fieldLink RX12 17 "StraitSwimModel" "norths" "[I") (List.mem_cons_of_mem _ (List.mem_append_left _ (List.mem_append_left _ (List.mem_of_getElem? (i := 5) rfl))))) (fun _ h9 => h9) rfl dX12_step_139 ?_
          refine lv_iload hx hb dX12_step_142 (lv_at hl 1 rfl) ?_
          refine g_iald (n := 36) hx hb hC.1 hG 33 (by decide) rfl (by omega) (by omega) (by decide) dX12_step_144 ?_
          have q_125 := i33 td.toNat (by omega)
          refine z_iadd hx hb dX12_step_145 ?_
          obtain ⟨ny, hny⟩ : ∃ z : Int, z = ((w.2.1 39 a.toNat) + (z123 * wy)) + (w.2.1 33 td.toNat) := ⟨_, rfl⟩
          rw [← hny]
          refine lv_istore (lv' := [(13, .int (zI ny)), (12, .int (zI nx)), (11, .int (zI td)), (10, .int (zI wy)), (9, .int (zI z9)), (8, .int (zI t)), (7, .int (zI a)), (0, .ref (ad 8)), (1, .int (zI p1)), (2, .int (zI p2)), (3, .int (zI p3)), (4, .int (zI p4)), (5, .int (zI p5)), (6, .int (zI p6))]) hx hb dX12_step_146 hl (by decide) rfl (fun ls hl => ?_)
          have hX : nx = stX w p2 p5 p6 t a := by unfold stX stW stT spWay; (repeat (first | rw [if_pos (by omega)] | rw [if_neg (by omega)])); subst_vars; rfl
          have hY : ny = stY w p2 p5 p6 t a := by unfold stY stW stT spWay; (repeat (first | rw [if_pos (by omega)] | rw [if_neg (by omega)])); subst_vars; rfl
          have hbX : -1000 ≤ nx ∧ nx ≤ 1000 := by omega
          have hbY : -1000 ≤ ny ∧ ny ≤ 1000 := by omega
          refine lv_aload_n hx hb dX12_step_148 rfl (lv_at hl 7 rfl) ?_
          refine g_get (C := RX12) (T := TX12) (N := 42) (ci := 11) hx hb hts (fun _ h => (List.mem_cons_of_mem _ (List.mem_append_right _ h))) hown hC.1 hG 8 (by decide) rfl rfl 13 (by decide) (hts (.fieldLink RX12 45 "StraitSwimModel" "quarters" "[I") (List.mem_cons_of_mem _ (List.mem_append_left _ (List.mem_append_left _ (List.mem_of_getElem? (i := 3) rfl))))) (fun _ h9 => h9) rfl dX12_step_149 ?_
          refine lv_iload_n hx hb dX12_step_152 rfl (lv_at hl 8 rfl) ?_
          refine lv_iload hx hb dX12_step_153 (lv_at hl 5 rfl) ?_
          refine z_iconst hx hb dX12_step_155 ?_
          refine z_iadd hx hb dX12_step_156 ?_
          refine g_iast (n := 2) hx hb hC.1 hG hS 40 (by decide) rfl rfl (by omega) (by omega) (by decide) dX12_step_157 (fun u126 H locs hu126 hG hS => ?_)
          refine lv_iload hx hb dX12_step_158 (lv_at hl 1 rfl) ?_
          refine lv_iload hx hb dX12_step_160 (lv_at hl 0 rfl) ?_
          refine g_calli (va_runS (As := [.int (zI nx), .int (zI ny)]) (rest := []) ⟨hx, hb, hml, hown, hts⟩ (kX12_isPlace l D cy ad jf A u126 nx ny (by omega) (by omega)) (va_cwS 2 hts gX12_step_X12_isPlace rfl rfl rfl (by decide +kernel) ⟨by decide, by decide⟩) (g_preS hG hC hS) rfl rfl hl.1 rfl (lv_room (Nat.le_of_ble_eq_true rfl)) dX12_step_162 ⟨Nat.le_of_ble_eq_true rfl, Nat.le_of_ble_eq_true rfl⟩) hS (fun r127 u128 H locs p_129 hG hS => ?_)
          obtain ⟨⟨b130, rfl, q_131⟩, he_⟩ := p_129
          rw [he_] at hG; clear he_
          have hbb130 : 0 ≤ b130 ∧ b130 ≤ 1 := by rcases q_131 with ⟨h, _⟩ | ⟨h, _⟩ <;> omega
          refine z_if_ne (tgt := 172) hx hb dX12_step_165 (by decide) (by omega) (by omega) (fun c_132 => ?_) (fun c_132 => ?_)
          · refine z_iconst hx hb dX12_step_172 ?_
            refine lv_istore (lv' := [(14, .int (zI 0)), (13, .int (zI ny)), (12, .int (zI nx)), (11, .int (zI td)), (10, .int (zI wy)), (9, .int (zI z9)), (8, .int (zI t)), (7, .int (zI a)), (0, .ref (ad 8)), (1, .int (zI p1)), (2, .int (zI p2)), (3, .int (zI p3)), (4, .int (zI p4)), (5, .int (zI p5)), (6, .int (zI p6))]) hx hb dX12_step_173 hl (by decide) rfl (fun ls hl => ?_)
            refine lv_aload_n hx hb dX12_step_175 rfl (lv_at hl 8 rfl) ?_
            refine g_get (C := RX12) (T := TX12) (N := 42) (ci := 11) hx hb hts (fun _ h => (List.mem_cons_of_mem _ (List.mem_append_right _ h))) hown hC.1 hG 8 (by decide) rfl rfl 11 (by decide) (hts (.fieldLink RX12 39 "StraitSwimModel" "pathX" "[I") (List.mem_cons_of_mem _ (List.mem_append_left _ (List.mem_append_left _ (List.mem_of_getElem? (i := 0) rfl))))) (fun _ h9 => h9) rfl dX12_step_176 ?_
            refine lv_iload hx hb dX12_step_179 (lv_at hl 7 rfl) ?_
            refine z_iconst hx hb dX12_step_181 ?_
            refine z_iadd hx hb dX12_step_182 ?_
            refine lv_iload hx hb dX12_step_183 (lv_at hl 0 rfl) ?_
            refine z_if_eq (tgt := 198) hx hb dX12_step_185 (by decide) (by omega) (by omega) (fun c_133 => ?_) (fun c_133 => ?_)
            · refine lv_iload hx hb dX12_step_198 (lv_at hl 2 rfl) ?_
              refine g_iast (n := 202) hx hb hC.1 hG hS 38 (by decide) rfl rfl (by omega) (by omega) (by decide) dX12_step_200 (fun u134 H locs hu134 hG hS => ?_)
              refine lv_aload_n hx hb dX12_step_201 rfl (lv_at hl 8 rfl) ?_
              refine g_get (C := RX12) (T := TX12) (N := 42) (ci := 11) hx hb hts (fun _ h => (List.mem_cons_of_mem _ (List.mem_append_right _ h))) hown hC.1 hG 8 (by decide) rfl rfl 12 (by decide) (hts (.fieldLink RX12 42 "StraitSwimModel" "pathY" "[I") (List.mem_cons_of_mem _ (List.mem_append_left _ (List.mem_append_left _ (List.mem_of_getElem? (i := 1) rfl))))) (fun _ h9 => h9) rfl dX12_step_202 ?_
              refine lv_iload hx hb dX12_step_205 (lv_at hl 7 rfl) ?_
              refine z_iconst hx hb dX12_step_207 ?_
              refine z_iadd hx hb dX12_step_208 ?_
              refine lv_iload hx hb dX12_step_209 (lv_at hl 0 rfl) ?_
              refine z_if_eq (tgt := 224) hx hb dX12_step_211 (by decide) (by omega) (by omega) (fun c_135 => ?_) (fun c_135 => ?_)
              · refine lv_iload hx hb dX12_step_224 (lv_at hl 1 rfl) ?_
                refine g_iast (n := 202) hx hb hC.1 hG hS 39 (by decide) rfl rfl (by omega) (by omega) (by decide) dX12_step_226 (fun u136 H locs hu136 hG hS => ?_)
                refine lv_iload hx hb dX12_step_227 (lv_at hl 0 rfl) ?_
                refine z_if_eq (tgt := 234) hx hb dX12_step_229 (by decide) (by omega) (by omega) (fun c_137 => ?_) (fun c_137 => ?_)
                · refine z_iinc (lv' := [(7, .int (zI (a + 1))), (14, .int (zI 0)), (13, .int (zI ny)), (12, .int (zI nx)), (11, .int (zI td)), (10, .int (zI wy)), (9, .int (zI z9)), (8, .int (zI t)), (0, .ref (ad 8)), (1, .int (zI p1)), (2, .int (zI p2)), (3, .int (zI p3)), (4, .int (zI p4)), (5, .int (zI p5)), (6, .int (zI p6))]) hx hb dX12_step_234 hl (k := 7) rfl (by decide) rfl (fun ls hl => ?_)
                  refine lv_aload_n hx hb dX12_step_237 rfl (lv_at hl 8 rfl) ?_
                  refine g_get (C := RX12) (T := TX12) (N := 42) (ci := 11) hx hb hts (fun _ h => (List.mem_cons_of_mem _ (List.mem_append_right _ h))) hown hC.1 hG 8 (by decide) rfl rfl 14 (by decide) (hts (.fieldLink RX12 48 "StraitSwimModel" "colds" "[I") (List.mem_cons_of_mem _ (List.mem_append_left _ (List.mem_append_left _ (List.mem_of_getElem? (i := 2) rfl))))) (fun _ h9 => h9) rfl dX12_step_238 ?_
                  refine lv_iload_n hx hb dX12_step_241 rfl (lv_at hl 9 rfl) ?_
                  refine g_iald (n := 2) hx hb hC.1 hG 41 (by decide) rfl (by omega) (by omega) (by decide) dX12_step_242 ?_
                  have e_138 : u136.2.1 41 = w.2.1 41 := by subst hu136; subst hu134; subst hu126; rfl
                  rw [e_138]
                  refine lv_aload_n hx hb dX12_step_243 rfl (lv_at hl 8 rfl) ?_
                  refine lv_iload_n hx hb dX12_step_244 rfl (lv_at hl 10 rfl) ?_
                  refine lv_iload hx hb dX12_step_245 (lv_at hl 7 rfl) ?_
                  refine g_calli (va_runV (As := [.int (zI p2), .int (zI t)]) (rest := [.int (zI (w.2.1 41 p1.toNat))]) ⟨hx, hb, hml, hown, hts⟩ (kX12_coldOf l D cy ad jf A u136 p2 t (by omega) (by omega) (by subst hu136; subst hu134; subst hu126; exact i21) (by subst hu136; subst hu134; subst hu126; exact i34)) (cwV 2 hts gX12_step_X12_coldOf rfl rfl rfl (by decide +kernel) ⟨by decide, by decide⟩) (g_preV (C := RX12) hG hC hS 8 (by decide) rfl rfl) rfl rfl hl.1 rfl (lv_room (Nat.le_of_ble_eq_true rfl)) dX12_step_247 ⟨Nat.le_of_ble_eq_true rfl, Nat.le_of_ble_eq_true rfl⟩) hS (fun r139 u140 H locs p_141 hG hS => ?_)
                  obtain ⟨rfl, he_⟩ := p_141
                  rw [he_] at hG; clear he_
                  have e_143 : spCold (u136.2.1 34 p2.toNat) (u136.1 21) t = spCold (w.2.1 34 p2.toNat) (w.1 21) t := by subst hu136; subst hu134; subst hu126; rfl
                  rw [e_143]
                  obtain ⟨z142, hz142⟩ : ∃ z : Int, z = spCold (w.2.1 34 p2.toNat) (w.1 21) t := ⟨_, rfl⟩
                  rw [← hz142]
                  have qz142 : 0 ≤ z142 ∧ z142 ≤ 145 := by rw [hz142]; exact spCold_bnd (i34 _ (by omega)) i21 (by omega)
                  refine z_iadd hx hb dX12_step_250 ?_
                  refine lv_aload_n hx hb dX12_step_251 rfl (lv_at hl 8 rfl) ?_
                  refine lv_iload_n hx hb dX12_step_252 rfl (lv_at hl 10 rfl) ?_
                  refine lv_iload hx hb dX12_step_253 (lv_at hl 7 rfl) ?_
                  refine g_calli (va_runV (As := [.int (zI p2), .int (zI t)]) (rest := [.int (zI ((w.2.1 41 p1.toNat) + z142))]) ⟨hx, hb, hml, hown, hts⟩ (kX12_isFed l D cy ad jf A u136 p2 t (by omega) (by omega) (by subst hu136; subst hu134; subst hu126; exact i37)) (cwV 2 hts gX12_step_X12_isFed rfl rfl rfl (by decide +kernel) ⟨by decide, by decide⟩) (g_preV (C := RX12) hG hC hS 8 (by decide) rfl rfl) rfl rfl hl.1 rfl (lv_room (Nat.le_of_ble_eq_true rfl)) dX12_step_255 ⟨Nat.le_of_ble_eq_true rfl, Nat.le_of_ble_eq_true rfl⟩) hS (fun r144 u145 H locs p_146 hG hS => ?_)
                  rw [show u136.2.1 37 = w.2.1 37 from (by subst hu136; subst hu134; subst hu126; rfl)] at p_146
                  obtain ⟨⟨b147, rfl, q_148⟩, he_⟩ := p_146
                  rw [he_] at hG; clear he_
                  have hbb147 : 0 ≤ b147 ∧ b147 ≤ 1 := by rcases q_148 with ⟨h, _⟩ | ⟨h, _⟩ <;> omega
                  refine z_if_eq (tgt := 265) hx hb dX12_step_258 (by decide) (by omega) (by omega) (fun c_149 => ?_) (fun c_149 => ?_)
                  · refine z_iconst hx hb dX12_step_265 ?_
                    refine z_isub hx hb dX12_step_266 ?_
                    obtain ⟨cd, hcd⟩ : ∃ z : Int, z = ((w.2.1 41 p1.toNat) + z142) - 0 := ⟨_, rfl⟩
                    rw [← hcd]
                    refine lv_istore (lv' := [(15, .int (zI cd)), (7, .int (zI (a + 1))), (14, .int (zI 0)), (13, .int (zI ny)), (12, .int (zI nx)), (11, .int (zI td)), (10, .int (zI wy)), (9, .int (zI z9)), (8, .int (zI t)), (0, .ref (ad 8)), (1, .int (zI p1)), (2, .int (zI p2)), (3, .int (zI p3)), (4, .int (zI p4)), (5, .int (zI p5)), (6, .int (zI p6))]) hx hb dX12_step_267 hl (by decide) rfl (fun ls hl => ?_)
                    have hC0 : cd = stC0 w p1 p2 t := by unfold stC0; (repeat (first | rw [if_pos (by omega)] | rw [if_neg (by omega)])); subst_vars; rfl
                    refine lv_aload_n hx hb dX12_step_269 rfl (lv_at hl 9 rfl) ?_
                    refine g_get (C := RX12) (T := TX12) (N := 42) (ci := 11) hx hb hts (fun _ h => (List.mem_cons_of_mem _ (List.mem_append_right _ h))) hown hC.1 hG 8 (by decide) rfl rfl 14 (by decide) (hts (.fieldLink RX12 48 "StraitSwimModel" "colds" "[I") (List.mem_cons_of_mem _ (List.mem_append_left _ (List.mem_append_left _ (List.mem_of_getElem? (i := 2) rfl))))) (fun _ h9 => h9) rfl dX12_step_270 ?_
                    refine lv_iload_n hx hb dX12_step_273 rfl (lv_at hl 10 rfl) ?_
                    refine lv_iload hx hb dX12_step_274 (lv_at hl 0 rfl) ?_
                    refine z_if_ge (tgt := 283) hx hb dX12_step_276 (by decide) (by omega) (by omega) (fun c_150 => ?_) (fun c_150 => ?_)
                    · refine lv_iload hx hb dX12_step_283 (lv_at hl 0 rfl) ?_
                      refine g_iast (n := 2) hx hb hC.1 hG hS 41 (by decide) rfl rfl (by omega) (by omega) (by decide) dX12_step_285 (fun u151 H locs hu151 hG hS => ?_)
                      have hCC : stC w p1 p2 t = cd := by unfold stC; rw [← hC0]; (repeat (first | rw [if_pos (by omega)] | rw [if_neg (by omega)]))
                      refine lv_aload_n hx hb dX12_step_286 rfl (lv_at hl 9 rfl) ?_
                      refine lv_iload hx hb dX12_step_287 (lv_at hl 4 rfl) ?_
                      refine lv_iload hx hb dX12_step_289 (lv_at hl 3 rfl) ?_
                      refine g_calli (va_runV (As := [.int (zI nx), .int (zI ny)]) (rest := []) ⟨hx, hb, hml, hown, hts⟩ (kX12_isDry l D cy ad jf A u151 nx ny (by omega) (by omega) (by subst hu151; subst hu136; subst hu134; subst hu126; exact hd)) (cwV 2 hts gX12_step_X12_isDry rfl rfl rfl (by decide +kernel) ⟨by decide, by decide⟩) (g_preV (C := RX12) hG hC hS 8 (by decide) rfl rfl) rfl rfl hl.1 rfl (lv_room (Nat.le_of_ble_eq_true rfl)) dX12_step_291 ⟨Nat.le_of_ble_eq_true rfl, Nat.le_of_ble_eq_true rfl⟩) hS (fun r152 u153 H locs p_154 hG hS => ?_)
                      obtain ⟨rfl, he_⟩ := p_154
                      rw [he_] at hG; clear he_
                      have e_157 : spDry (u151.2.1 31) nx ny = spDry (w.2.1 31) nx ny := by subst hu151; subst hu136; subst hu134; subst hu126; rfl
                      rw [e_157]
                      obtain ⟨z156, hz156⟩ : ∃ z : Int, z = spDry (w.2.1 31) nx ny := ⟨_, rfl⟩
                      rw [← hz156]
                      have q_155 : z156 = 0 ∨ z156 = 1 := by rw [hz156]; exact hd _ (by omega)
                      refine z_if_eq (tgt := 299) hx hb dX12_step_294 (by decide) (by omega) (by omega) (fun c_158 => ?_) (fun c_158 => ?_)
                      · refine lv_aload_n hx hb dX12_step_299 rfl (lv_at hl 9 rfl) ?_
                        refine g_get (C := RX12) (T := TX12) (N := 42) (ci := 11) hx hb hts (fun _ h => (List.mem_cons_of_mem _ (List.mem_append_right _ h))) hown hC.1 hG 8 (by decide) rfl rfl 14 (by decide) (hts (.fieldLink RX12 48 "StraitSwimModel" "colds" "[I") (List.mem_cons_of_mem _ (List.mem_append_left _ (List.mem_append_left _ (List.mem_of_getElem? (i := 2) rfl))))) (fun _ h9 => h9) rfl dX12_step_300 ?_
                        refine lv_iload_n hx hb dX12_step_303 rfl (lv_at hl 10 rfl) ?_
                        refine g_iald (n := 2) hx hb hC.1 hG 41 (by decide) rfl (by omega) (by omega) (by decide) dX12_step_304 ?_
                        have e_159 : u151.2.1 41 = va_up (w.2.1 41) p1.toNat cd := by subst hu151; subst hu136; subst hu134; subst hu126; rfl
                        rw [e_159]
                        rw [up_s]
                        refine lv_aload_n hx hb dX12_step_305 rfl (lv_at hl 9 rfl) ?_
                        refine g_get (C := RX12) (T := TX12) (N := 42) (ci := 11) hx hb hts (fun _ h => (List.mem_cons_of_mem _ (List.mem_append_right _ h))) hown hC.1 hG 8 (by decide) rfl rfl 9 (by decide) (hts (.fieldLink RX12 33 "StraitSwimModel" "limit" "[I") (List.mem_cons_of_mem _ (List.mem_append_left _ (List.mem_append_left _ (List.mem_of_getElem? (i := 6) rfl))))) (fun _ h9 => h9) rfl dX12_step_306 ?_
                        refine lv_iload_n hx hb dX12_step_309 rfl (lv_at hl 11 rfl) ?_
                        refine g_iald (n := 10) hx hb hC.1 hG 36 (by decide) rfl (by omega) (by omega) (by decide) dX12_step_310 ?_
                        have e_161 : u151.2.1 36 = w.2.1 36 := by subst hu151; subst hu136; subst hu134; subst hu126; rfl
                        rw [e_161]
                        have q_162 := i36 p2.toNat (by omega)
                        refine z_icmp_lt (tgt := 316) hx hb dX12_step_311 (by decide) (by omega) (by omega) (by omega) (by omega) (fun c_163 => ?_) (fun c_163 => ?_)
                        · refine z_iinc (lv' := [(8, .int (zI (t + 1))), (15, .int (zI cd)), (7, .int (zI (a + 1))), (14, .int (zI 0)), (13, .int (zI ny)), (12, .int (zI nx)), (11, .int (zI td)), (10, .int (zI wy)), (9, .int (zI z9)), (0, .ref (ad 8)), (1, .int (zI p1)), (2, .int (zI p2)), (3, .int (zI p3)), (4, .int (zI p4)), (5, .int (zI p5)), (6, .int (zI p6))]) hx hb dX12_step_316 hl (k := 8) rfl (by decide) rfl (fun ls hl => ?_)
                          refine lv_goto (tgt := 40) hx hb dX12_step_319 (by decide) ?_
                          exact ih40 (t + 1) (a + 1) u151 _ _ _ (by omega) (by omega) (by omega) (by subst hu151; subst hu136; subst hu134; subst hu126; exact i34) (by subst hu151; subst hu136; subst hu134; subst hu126; exact i35) (by subst hu151; subst hu136; subst hu134; subst hu126; exact i36) (by subst hu151; subst hu136; subst hu134; subst hu126; exact i37) (by subst hu151; subst hu136; subst hu134; subst hu126; exact i32) (by subst hu151; subst hu136; subst hu134; subst hu126; exact i33) (by subst hu151; subst hu136; subst hu134; subst hu126; exact hd) (by subst hu151; subst hu136; subst hu134; subst hu126; exact i21) (by subst hu151; subst hu136; subst hu134; subst hu126; show 0 ≤ va_up _ _ _ _ ∧ va_up _ _ _ _ ≤ 239; rw [up_s]; omega) (by subst hu151; subst hu136; subst hu134; subst hu126; show 0 ≤ va_up _ _ _ _ ∧ va_up _ _ _ _ ≤ 119; rw [up_s]; omega) (by subst hu151; subst hu136; subst hu134; subst hu126; show 0 ≤ va_up _ _ _ _ ∧ va_up _ _ _ _ ≤ _; rw [up_s]; omega) (by first | (exfalso; omega) | (rw [hT, mStep, if_pos (by omega)]; simp only [← hX, ← hY, hCC, ← hz156]; (repeat (first | rw [if_pos (by omega)] | rw [if_neg (by omega)])); unfold stD stB; subst hu151; subst hu136; subst hu134; subst hu126; rfl)) hG hS (lv_sub hl [0, 2, 9, 10, 11, 12, 13, 14, 15] rfl)
                        · refine z_iconst hx hb dX12_step_314 ?_
                          exact W.iret (v := zI 1) hx hb hr (fun t9 ht9_ hW => ⟨⟨zI 1, u151, rfl, (by first | (exfalso; omega) | (unfold mStepA; rw [hT, mStep, if_pos (by omega)]; simp only [← hX, ← hY, hCC, ← hz156]; (repeat (first | rw [if_pos (by omega)] | rw [if_neg (by omega)])); all_goals (unfold stD stB; subst hu151; subst hu136; subst hu134; subst hu126; exact ⟨rfl, rfl⟩))), gB.mk' hG hC hS ht9_ hW⟩, hS.F ht9_⟩) hS.2.2 dX12_step_315
                      · refine z_iconst hx hb dX12_step_297 ?_
                        exact W.iret (v := zI 0) hx hb hr (fun t9 ht9_ hW => ⟨⟨zI 0, u151, rfl, (by first | (exfalso; omega) | (unfold mStepA; rw [hT, mStep, if_pos (by omega)]; simp only [← hX, ← hY, hCC, ← hz156]; (repeat (first | rw [if_pos (by omega)] | rw [if_neg (by omega)])); all_goals (unfold stD stB; subst hu151; subst hu136; subst hu134; subst hu126; exact ⟨rfl, rfl⟩))), gB.mk' hG hC hS ht9_ hW⟩, hS.F ht9_⟩) hS.2.2 dX12_step_298
                    · refine z_iconst hx hb dX12_step_279 ?_
                      refine lv_goto (tgt := 285) hx hb dX12_step_280 (by decide) ?_
                      refine g_iast (n := 2) hx hb hC.1 hG hS 41 (by decide) rfl rfl (by omega) (by omega) (by decide) dX12_step_285 (fun u164 H locs hu164 hG hS => ?_)
                      have hCC : stC w p1 p2 t = 0 := by unfold stC; rw [← hC0]; (repeat (first | rw [if_pos (by omega)] | rw [if_neg (by omega)]))
                      refine lv_aload_n hx hb dX12_step_286 rfl (lv_at hl 9 rfl) ?_
                      refine lv_iload hx hb dX12_step_287 (lv_at hl 4 rfl) ?_
                      refine lv_iload hx hb dX12_step_289 (lv_at hl 3 rfl) ?_
                      refine g_calli (va_runV (As := [.int (zI nx), .int (zI ny)]) (rest := []) ⟨hx, hb, hml, hown, hts⟩ (kX12_isDry l D cy ad jf A u164 nx ny (by omega) (by omega) (by subst hu164; subst hu136; subst hu134; subst hu126; exact hd)) (cwV 2 hts gX12_step_X12_isDry rfl rfl rfl (by decide +kernel) ⟨by decide, by decide⟩) (g_preV (C := RX12) hG hC hS 8 (by decide) rfl rfl) rfl rfl hl.1 rfl (lv_room (Nat.le_of_ble_eq_true rfl)) dX12_step_291 ⟨Nat.le_of_ble_eq_true rfl, Nat.le_of_ble_eq_true rfl⟩) hS (fun r165 u166 H locs p_167 hG hS => ?_)
                      obtain ⟨rfl, he_⟩ := p_167
                      rw [he_] at hG; clear he_
                      have e_170 : spDry (u164.2.1 31) nx ny = spDry (w.2.1 31) nx ny := by subst hu164; subst hu136; subst hu134; subst hu126; rfl
                      rw [e_170]
                      obtain ⟨z169, hz169⟩ : ∃ z : Int, z = spDry (w.2.1 31) nx ny := ⟨_, rfl⟩
                      rw [← hz169]
                      have q_168 : z169 = 0 ∨ z169 = 1 := by rw [hz169]; exact hd _ (by omega)
                      refine z_if_eq (tgt := 299) hx hb dX12_step_294 (by decide) (by omega) (by omega) (fun c_171 => ?_) (fun c_171 => ?_)
                      · refine lv_aload_n hx hb dX12_step_299 rfl (lv_at hl 9 rfl) ?_
                        refine g_get (C := RX12) (T := TX12) (N := 42) (ci := 11) hx hb hts (fun _ h => (List.mem_cons_of_mem _ (List.mem_append_right _ h))) hown hC.1 hG 8 (by decide) rfl rfl 14 (by decide) (hts (.fieldLink RX12 48 "StraitSwimModel" "colds" "[I") (List.mem_cons_of_mem _ (List.mem_append_left _ (List.mem_append_left _ (List.mem_of_getElem? (i := 2) rfl))))) (fun _ h9 => h9) rfl dX12_step_300 ?_
                        refine lv_iload_n hx hb dX12_step_303 rfl (lv_at hl 10 rfl) ?_
                        refine g_iald (n := 2) hx hb hC.1 hG 41 (by decide) rfl (by omega) (by omega) (by decide) dX12_step_304 ?_
                        have e_172 : u164.2.1 41 = va_up (w.2.1 41) p1.toNat 0 := by subst hu164; subst hu136; subst hu134; subst hu126; rfl
                        rw [e_172]
                        rw [up_s]
                        refine lv_aload_n hx hb dX12_step_305 rfl (lv_at hl 9 rfl) ?_
                        refine g_get (C := RX12) (T := TX12) (N := 42) (ci := 11) hx hb hts (fun _ h => (List.mem_cons_of_mem _ (List.mem_append_right _ h))) hown hC.1 hG 8 (by decide) rfl rfl 9 (by decide) (hts (.fieldLink RX12 33 "StraitSwimModel" "limit" "[I") (List.mem_cons_of_mem _ (List.mem_append_left _ (List.mem_append_left _ (List.mem_of_getElem? (i := 6) rfl))))) (fun _ h9 => h9) rfl dX12_step_306 ?_
                        refine lv_iload_n hx hb dX12_step_309 rfl (lv_at hl 11 rfl) ?_
                        refine g_iald (n := 10) hx hb hC.1 hG 36 (by decide) rfl (by omega) (by omega) (by decide) dX12_step_310 ?_
                        have e_174 : u164.2.1 36 = w.2.1 36 := by subst hu164; subst hu136; subst hu134; subst hu126; rfl
                        rw [e_174]
                        have q_175 := i36 p2.toNat (by omega)
                        refine z_icmp_lt (tgt := 316) hx hb dX12_step_311 (by decide) (by omega) (by omega) (by omega) (by omega) (fun c_176 => ?_) (fun c_176 => ?_)
                        · refine z_iinc (lv' := [(8, .int (zI (t + 1))), (15, .int (zI cd)), (7, .int (zI (a + 1))), (14, .int (zI 0)), (13, .int (zI ny)), (12, .int (zI nx)), (11, .int (zI td)), (10, .int (zI wy)), (9, .int (zI z9)), (0, .ref (ad 8)), (1, .int (zI p1)), (2, .int (zI p2)), (3, .int (zI p3)), (4, .int (zI p4)), (5, .int (zI p5)), (6, .int (zI p6))]) hx hb dX12_step_316 hl (k := 8) rfl (by decide) rfl (fun ls hl => ?_)
                          refine lv_goto (tgt := 40) hx hb dX12_step_319 (by decide) ?_
                          exact ih40 (t + 1) (a + 1) u164 _ _ _ (by omega) (by omega) (by omega) (by subst hu164; subst hu136; subst hu134; subst hu126; exact i34) (by subst hu164; subst hu136; subst hu134; subst hu126; exact i35) (by subst hu164; subst hu136; subst hu134; subst hu126; exact i36) (by subst hu164; subst hu136; subst hu134; subst hu126; exact i37) (by subst hu164; subst hu136; subst hu134; subst hu126; exact i32) (by subst hu164; subst hu136; subst hu134; subst hu126; exact i33) (by subst hu164; subst hu136; subst hu134; subst hu126; exact hd) (by subst hu164; subst hu136; subst hu134; subst hu126; exact i21) (by subst hu164; subst hu136; subst hu134; subst hu126; show 0 ≤ va_up _ _ _ _ ∧ va_up _ _ _ _ ≤ 239; rw [up_s]; omega) (by subst hu164; subst hu136; subst hu134; subst hu126; show 0 ≤ va_up _ _ _ _ ∧ va_up _ _ _ _ ≤ 119; rw [up_s]; omega) (by subst hu164; subst hu136; subst hu134; subst hu126; show 0 ≤ va_up _ _ _ _ ∧ va_up _ _ _ _ ≤ _; rw [up_s]; omega) (by first | (exfalso; omega) | (rw [hT, mStep, if_pos (by omega)]; simp only [← hX, ← hY, hCC, ← hz169]; (repeat (first | rw [if_pos (by omega)] | rw [if_neg (by omega)])); unfold stD stB; subst hu164; subst hu136; subst hu134; subst hu126; rfl)) hG hS (lv_sub hl [0, 2, 9, 10, 11, 12, 13, 14, 15] rfl)
                        · refine z_iconst hx hb dX12_step_314 ?_
                          exact W.iret (v := zI 1) hx hb hr (fun t9 ht9_ hW => ⟨⟨zI 1, u164, rfl, (by first | (exfalso; omega) | (unfold mStepA; rw [hT, mStep, if_pos (by omega)]; simp only [← hX, ← hY, hCC, ← hz169]; (repeat (first | rw [if_pos (by omega)] | rw [if_neg (by omega)])); all_goals (unfold stD stB; subst hu164; subst hu136; subst hu134; subst hu126; exact ⟨rfl, rfl⟩))), gB.mk' hG hC hS ht9_ hW⟩, hS.F ht9_⟩) hS.2.2 dX12_step_315
                      · refine z_iconst hx hb dX12_step_297 ?_
                        exact W.iret (v := zI 0) hx hb hr (fun t9 ht9_ hW => ⟨⟨zI 0, u164, rfl, (by first | (exfalso; omega) | (unfold mStepA; rw [hT, mStep, if_pos (by omega)]; simp only [← hX, ← hY, hCC, ← hz169]; (repeat (first | rw [if_pos (by omega)] | rw [if_neg (by omega)])); all_goals (unfold stD stB; subst hu164; subst hu136; subst hu134; subst hu126; exact ⟨rfl, rfl⟩))), gB.mk' hG hC hS ht9_ hW⟩, hS.F ht9_⟩) hS.2.2 dX12_step_298
                  · refine z_iconst hx hb dX12_step_261 ?_
                    refine lv_goto (tgt := 266) hx hb dX12_step_262 (by decide) ?_
                    refine z_isub hx hb dX12_step_266 ?_
                    obtain ⟨cd, hcd⟩ : ∃ z : Int, z = ((w.2.1 41 p1.toNat) + z142) - 3 := ⟨_, rfl⟩
                    rw [← hcd]
                    refine lv_istore (lv' := [(15, .int (zI cd)), (7, .int (zI (a + 1))), (14, .int (zI 0)), (13, .int (zI ny)), (12, .int (zI nx)), (11, .int (zI td)), (10, .int (zI wy)), (9, .int (zI z9)), (8, .int (zI t)), (0, .ref (ad 8)), (1, .int (zI p1)), (2, .int (zI p2)), (3, .int (zI p3)), (4, .int (zI p4)), (5, .int (zI p5)), (6, .int (zI p6))]) hx hb dX12_step_267 hl (by decide) rfl (fun ls hl => ?_)
                    have hC0 : cd = stC0 w p1 p2 t := by unfold stC0; (repeat (first | rw [if_pos (by omega)] | rw [if_neg (by omega)])); subst_vars; rfl
                    refine lv_aload_n hx hb dX12_step_269 rfl (lv_at hl 9 rfl) ?_
                    refine g_get (C := RX12) (T := TX12) (N := 42) (ci := 11) hx hb hts (fun _ h => (List.mem_cons_of_mem _ (List.mem_append_right _ h))) hown hC.1 hG 8 (by decide) rfl rfl 14 (by decide) (hts (.fieldLink RX12 48 "StraitSwimModel" "colds" "[I") (List.mem_cons_of_mem _ (List.mem_append_left _ (List.mem_append_left _ (List.mem_of_getElem? (i := 2) rfl))))) (fun _ h9 => h9) rfl dX12_step_270 ?_
                    refine lv_iload_n hx hb dX12_step_273 rfl (lv_at hl 10 rfl) ?_
                    refine lv_iload hx hb dX12_step_274 (lv_at hl 0 rfl) ?_
                    refine z_if_ge (tgt := 283) hx hb dX12_step_276 (by decide) (by omega) (by omega) (fun c_177 => ?_) (fun c_177 => ?_)
                    · refine lv_iload hx hb dX12_step_283 (lv_at hl 0 rfl) ?_
                      refine g_iast (n := 2) hx hb hC.1 hG hS 41 (by decide) rfl rfl (by omega) (by omega) (by decide) dX12_step_285 (fun u178 H locs hu178 hG hS => ?_)
                      have hCC : stC w p1 p2 t = cd := by unfold stC; rw [← hC0]; (repeat (first | rw [if_pos (by omega)] | rw [if_neg (by omega)]))
                      refine lv_aload_n hx hb dX12_step_286 rfl (lv_at hl 9 rfl) ?_
                      refine lv_iload hx hb dX12_step_287 (lv_at hl 4 rfl) ?_
                      refine lv_iload hx hb dX12_step_289 (lv_at hl 3 rfl) ?_
                      refine g_calli (va_runV (As := [.int (zI nx), .int (zI ny)]) (rest := []) ⟨hx, hb, hml, hown, hts⟩ (kX12_isDry l D cy ad jf A u178 nx ny (by omega) (by omega) (by subst hu178; subst hu136; subst hu134; subst hu126; exact hd)) (cwV 2 hts gX12_step_X12_isDry rfl rfl rfl (by decide +kernel) ⟨by decide, by decide⟩) (g_preV (C := RX12) hG hC hS 8 (by decide) rfl rfl) rfl rfl hl.1 rfl (lv_room (Nat.le_of_ble_eq_true rfl)) dX12_step_291 ⟨Nat.le_of_ble_eq_true rfl, Nat.le_of_ble_eq_true rfl⟩) hS (fun r179 u180 H locs p_181 hG hS => ?_)
                      obtain ⟨rfl, he_⟩ := p_181
                      rw [he_] at hG; clear he_
                      have e_184 : spDry (u178.2.1 31) nx ny = spDry (w.2.1 31) nx ny := by subst hu178; subst hu136; subst hu134; subst hu126; rfl
                      rw [e_184]
                      obtain ⟨z183, hz183⟩ : ∃ z : Int, z = spDry (w.2.1 31) nx ny := ⟨_, rfl⟩
                      rw [← hz183]
                      have q_182 : z183 = 0 ∨ z183 = 1 := by rw [hz183]; exact hd _ (by omega)
                      refine z_if_eq (tgt := 299) hx hb dX12_step_294 (by decide) (by omega) (by omega) (fun c_185 => ?_) (fun c_185 => ?_)
                      · refine lv_aload_n hx hb dX12_step_299 rfl (lv_at hl 9 rfl) ?_
                        refine g_get (C := RX12) (T := TX12) (N := 42) (ci := 11) hx hb hts (fun _ h => (List.mem_cons_of_mem _ (List.mem_append_right _ h))) hown hC.1 hG 8 (by decide) rfl rfl 14 (by decide) (hts (.fieldLink RX12 48 "StraitSwimModel" "colds" "[I") (List.mem_cons_of_mem _ (List.mem_append_left _ (List.mem_append_left _ (List.mem_of_getElem? (i := 2) rfl))))) (fun _ h9 => h9) rfl dX12_step_300 ?_
                        refine lv_iload_n hx hb dX12_step_303 rfl (lv_at hl 10 rfl) ?_
                        refine g_iald (n := 2) hx hb hC.1 hG 41 (by decide) rfl (by omega) (by omega) (by decide) dX12_step_304 ?_
                        have e_186 : u178.2.1 41 = va_up (w.2.1 41) p1.toNat cd := by subst hu178; subst hu136; subst hu134; subst hu126; rfl
                        rw [e_186]
                        rw [up_s]
                        refine lv_aload_n hx hb dX12_step_305 rfl (lv_at hl 9 rfl) ?_
                        refine g_get (C := RX12) (T := TX12) (N := 42) (ci := 11) hx hb hts (fun _ h => (List.mem_cons_of_mem _ (List.mem_append_right _ h))) hown hC.1 hG 8 (by decide) rfl rfl 9 (by decide) (hts (.fieldLink RX12 33 "StraitSwimModel" "limit" "[I") (List.mem_cons_of_mem _ (List.mem_append_left _ (List.mem_append_left _ (List.mem_of_getElem? (i := 6) rfl))))) (fun _ h9 => h9) rfl dX12_step_306 ?_
                        refine lv_iload_n hx hb dX12_step_309 rfl (lv_at hl 11 rfl) ?_
                        refine g_iald (n := 10) hx hb hC.1 hG 36 (by decide) rfl (by omega) (by omega) (by decide) dX12_step_310 ?_
                        have e_188 : u178.2.1 36 = w.2.1 36 := by subst hu178; subst hu136; subst hu134; subst hu126; rfl
                        rw [e_188]
                        have q_189 := i36 p2.toNat (by omega)
                        refine z_icmp_lt (tgt := 316) hx hb dX12_step_311 (by decide) (by omega) (by omega) (by omega) (by omega) (fun c_190 => ?_) (fun c_190 => ?_)
                        · refine z_iinc (lv' := [(8, .int (zI (t + 1))), (15, .int (zI cd)), (7, .int (zI (a + 1))), (14, .int (zI 0)), (13, .int (zI ny)), (12, .int (zI nx)), (11, .int (zI td)), (10, .int (zI wy)), (9, .int (zI z9)), (0, .ref (ad 8)), (1, .int (zI p1)), (2, .int (zI p2)), (3, .int (zI p3)), (4, .int (zI p4)), (5, .int (zI p5)), (6, .int (zI p6))]) hx hb dX12_step_316 hl (k := 8) rfl (by decide) rfl (fun ls hl => ?_)
                          refine lv_goto (tgt := 40) hx hb dX12_step_319 (by decide) ?_
                          exact ih40 (t + 1) (a + 1) u178 _ _ _ (by omega) (by omega) (by omega) (by subst hu178; subst hu136; subst hu134; subst hu126; exact i34) (by subst hu178; subst hu136; subst hu134; subst hu126; exact i35) (by subst hu178; subst hu136; subst hu134; subst hu126; exact i36) (by subst hu178; subst hu136; subst hu134; subst hu126; exact i37) (by subst hu178; subst hu136; subst hu134; subst hu126; exact i32) (by subst hu178; subst hu136; subst hu134; subst hu126; exact i33) (by subst hu178; subst hu136; subst hu134; subst hu126; exact hd) (by subst hu178; subst hu136; subst hu134; subst hu126; exact i21) (by subst hu178; subst hu136; subst hu134; subst hu126; show 0 ≤ va_up _ _ _ _ ∧ va_up _ _ _ _ ≤ 239; rw [up_s]; omega) (by subst hu178; subst hu136; subst hu134; subst hu126; show 0 ≤ va_up _ _ _ _ ∧ va_up _ _ _ _ ≤ 119; rw [up_s]; omega) (by subst hu178; subst hu136; subst hu134; subst hu126; show 0 ≤ va_up _ _ _ _ ∧ va_up _ _ _ _ ≤ _; rw [up_s]; omega) (by first | (exfalso; omega) | (rw [hT, mStep, if_pos (by omega)]; simp only [← hX, ← hY, hCC, ← hz183]; (repeat (first | rw [if_pos (by omega)] | rw [if_neg (by omega)])); unfold stD stB; subst hu178; subst hu136; subst hu134; subst hu126; rfl)) hG hS (lv_sub hl [0, 2, 9, 10, 11, 12, 13, 14, 15] rfl)
                        · refine z_iconst hx hb dX12_step_314 ?_
                          exact W.iret (v := zI 1) hx hb hr (fun t9 ht9_ hW => ⟨⟨zI 1, u178, rfl, (by first | (exfalso; omega) | (unfold mStepA; rw [hT, mStep, if_pos (by omega)]; simp only [← hX, ← hY, hCC, ← hz183]; (repeat (first | rw [if_pos (by omega)] | rw [if_neg (by omega)])); all_goals (unfold stD stB; subst hu178; subst hu136; subst hu134; subst hu126; exact ⟨rfl, rfl⟩))), gB.mk' hG hC hS ht9_ hW⟩, hS.F ht9_⟩) hS.2.2 dX12_step_315
                      · refine z_iconst hx hb dX12_step_297 ?_
                        exact W.iret (v := zI 0) hx hb hr (fun t9 ht9_ hW => ⟨⟨zI 0, u178, rfl, (by first | (exfalso; omega) | (unfold mStepA; rw [hT, mStep, if_pos (by omega)]; simp only [← hX, ← hY, hCC, ← hz183]; (repeat (first | rw [if_pos (by omega)] | rw [if_neg (by omega)])); all_goals (unfold stD stB; subst hu178; subst hu136; subst hu134; subst hu126; exact ⟨rfl, rfl⟩))), gB.mk' hG hC hS ht9_ hW⟩, hS.F ht9_⟩) hS.2.2 dX12_step_298
                    · refine z_iconst hx hb dX12_step_279 ?_
                      refine lv_goto (tgt := 285) hx hb dX12_step_280 (by decide) ?_
                      refine g_iast (n := 2) hx hb hC.1 hG hS 41 (by decide) rfl rfl (by omega) (by omega) (by decide) dX12_step_285 (fun u191 H locs hu191 hG hS => ?_)
                      have hCC : stC w p1 p2 t = 0 := by unfold stC; rw [← hC0]; (repeat (first | rw [if_pos (by omega)] | rw [if_neg (by omega)]))
                      refine lv_aload_n hx hb dX12_step_286 rfl (lv_at hl 9 rfl) ?_
                      refine lv_iload hx hb dX12_step_287 (lv_at hl 4 rfl) ?_
                      refine lv_iload hx hb dX12_step_289 (lv_at hl 3 rfl) ?_
                      refine g_calli (va_runV (As := [.int (zI nx), .int (zI ny)]) (rest := []) ⟨hx, hb, hml, hown, hts⟩ (kX12_isDry l D cy ad jf A u191 nx ny (by omega) (by omega) (by subst hu191; subst hu136; subst hu134; subst hu126; exact hd)) (cwV 2 hts gX12_step_X12_isDry rfl rfl rfl (by decide +kernel) ⟨by decide, by decide⟩) (g_preV (C := RX12) hG hC hS 8 (by decide) rfl rfl) rfl rfl hl.1 rfl (lv_room (Nat.le_of_ble_eq_true rfl)) dX12_step_291 ⟨Nat.le_of_ble_eq_true rfl, Nat.le_of_ble_eq_true rfl⟩) hS (fun r192 u193 H locs p_194 hG hS => ?_)
                      obtain ⟨rfl, he_⟩ := p_194
                      rw [he_] at hG; clear he_
                      have e_197 : spDry (u191.2.1 31) nx ny = spDry (w.2.1 31) nx ny := by subst hu191; subst hu136; subst hu134; subst hu126; rfl
                      rw [e_197]
                      obtain ⟨z196, hz196⟩ : ∃ z : Int, z = spDry (w.2.1 31) nx ny := ⟨_, rfl⟩
                      rw [← hz196]
                      have q_195 : z196 = 0 ∨ z196 = 1 := by rw [hz196]; exact hd _ (by omega)
                      refine z_if_eq (tgt := 299) hx hb dX12_step_294 (by decide) (by omega) (by omega) (fun c_198 => ?_) (fun c_198 => ?_)
                      · refine lv_aload_n hx hb dX12_step_299 rfl (lv_at hl 9 rfl) ?_
                        refine g_get (C := RX12) (T := TX12) (N := 42) (ci := 11) hx hb hts (fun _ h => (List.mem_cons_of_mem _ (List.mem_append_right _ h))) hown hC.1 hG 8 (by decide) rfl rfl 14 (by decide) (hts (.fieldLink RX12 48 "StraitSwimModel" "colds" "[I") (List.mem_cons_of_mem _ (List.mem_append_left _ (List.mem_append_left _ (List.mem_of_getElem? (i := 2) rfl))))) (fun _ h9 => h9) rfl dX12_step_300 ?_
                        refine lv_iload_n hx hb dX12_step_303 rfl (lv_at hl 10 rfl) ?_
                        refine g_iald (n := 2) hx hb hC.1 hG 41 (by decide) rfl (by omega) (by omega) (by decide) dX12_step_304 ?_
                        have e_199 : u191.2.1 41 = va_up (w.2.1 41) p1.toNat 0 := by subst hu191; subst hu136; subst hu134; subst hu126; rfl
                        rw [e_199]
                        rw [up_s]
                        refine lv_aload_n hx hb dX12_step_305 rfl (lv_at hl 9 rfl) ?_
                        refine g_get (C := RX12) (T := TX12) (N := 42) (ci := 11) hx hb hts (fun _ h => (List.mem_cons_of_mem _ (List.mem_append_right _ h))) hown hC.1 hG 8 (by decide) rfl rfl 9 (by decide) (hts (.fieldLink RX12 33 "StraitSwimModel" "limit" "[I") (List.mem_cons_of_mem _ (List.mem_append_left _ (List.mem_append_left _ (List.mem_of_getElem? (i := 6) rfl))))) (fun _ h9 => h9) rfl dX12_step_306 ?_
                        refine lv_iload_n hx hb dX12_step_309 rfl (lv_at hl 11 rfl) ?_
                        refine g_iald (n := 10) hx hb hC.1 hG 36 (by decide) rfl (by omega) (by omega) (by decide) dX12_step_310 ?_
                        have e_201 : u191.2.1 36 = w.2.1 36 := by subst hu191; subst hu136; subst hu134; subst hu126; rfl
                        rw [e_201]
                        have q_202 := i36 p2.toNat (by omega)
                        refine z_icmp_lt (tgt := 316) hx hb dX12_step_311 (by decide) (by omega) (by omega) (by omega) (by omega) (fun c_203 => ?_) (fun c_203 => ?_)
                        · refine z_iinc (lv' := [(8, .int (zI (t + 1))), (15, .int (zI cd)), (7, .int (zI (a + 1))), (14, .int (zI 0)), (13, .int (zI ny)), (12, .int (zI nx)), (11, .int (zI td)), (10, .int (zI wy)), (9, .int (zI z9)), (0, .ref (ad 8)), (1, .int (zI p1)), (2, .int (zI p2)), (3, .int (zI p3)), (4, .int (zI p4)), (5, .int (zI p5)), (6, .int (zI p6))]) hx hb dX12_step_316 hl (k := 8) rfl (by decide) rfl (fun ls hl => ?_)
                          refine lv_goto (tgt := 40) hx hb dX12_step_319 (by decide) ?_
                          exact ih40 (t + 1) (a + 1) u191 _ _ _ (by omega) (by omega) (by omega) (by subst hu191; subst hu136; subst hu134; subst hu126; exact i34) (by subst hu191; subst hu136; subst hu134; subst hu126; exact i35) (by subst hu191; subst hu136; subst hu134; subst hu126; exact i36) (by subst hu191; subst hu136; subst hu134; subst hu126; exact i37) (by subst hu191; subst hu136; subst hu134; subst hu126; exact i32) (by subst hu191; subst hu136; subst hu134; subst hu126; exact i33) (by subst hu191; subst hu136; subst hu134; subst hu126; exact hd) (by subst hu191; subst hu136; subst hu134; subst hu126; exact i21) (by subst hu191; subst hu136; subst hu134; subst hu126; show 0 ≤ va_up _ _ _ _ ∧ va_up _ _ _ _ ≤ 239; rw [up_s]; omega) (by subst hu191; subst hu136; subst hu134; subst hu126; show 0 ≤ va_up _ _ _ _ ∧ va_up _ _ _ _ ≤ 119; rw [up_s]; omega) (by subst hu191; subst hu136; subst hu134; subst hu126; show 0 ≤ va_up _ _ _ _ ∧ va_up _ _ _ _ ≤ _; rw [up_s]; omega) (by first | (exfalso; omega) | (rw [hT, mStep, if_pos (by omega)]; simp only [← hX, ← hY, hCC, ← hz196]; (repeat (first | rw [if_pos (by omega)] | rw [if_neg (by omega)])); unfold stD stB; subst hu191; subst hu136; subst hu134; subst hu126; rfl)) hG hS (lv_sub hl [0, 2, 9, 10, 11, 12, 13, 14, 15] rfl)
                        · refine z_iconst hx hb dX12_step_314 ?_
                          exact W.iret (v := zI 1) hx hb hr (fun t9 ht9_ hW => ⟨⟨zI 1, u191, rfl, (by first | (exfalso; omega) | (unfold mStepA; rw [hT, mStep, if_pos (by omega)]; simp only [← hX, ← hY, hCC, ← hz196]; (repeat (first | rw [if_pos (by omega)] | rw [if_neg (by omega)])); all_goals (unfold stD stB; subst hu191; subst hu136; subst hu134; subst hu126; exact ⟨rfl, rfl⟩))), gB.mk' hG hC hS ht9_ hW⟩, hS.F ht9_⟩) hS.2.2 dX12_step_315
                      · refine z_iconst hx hb dX12_step_297 ?_
                        exact W.iret (v := zI 0) hx hb hr (fun t9 ht9_ hW => ⟨⟨zI 0, u191, rfl, (by first | (exfalso; omega) | (unfold mStepA; rw [hT, mStep, if_pos (by omega)]; simp only [← hX, ← hY, hCC, ← hz196]; (repeat (first | rw [if_pos (by omega)] | rw [if_neg (by omega)])); all_goals (unfold stD stB; subst hu191; subst hu136; subst hu134; subst hu126; exact ⟨rfl, rfl⟩))), gB.mk' hG hC hS ht9_ hW⟩, hS.F ht9_⟩) hS.2.2 dX12_step_298
                · exfalso; omega
              · exfalso; omega
            · exfalso; omega
          · refine z_iconst hx hb dX12_step_168 ?_
            refine lv_goto (tgt := 173) hx hb dX12_step_169 (by decide) ?_
            refine lv_istore (lv' := [(14, .int (zI 1)), (13, .int (zI ny)), (12, .int (zI nx)), (11, .int (zI td)), (10, .int (zI wy)), (9, .int (zI z9)), (8, .int (zI t)), (7, .int (zI a)), (0, .ref (ad 8)), (1, .int (zI p1)), (2, .int (zI p2)), (3, .int (zI p3)), (4, .int (zI p4)), (5, .int (zI p5)), (6, .int (zI p6))]) hx hb dX12_step_173 hl (by decide) rfl (fun ls hl => ?_)
            refine lv_aload_n hx hb dX12_step_175 rfl (lv_at hl 8 rfl) ?_
            refine g_get (C := RX12) (T := TX12) (N := 42) (ci := 11) hx hb hts (fun _ h => (List.mem_cons_of_mem _ (List.mem_append_right _ h))) hown hC.1 hG 8 (by decide) rfl rfl 11 (by decide) (hts (.fieldLink RX12 39 "StraitSwimModel" "pathX" "[I") (List.mem_cons_of_mem _ (List.mem_append_left _ (List.mem_append_left _ (List.mem_of_getElem? (i := 0) rfl))))) (fun _ h9 => h9) rfl dX12_step_176 ?_
            refine lv_iload hx hb dX12_step_179 (lv_at hl 7 rfl) ?_
            refine z_iconst hx hb dX12_step_181 ?_
            refine z_iadd hx hb dX12_step_182 ?_
            refine lv_iload hx hb dX12_step_183 (lv_at hl 0 rfl) ?_
            refine z_if_eq (tgt := 198) hx hb dX12_step_185 (by decide) (by omega) (by omega) (fun c_204 => ?_) (fun c_204 => ?_)
            · exfalso; omega
            · refine lv_aload_n hx hb dX12_step_188 rfl (lv_at hl 8 rfl) ?_
              refine g_get (C := RX12) (T := TX12) (N := 42) (ci := 11) hx hb hts (fun _ h => (List.mem_cons_of_mem _ (List.mem_append_right _ h))) hown hC.1 hG 8 (by decide) rfl rfl 11 (by decide) (hts (.fieldLink RX12 39 "StraitSwimModel" "pathX" "[I") (List.mem_cons_of_mem _ (List.mem_append_left _ (List.mem_append_left _ (List.mem_of_getElem? (i := 0) rfl))))) (fun _ h9 => h9) rfl dX12_step_189 ?_
              refine lv_iload hx hb dX12_step_192 (lv_at hl 7 rfl) ?_
              refine g_iald (n := 202) hx hb hC.1 hG 38 (by decide) rfl (by omega) (by omega) (by decide) dX12_step_194 ?_
              have e_205 : u126.2.1 38 = w.2.1 38 := by subst hu126; rfl
              rw [e_205]
              refine lv_goto (tgt := 200) hx hb dX12_step_195 (by decide) ?_
              refine g_iast (n := 202) hx hb hC.1 hG hS 38 (by decide) rfl rfl (by omega) (by omega) (by decide) dX12_step_200 (fun u206 H locs hu206 hG hS => ?_)
              refine lv_aload_n hx hb dX12_step_201 rfl (lv_at hl 8 rfl) ?_
              refine g_get (C := RX12) (T := TX12) (N := 42) (ci := 11) hx hb hts (fun _ h => (List.mem_cons_of_mem _ (List.mem_append_right _ h))) hown hC.1 hG 8 (by decide) rfl rfl 12 (by decide) (hts (.fieldLink RX12 42 "StraitSwimModel" "pathY" "[I") (List.mem_cons_of_mem _ (List.mem_append_left _ (List.mem_append_left _ (List.mem_of_getElem? (i := 1) rfl))))) (fun _ h9 => h9) rfl dX12_step_202 ?_
              refine lv_iload hx hb dX12_step_205 (lv_at hl 7 rfl) ?_
              refine z_iconst hx hb dX12_step_207 ?_
              refine z_iadd hx hb dX12_step_208 ?_
              refine lv_iload hx hb dX12_step_209 (lv_at hl 0 rfl) ?_
              refine z_if_eq (tgt := 224) hx hb dX12_step_211 (by decide) (by omega) (by omega) (fun c_207 => ?_) (fun c_207 => ?_)
              · exfalso; omega
              · refine lv_aload_n hx hb dX12_step_214 rfl (lv_at hl 8 rfl) ?_
                refine g_get (C := RX12) (T := TX12) (N := 42) (ci := 11) hx hb hts (fun _ h => (List.mem_cons_of_mem _ (List.mem_append_right _ h))) hown hC.1 hG 8 (by decide) rfl rfl 12 (by decide) (hts (.fieldLink RX12 42 "StraitSwimModel" "pathY" "[I") (List.mem_cons_of_mem _ (List.mem_append_left _ (List.mem_append_left _ (List.mem_of_getElem? (i := 1) rfl))))) (fun _ h9 => h9) rfl dX12_step_215 ?_
                refine lv_iload hx hb dX12_step_218 (lv_at hl 7 rfl) ?_
                refine g_iald (n := 202) hx hb hC.1 hG 39 (by decide) rfl (by omega) (by omega) (by decide) dX12_step_220 ?_
                have e_208 : u206.2.1 39 = w.2.1 39 := by subst hu206; subst hu126; rfl
                rw [e_208]
                refine lv_goto (tgt := 226) hx hb dX12_step_221 (by decide) ?_
                refine g_iast (n := 202) hx hb hC.1 hG hS 39 (by decide) rfl rfl (by omega) (by omega) (by decide) dX12_step_226 (fun u209 H locs hu209 hG hS => ?_)
                refine lv_iload hx hb dX12_step_227 (lv_at hl 0 rfl) ?_
                refine z_if_eq (tgt := 234) hx hb dX12_step_229 (by decide) (by omega) (by omega) (fun c_210 => ?_) (fun c_210 => ?_)
                · exfalso; omega
                · refine z_iconst hx hb dX12_step_232 ?_
                  exact W.iret (v := zI 2) hx hb hr (fun t9 ht9_ hW => ⟨⟨zI 2, u209, rfl, (by first | (exfalso; omega) | (unfold mStepA; rw [hT, mStep, if_pos (by omega)]; simp only [← hX, ← hY]; (repeat (first | rw [if_pos (by omega)] | rw [if_neg (by omega)])); all_goals (unfold stB; subst hu209; subst hu206; subst hu126; exact ⟨rfl, rfl⟩))), gB.mk' hG hC hS ht9_ hW⟩, hS.F ht9_⟩) hS.2.2 dX12_step_233
  exact loop40 101 0 (101 * p1) u4 _ _ _ (by omega) (by omega) (by omega) (by subst hu4; subst hu3; subst hu2; subst hu1; exact i34) (by subst hu4; subst hu3; subst hu2; subst hu1; exact i35) (by subst hu4; subst hu3; subst hu2; subst hu1; exact i36) (by subst hu4; subst hu3; subst hu2; subst hu1; exact i37) (by subst hu4; subst hu3; subst hu2; subst hu1; exact i32) (by subst hu4; subst hu3; subst hu2; subst hu1; exact i33) (by subst hu4; subst hu3; subst hu2; subst hu1; exact hd) (by subst hu4; subst hu3; subst hu2; subst hu1; exact i21) (by subst hu4; subst hu3; subst hu2; subst hu1; show 0 ≤ va_up _ _ _ _ ∧ va_up _ _ _ _ ≤ 239; rw [up_s]; omega) (by subst hu4; subst hu3; subst hu2; subst hu1; show 0 ≤ va_up _ _ _ _ ∧ va_up _ _ _ _ ≤ 119; rw [up_s]; omega) (by subst hu4; subst hu3; subst hu2; subst hu1; show 0 ≤ va_up _ _ _ _ ∧ va_up _ _ _ _ ≤ 200 * 0; rw [up_s]; omega) (by unfold mSt0; subst hu4; subst hu3; subst hu2; subst hu1; rfl) hG hS (lv_sub hl [0, 1, 2, 3, 4, 5, 6, 7, 8] rfl)
