set_option maxHeartbeats 4000000 in
set_option maxRecDepth 100000 in
theorem kX2_mostFrom (l : Launch) (D : va_G) (cy : Nat → ClassId) (ad : Nat → Nat) (jf : Nat → Int64) (A : Nat → Prop) (u : gS) (p1 p2 p3 : Int) (j_1 : 0 ≤ p1 ∧ p1 ≤ 16) (j_p2 : -2147483648 ≤ p2 ∧ p2 < 2147483648) (j_p3 : -2147483648 ≤ p3 ∧ p3 < 2147483648) (i25 : ∀ j, j < 10 → u.2.1 25 j = 0 ∨ u.2.1 25 j = 1) (i26 : ∀ j, j < 10 → 0 ≤ u.2.1 26 j ∧ u.2.1 26 j ≤ 3) : Met l yX2_mostFrom wsX2_mostFrom ({ frames := 11, cells := 0, slots := 0, locals := 325 }) (va_Pc [.ref (ad 7), .int (zI p1), .int (zI p2), .int (zI p3)] (gB D cy ad jf A u)) (va_Qi (fun (r : Int32) (v : gS) => r = zI (cMost u p1 p2 p3) ∧ ∃ T9 H9, v = cNp u T9 H9) (gB D cy ad jf A) A) 0 0 A := by
  refine Met.ofW (cc := cX2_mostFrom) (maxL := 7) (ret := (some .int)) (by decide) rfl ?_
  intro p e s m args below meth c s₁ B hml hv
  obtain ⟨rfl, hG, hC⟩ := hv
  have hx := B.exec
  have hb := B.bytes
  have hr := B.returns
  have hts := atoms_spec (ws := wsX2_mostFrom) B.pre
  have hown : s.vm.findClass RX2 = some m.cls := findClass_of_methodNamed B.named
  have hlocks := B.notSynchronized
  have hS : va_S A s.heap s.heap [] := va_S.rf
  have hl := lv_entry ([.ref (ad 7), .int (zI p1), .int (zI p2), .int (zI p3)]) (n := 7) (Nat.le_of_ble_eq_true rfl)
  rw [lg_entry_eq]
  generalize (lg_sl ([.ref (ad 7), .int (zI p1), .int (zI p2), .int (zI p3)]) ++ List.replicate (7 - (lg_sl ([.ref (ad 7), .int (zI p1), .int (zI p2), .int (zI p3)])).length) Slot.unset).toArray = ls at hl ⊢
  have hl : lv_has ls 7 [(0, .ref (ad 7)), (1, .int (zI p1)), (2, .int (zI p2)), (3, .int (zI p3))] := hl
  refine lv_aload_n hx hb dX2_mostFrom_0 rfl (lv_at hl 0 rfl) ?_
  refine g_get (C := RX2) (T := TX2) (N := 7) (ci := 1) hx hb hts (fun _ h => (List.mem_cons_of_mem _ (List.mem_append_right _ h))) hown hC.1 hG 7 (by decide) rfl rfl 0 (by decide) (hts (.fieldLink RX2 9 "StraitSwim$Neap" "calmDays" "I") (List.mem_cons_of_mem _ (List.mem_append_left _ (List.mem_of_getElem? (i := 0) rfl)))) (fun _ h9 => h9) rfl dX2_mostFrom_1 ?_
  refine z_iconst hx hb dX2_mostFrom_4 ?_
  refine lv_iload_n hx hb dX2_mostFrom_5 rfl (lv_at hl 1 rfl) ?_
  have q_1 := bShl_bnd ((-1)) p1
  refine z_ishl hx hb dX2_mostFrom_6 ?_
  have q_2 := bAnd_bnd (u.1 18) (bShl ((-1)) p1)
  refine z_iand hx hb dX2_mostFrom_7 ?_
  refine lv_istore (lv' := [(4, .int (zI (bAnd (u.1 18) (bShl ((-1)) p1)))), (0, .ref (ad 7)), (1, .int (zI p1)), (2, .int (zI p2)), (3, .int (zI p3))]) hx hb dX2_mostFrom_8 hl (by decide) rfl (fun ls hl => ?_)
  refine z_iconst hx hb dX2_mostFrom_10 ?_
  refine lv_istore (lv' := [(5, .int (zI 0)), (4, .int (zI (bAnd (u.1 18) (bShl ((-1)) p1)))), (0, .ref (ad 7)), (1, .int (zI p1)), (2, .int (zI p2)), (3, .int (zI p3))]) hx hb dX2_mostFrom_11 hl (by decide) rfl (fun ls hl => ?_)
  refine lv_aload_n hx hb dX2_mostFrom_13 rfl (lv_at hl 2 rfl) ?_
  refine g_get (C := RX2) (T := TX2) (N := 7) (ci := 1) hx hb hts (fun _ h => (List.mem_cons_of_mem _ (List.mem_append_right _ h))) hown hC.1 hG 7 (by decide) rfl rfl 5 (by decide) (hts (.fieldLink RX2 29 "StraitSwim$Neap" "holders" "[I") (List.mem_cons_of_mem _ (List.mem_append_left _ (List.mem_of_getElem? (i := 1) rfl)))) (fun _ h9 => h9) rfl dX2_mostFrom_14 ?_
  refine z_iconst hx hb dX2_mostFrom_17 ?_
  refine g_callv (va_runS (As := [.ref (ad 29), .int (zI ((-1)))]) (rest := []) ⟨hx, hb, hml, hown, hts⟩ (kJ7_fill_53178 l D cy ad jf A u ((-1)) (by omega)) (va_cwS 2 hts gX2_mostFrom_J7_fill_53178 rfl rfl rfl (by decide +kernel) ⟨by decide, by decide⟩) (g_preS hG hC hS) rfl rfl hl.1 rfl (lv_room (Nat.le_of_ble_eq_true rfl)) dX2_mostFrom_18 ⟨Nat.le_of_ble_eq_true rfl, Nat.le_of_ble_eq_true rfl⟩) hS (fun u4 H locs p_5 hG hS => ?_)
  obtain ⟨f9, hu4, hf9⟩ := p_5
  refine z_iconst hx hb dX2_mostFrom_21 ?_
  refine lv_istore (lv' := [(6, .int (zI 0)), (5, .int (zI 0)), (4, .int (zI (bAnd (u.1 18) (bShl ((-1)) p1)))), (0, .ref (ad 7)), (1, .int (zI p1)), (2, .int (zI p2)), (3, .int (zI p3))]) hx hb dX2_mostFrom_22 hl (by decide) rfl (fun ls hl => ?_)
  have loop24 : ∀ (n : Nat) (mo k : Int) (w : gS) (H : Heap) (locs : List Loc) (ls : Array Slot), (10 - k).toNat < n → (0 ≤ k ∧ k ≤ 10) → (∃ T9 H9, w = cNp u T9 H9 ∧ (∀ e, e < 16 → -1 ≤ H9 e ∧ H9 e ≤ 9) ∧ MGr (cCan u) p1.toNat (16 - p1.toNat) (cGone u p2 p3) k.toNat H9 ∧ mo = (sz H9 p1.toNat (16 - p1.toNat) : Nat)) → gH D cy ad jf A w H → va_S A s.heap H locs → lv_has ls 7 [(6, .int (zI k)), (5, .int (zI mo)), (4, .int (zI (bAnd (u.1 18) (bShl ((-1)) p1)))), (0, .ref (ad 7)), (1, .int (zI p1)), (2, .int (zI p2)), (3, .int (zI p3))] → W p l e (headSpec wsX2_mostFrom ({ frames := 11, cells := 0, slots := 0, locals := 325 })).room s m ([.ref (ad 7), .int (zI p1), .int (zI p2), .int (zI p3)]).toArray below meth c H locs 0 0 (MQ below (va_Qi (fun (r : Int32) (v : gS) => r = zI (cMost u p1 p2 p3) ∧ ∃ T9 H9, v = cNp u T9 H9) (gB D cy ad jf A) A) ([.ref (ad 7), .int (zI p1), .int (zI p2), .int (zI p3)]).toArray s 0 0 A) (F0 m 24 ls []) := by
    intro n
    induction n with
    | zero => intro mo k w H locs ls hm; exact absurd hm (Nat.not_lt_zero _)
    | succ n ih24 =>
      intro mo k w H locs ls hm hk hw hG hS hl
      obtain ⟨T9, H9, hw0, hr9, hgr, hmo⟩ := hw
      have e25 : w.2.1 25 k.toNat = u.2.1 25 k.toNat := by rw [hw0]; rfl
      have e26 : w.2.1 26 k.toNat = u.2.1 26 k.toNat := by rw [hw0]; rfl
      have i25 : ∀ j, j < 10 → w.2.1 25 j = 0 ∨ w.2.1 25 j = 1 := by rw [hw0]; exact i25
      have i26 : ∀ j, j < 10 → 0 ≤ w.2.1 26 j ∧ w.2.1 26 j ≤ 3 := by rw [hw0]; exact i26
      refine lv_iload hx hb dX2_mostFrom_24 (lv_at hl 0 rfl) ?_
      refine z_bipush hx hb dX2_mostFrom_26 (by decide) ?_
      refine z_icmp_ge (tgt := 68) hx hb dX2_mostFrom_28 (by decide) (by omega) (by omega) (by omega) (by omega) (fun c_6 => ?_) (fun c_6 => ?_)
      · refine lv_iload hx hb dX2_mostFrom_68 (lv_at hl 1 rfl) ?_
        exact W.iret (v := zI mo) hx hb hr (fun t9 ht9_ hW => ⟨⟨zI mo, w, rfl, (by refine ⟨?_, T9, H9, hw0⟩; congr 1; unfold cMost; rw [hmo, MGr_end hgr (fun s h1 h2 => by exfalso; omega)]), gB.mk' hG hC hS ht9_ hW⟩, hS.F ht9_⟩) hS.2.2 dX2_mostFrom_70
      · refine lv_aload_n hx hb dX2_mostFrom_31 rfl (lv_at hl 3 rfl) ?_
        refine z_iconst hx hb dX2_mostFrom_32 ?_
        refine g_put (C := RX2) (T := TX2) (N := 7) (ci := 1) (ty := .int) hx hb hts (fun _ h => (List.mem_cons_of_mem _ (List.mem_append_right _ h))) tyX2 tyX2_ok nmX2 hown hC.1 hG hS 7 (by decide) rfl rfl 6 19 (by decide) (hts (.fieldLink RX2 32 "StraitSwim$Neap" "tried" "I") (List.mem_cons_of_mem _ (List.mem_append_left _ (List.mem_of_getElem? (i := 2) rfl)))) (fun _ h9 => h9) rfl (by decide +kernel) rfl rfl (Nat.le_of_ble_eq_true rfl) rfl (gO_19 ad _ _) dX2_mostFrom_33 (fun u7 H locs hu7 hG hS => ?_)
        refine lv_aload_n hx hb dX2_mostFrom_36 rfl (lv_at hl 3 rfl) ?_
        refine lv_iload hx hb dX2_mostFrom_37 (lv_at hl 0 rfl) ?_
        refine lv_iload_n hx hb dX2_mostFrom_39 rfl (lv_at hl 5 rfl) ?_
        refine lv_iload_n hx hb dX2_mostFrom_40 rfl (lv_at hl 6 rfl) ?_
        refine g_calli (va_runV (As := [.int (zI k), .int (zI p2), .int (zI p3)]) (rest := []) ⟨hx, hb, hml, hown, hts⟩ (kX2_isOf l D cy ad jf A u7 k p2 p3 (by omega) (by omega) (by omega) (by subst hu7; exact i25) (by subst hu7; exact i26)) (cwV 3 hts gX2_mostFrom_X2_isOf rfl rfl rfl (by decide +kernel) ⟨by decide, by decide⟩) (g_preV (C := RX2) hG hC hS 7 (by decide) rfl rfl) rfl rfl hl.1 rfl (lv_room (Nat.le_of_ble_eq_true rfl)) dX2_mostFrom_41 ⟨Nat.le_of_ble_eq_true rfl, Nat.le_of_ble_eq_true rfl⟩) hS (fun r8 u9 H locs p_10 hG hS => ?_)
        rw [show u7.2.1 25 = w.2.1 25 from (by subst hu7; rfl)] at p_10
        rw [show u7.2.1 26 = w.2.1 26 from (by subst hu7; rfl)] at p_10
        obtain ⟨⟨b11, rfl, q_12⟩, he_⟩ := p_10
        rw [he_] at hG; clear he_
        have hbb11 : 0 ≤ b11 ∧ b11 ≤ 1 := by rcases q_12 with ⟨h, _⟩ | ⟨h, _⟩ <;> omega
        refine z_if_eq (tgt := 62) hx hb dX2_mostFrom_44 (by decide) (by omega) (by omega) (fun c_13 => ?_) (fun c_13 => ?_)
        · refine z_iinc (lv' := [(6, .int (zI (k + 1))), (5, .int (zI mo)), (4, .int (zI (bAnd (u.1 18) (bShl ((-1)) p1)))), (0, .ref (ad 7)), (1, .int (zI p1)), (2, .int (zI p2)), (3, .int (zI p3))]) hx hb dX2_mostFrom_62 hl (k := 0) rfl (by decide) rfl (fun ls hl => ?_)
          refine lv_goto (tgt := 24) hx hb dX2_mostFrom_65 (by decide) ?_
          exact ih24 mo (k + 1) u7 _ _ _ (by omega) (by omega) (by exact ⟨0, H9, (by subst hu7; subst hw0; unfold cNp; simp only [sF, sI, up_up]), hr9, (by rw [show (k + 1).toNat = k.toNat + 1 by omega]; exact MGr_skip hgr (fun h => by have := (cGone_i u p2 p3 hk.1 (by omega)).mp h; exfalso; omega)), hmo⟩) hG hS (lv_sub hl [0, 1, 2, 3, 4, 5, 6] rfl)
        · refine lv_aload_n hx hb dX2_mostFrom_47 rfl (lv_at hl 3 rfl) ?_
          refine lv_iload hx hb dX2_mostFrom_48 (lv_at hl 0 rfl) ?_
          refine lv_iload hx hb dX2_mostFrom_50 (lv_at hl 2 rfl) ?_
          refine z_iconst hx hb dX2_mostFrom_52 ?_
          have z19 : u7.1 19 = 0 := by rw [hu7]; rfl
          have z29 : u7.2.1 29 = H9 := by rw [hu7, hw0]; rfl
          have z28 : u7.2.1 28 = u.2.1 28 := by rw [hu7, hw0]; rfl
          have hg1 : cGone u p2 p3 k.toNat = false := (cGone_i u p2 p3 hk.1 (by omega)).mpr (by omega)
          refine g_calli (va_runV (As := [.int (zI k), .int (zI (bAnd (u.1 18) (bShl ((-1)) p1))), .int (zI 0)]) (rest := []) ⟨hx, hb, hml, hown, hts⟩ (kX2_findDay l D cy ad jf A u7 k (bAnd (u.1 18) (bShl ((-1)) p1)) 0 (by omega) (cCan u) p1.toNat (16 - p1.toNat) (cGone u p2 p3) (by omega) (by rw [z28]; exact open_can u j_1.1 j_1.2) (by omega) hg1 (by rw [z29]; exact hr9) (by rw [z29]; exact gr_hgo hgr) (by rw [z29]; exact gr_hij hgr) ⟨[], List.nodup_nil, rfl, (fun e he => absurd he (List.not_mem_nil))⟩ (by rw [z29]; exact gr_hmax hgr (by omega)) rfl) (cwV 3 hts gX2_mostFrom_X2_findDay rfl rfl rfl (by decide +kernel) ⟨by decide, by decide⟩) (g_preV (C := RX2) hG hC hS 7 (by decide) rfl rfl) rfl rfl hl.1 rfl (lv_room (Nat.le_of_ble_eq_true rfl)) dX2_mostFrom_53 ⟨Nat.le_of_ble_eq_true rfl, Nat.le_of_ble_eq_true rfl⟩) hS (fun r14 u15 H locs p_16 hG hS => ?_)
          rw [z19, z29, tb0_F] at p_16
          obtain ⟨b9, rfl, ⟨hb9, T8, H8, hu15, hr8, hfd⟩ | ⟨hb9, T8, hu15, hfl⟩⟩ := p_16
          · subst hb9
            refine z_if_eq (tgt := 62) hx hb dX2_mostFrom_56 (by decide) (by omega) (by omega) (fun c_17 => ?_) (fun c_17 => ?_)
            · exfalso; omega
            · refine z_iinc (lv' := [(5, .int (zI (mo + 1))), (6, .int (zI k)), (4, .int (zI (bAnd (u.1 18) (bShl ((-1)) p1)))), (0, .ref (ad 7)), (1, .int (zI p1)), (2, .int (zI p2)), (3, .int (zI p3))]) hx hb dX2_mostFrom_59 hl (k := 1) rfl (by decide) rfl (fun ls hl => ?_)
              refine z_iinc (lv' := [(6, .int (zI (k + 1))), (5, .int (zI (mo + 1))), (4, .int (zI (bAnd (u.1 18) (bShl ((-1)) p1)))), (0, .ref (ad 7)), (1, .int (zI p1)), (2, .int (zI p2)), (3, .int (zI p3))]) hx hb dX2_mostFrom_62 hl (k := 1) rfl (by decide) rfl (fun ls hl => ?_)
              refine lv_goto (tgt := 24) hx hb dX2_mostFrom_65 (by decide) ?_
              exact ih24 (mo + 1) (k + 1) u15 _ _ _ (by omega) (by omega) (by have hy := MGr_yes hgr hfd; exact ⟨T8, H8, (by subst hu15; subst hu7; subst hw0; unfold cNp; simp only [sF, sI, up_up]), hr8, (by rw [show (k + 1).toNat = k.toNat + 1 by omega]; exact hy.1), (by rw [hy.2]; omega)⟩) hG hS (lv_sub hl [0, 1, 2, 3, 4, 5, 6] rfl)
          · subst hb9
            refine z_if_eq (tgt := 62) hx hb dX2_mostFrom_56 (by decide) (by omega) (by omega) (fun c_18 => ?_) (fun c_18 => ?_)
            · refine z_iinc (lv' := [(6, .int (zI (k + 1))), (5, .int (zI mo)), (4, .int (zI (bAnd (u.1 18) (bShl ((-1)) p1)))), (0, .ref (ad 7)), (1, .int (zI p1)), (2, .int (zI p2)), (3, .int (zI p3))]) hx hb dX2_mostFrom_62 hl (k := 0) rfl (by decide) rfl (fun ls hl => ?_)
              refine lv_goto (tgt := 24) hx hb dX2_mostFrom_65 (by decide) ?_
              exact ih24 mo (k + 1) u15 _ _ _ (by omega) (by omega) (by exact ⟨T8, H9, (by subst hu15; subst hu7; subst hw0; unfold cNp; simp only [sF, sI, up_up]), hr9, (by rw [show (k + 1).toNat = k.toNat + 1 by omega]; exact MGr_no hgr (Y := fun e => tb T8 e = true) (fun e he z => hfl.2.1 e he z id) hfl.2.2), hmo⟩) hG hS (lv_sub hl [0, 1, 2, 3, 4, 5, 6] rfl)
            · exfalso; omega
  exact loop24 _ 0 0 u4 _ _ _ (Nat.lt_succ_self _) (by omega) (by have h9 : ∀ e, mtIn p1.toNat (16 - p1.toNat) e → f9 e = -1 := fun e he => hf9 e (by have := he.2; omega); exact ⟨u.1 19, f9, (by rw [hu4]; unfold cNp; simp only [sI, up_self]), (fun e he => by rw [hf9 e he]; omega), MGr_0 _ _ _ _ h9, (by rw [sz_none h9]; rfl)⟩) hG hS (lv_sub hl [0, 1, 2, 3, 4, 5, 6] rfl)
set_option maxHeartbeats 4000000 in
set_option maxRecDepth 100000 in
theorem kX2_pick (l : Launch) (D : va_G) (cy : Nat → ClassId) (ad : Nat → Nat) (jf : Nat → Int64) (A : Nat → Prop) (u : gS) (p1 p2 p3 : Int) (j_1 : 0 ≤ p1 ∧ p1 ≤ 15) (j_p2 : -2147483648 ≤ p2 ∧ p2 < 2147483648) (j_p3 : -2147483648 ≤ p3 ∧ p3 < 2147483648) (i25 : ∀ j, j < 10 → u.2.1 25 j = 0 ∨ u.2.1 25 j = 1) (i26 : ∀ j, j < 10 → 0 ≤ u.2.1 26 j ∧ u.2.1 26 j ≤ 3) (i27 : ∀ j, j < 10 → 0 ≤ u.2.1 27 j ∧ u.2.1 27 j ≤ 4) : Met l yX2_pick wsX2_pick ({ frames := 12, cells := 0, slots := 0, locals := 351 }) (va_Pc [.ref (ad 7), .int (zI p1), .int (zI p2), .int (zI p3)] (gB D cy ad jf A u)) (va_Qi (fun (r : Int32) (v : gS) => r = zI (cPickN u p1 p2 p3) ∧ ∃ T9 H9, v = cNp u T9 H9) (gB D cy ad jf A) A) 0 0 A := by
  refine Met.ofW (cc := cX2_pick) (maxL := 8) (ret := (some .int)) (by decide) rfl ?_
  intro p e s m args below meth c s₁ B hml hv
  obtain ⟨rfl, hG, hC⟩ := hv
  have hx := B.exec
  have hb := B.bytes
  have hr := B.returns
  have hts := atoms_spec (ws := wsX2_pick) B.pre
  have hown : s.vm.findClass RX2 = some m.cls := findClass_of_methodNamed B.named
  have hlocks := B.notSynchronized
  have hS : va_S A s.heap s.heap [] := va_S.rf
  have hl := lv_entry ([.ref (ad 7), .int (zI p1), .int (zI p2), .int (zI p3)]) (n := 8) (Nat.le_of_ble_eq_true rfl)
  rw [lg_entry_eq]
  generalize (lg_sl ([.ref (ad 7), .int (zI p1), .int (zI p2), .int (zI p3)]) ++ List.replicate (8 - (lg_sl ([.ref (ad 7), .int (zI p1), .int (zI p2), .int (zI p3)])).length) Slot.unset).toArray = ls at hl ⊢
  have hl : lv_has ls 8 [(0, .ref (ad 7)), (1, .int (zI p1)), (2, .int (zI p2)), (3, .int (zI p3))] := hl
  refine lv_aload_n hx hb dX2_pick_0 rfl (lv_at hl 0 rfl) ?_
  refine lv_iload_n hx hb dX2_pick_1 rfl (lv_at hl 1 rfl) ?_
  refine lv_iload_n hx hb dX2_pick_2 rfl (lv_at hl 2 rfl) ?_
  refine lv_iload_n hx hb dX2_pick_3 rfl (lv_at hl 3 rfl) ?_
  refine g_calli (va_runV (As := [.int (zI p1), .int (zI p2), .int (zI p3)]) (rest := []) ⟨hx, hb, hml, hown, hts⟩ (kX2_mostFrom l D cy ad jf A u p1 p2 p3 (by omega) (by omega) (by omega) i25 i26) (cwV 3 hts gX2_pick_X2_mostFrom rfl rfl rfl (by decide +kernel) ⟨by decide, by decide⟩) (g_preV (C := RX2) hG hC hS 7 (by decide) rfl rfl) rfl rfl hl.1 rfl (lv_room (Nat.le_of_ble_eq_true rfl)) dX2_pick_4 ⟨Nat.le_of_ble_eq_true rfl, Nat.le_of_ble_eq_true rfl⟩) hS (fun r1 u2 H locs p_3 hG hS => ?_)
  obtain ⟨rfl, T4, H5, hu2⟩ := p_3
  obtain ⟨z6, hz6⟩ : ∃ z : Int, z = cMost u p1 p2 p3 := ⟨_, rfl⟩
  rw [← hz6]
  have qz6 : 0 ≤ z6 ∧ z6 ≤ 16 := by rw [hz6]; exact cMost_bnd u (by omega) (by omega)
  obtain ⟨most, hmost⟩ : ∃ z : Int, z = z6 := ⟨_, rfl⟩
  rw [← hmost]
  refine lv_istore (lv' := [(4, .int (zI most)), (0, .ref (ad 7)), (1, .int (zI p1)), (2, .int (zI p2)), (3, .int (zI p3))]) hx hb dX2_pick_7 hl (by decide) rfl (fun ls hl => ?_)
  refine z_iconst hx hb dX2_pick_9 ?_
  refine lv_istore (lv' := [(5, .int (zI ((-1)))), (4, .int (zI most)), (0, .ref (ad 7)), (1, .int (zI p1)), (2, .int (zI p2)), (3, .int (zI p3))]) hx hb dX2_pick_10 hl (by decide) rfl (fun ls hl => ?_)
  refine z_iconst hx hb dX2_pick_12 ?_
  refine lv_istore (lv' := [(6, .int (zI 0)), (5, .int (zI ((-1)))), (4, .int (zI most)), (0, .ref (ad 7)), (1, .int (zI p1)), (2, .int (zI p2)), (3, .int (zI p3))]) hx hb dX2_pick_13 hl (by decide) rfl (fun ls hl => ?_)
  have loop15 : ∀ (n : Nat) (wh k : Int) (w : gS) (H : Heap) (locs : List Loc) (ls : Array Slot), (10 - k).toNat < n → (0 ≤ k ∧ k ≤ 10) → (-1 ≤ wh ∧ wh ≤ 9) → (pkL (okD (cCan u) p1.toNat (cGone u p2 p3)) (u.2.1 27) (10 - k.toNat) k.toNat wh = cPickN u p1 p2 p3) → (∃ T9 H9, w = cNp u T9 H9) → gH D cy ad jf A w H → va_S A s.heap H locs → lv_has ls 8 [(6, .int (zI k)), (5, .int (zI wh)), (4, .int (zI most)), (0, .ref (ad 7)), (1, .int (zI p1)), (2, .int (zI p2)), (3, .int (zI p3))] → W p l e (headSpec wsX2_pick ({ frames := 12, cells := 0, slots := 0, locals := 351 })).room s m ([.ref (ad 7), .int (zI p1), .int (zI p2), .int (zI p3)]).toArray below meth c H locs 0 0 (MQ below (va_Qi (fun (r : Int32) (v : gS) => r = zI (cPickN u p1 p2 p3) ∧ ∃ T9 H9, v = cNp u T9 H9) (gB D cy ad jf A) A) ([.ref (ad 7), .int (zI p1), .int (zI p2), .int (zI p3)]).toArray s 0 0 A) (F0 m 15 ls []) := by
    intro n
    induction n with
    | zero => intro wh k w H locs ls hm; exact absurd hm (Nat.not_lt_zero _)
    | succ n ih15 =>
      intro wh k w H locs ls hm hk hwh hT hw hG hS hl
      obtain ⟨T9, H9, hw0⟩ := hw
      have e25 : w.2.1 25 k.toNat = u.2.1 25 k.toNat := by rw [hw0]; rfl
      have e26 : w.2.1 26 k.toNat = u.2.1 26 k.toNat := by rw [hw0]; rfl
      have e28 : w.2.1 28 k.toNat = u.2.1 28 k.toNat := by rw [hw0]; rfl
      have e18 : w.1 18 = u.1 18 := by rw [hw0]; rfl
      have e27 : w.2.1 27 k.toNat = u.2.1 27 k.toNat := by rw [hw0]; rfl
      have f27 : w.2.1 27 wh.toNat = u.2.1 27 wh.toNat := by rw [hw0]; rfl
      have i27w : ∀ j, j < 10 → 0 ≤ w.2.1 27 j ∧ w.2.1 27 j ≤ 4 := by rw [hw0]; exact i27
      have hM : ∀ x : gS, x = cNp u T9 H9 → ∀ a b c, cMost x a b c = cMost u a b c := fun x hx a b c => by rw [hx]; rfl
      have i25 : ∀ j, j < 10 → w.2.1 25 j = 0 ∨ w.2.1 25 j = 1 := by rw [hw0]; exact i25
      have i26 : ∀ j, j < 10 → 0 ≤ w.2.1 26 j ∧ w.2.1 26 j ≤ 3 := by rw [hw0]; exact i26
      refine lv_iload hx hb dX2_pick_15 (lv_at hl 0 rfl) ?_
      refine z_bipush hx hb dX2_pick_17 (by decide) ?_
      refine z_icmp_ge (tgt := 118) hx hb dX2_pick_19 (by decide) (by omega) (by omega) (by omega) (by omega) (fun c_7 => ?_) (fun c_7 => ?_)
      · refine lv_iload hx hb dX2_pick_118 (lv_at hl 1 rfl) ?_
        exact W.iret (v := zI wh) hx hb hr (fun t9 ht9_ hW => ⟨⟨zI wh, w, rfl, (by refine ⟨?_, T9, H9, hw0⟩; rw [← hT, show 10 - k.toNat = 0 by omega]; rfl), gB.mk' hG hC hS ht9_ hW⟩, hS.F ht9_⟩) hS.2.2 dX2_pick_120
      · refine lv_aload_n hx hb dX2_pick_22 rfl (lv_at hl 3 rfl) ?_
        refine lv_iload hx hb dX2_pick_23 (lv_at hl 0 rfl) ?_
        refine lv_iload_n hx hb dX2_pick_25 rfl (lv_at hl 5 rfl) ?_
        refine lv_iload_n hx hb dX2_pick_26 rfl (lv_at hl 6 rfl) ?_
        refine g_calli (va_runV (As := [.int (zI k), .int (zI p2), .int (zI p3)]) (rest := []) ⟨hx, hb, hml, hown, hts⟩ (kX2_isOf l D cy ad jf A w k p2 p3 (by omega) (by omega) (by omega) i25 i26) (cwV 3 hts gX2_pick_X2_isOf rfl rfl rfl (by decide +kernel) ⟨by decide, by decide⟩) (g_preV (C := RX2) hG hC hS 7 (by decide) rfl rfl) rfl rfl hl.1 rfl (lv_room (Nat.le_of_ble_eq_true rfl)) dX2_pick_27 ⟨Nat.le_of_ble_eq_true rfl, Nat.le_of_ble_eq_true rfl⟩) hS (fun r8 u9 H locs p_10 hG hS => ?_)
        obtain ⟨⟨b11, rfl, q_12⟩, he_⟩ := p_10
        rw [he_] at hG; clear he_
        have hbb11 : 0 ≤ b11 ∧ b11 ≤ 1 := by rcases q_12 with ⟨h, _⟩ | ⟨h, _⟩ <;> omega
        refine z_if_eq (tgt := 56) hx hb dX2_pick_30 (by decide) (by omega) (by omega) (fun c_13 => ?_) (fun c_13 => ?_)
        · refine z_iconst hx hb dX2_pick_56 ?_
          refine lv_istore (lv' := [(7, .int (zI 0)), (6, .int (zI k)), (5, .int (zI wh)), (4, .int (zI most)), (0, .ref (ad 7)), (1, .int (zI p1)), (2, .int (zI p2)), (3, .int (zI p3))]) hx hb dX2_pick_57 hl (by decide) rfl (fun ls hl => ?_)
          refine lv_iload hx hb dX2_pick_59 (lv_at hl 0 rfl) ?_
          refine z_if_eq (tgt := 112) hx hb dX2_pick_61 (by decide) (by omega) (by omega) (fun c_14 => ?_) (fun c_14 => ?_)
          · refine z_iinc (lv' := [(6, .int (zI (k + 1))), (7, .int (zI 0)), (5, .int (zI wh)), (4, .int (zI most)), (0, .ref (ad 7)), (1, .int (zI p1)), (2, .int (zI p2)), (3, .int (zI p3))]) hx hb dX2_pick_112 hl (k := 1) rfl (by decide) rfl (fun ls hl => ?_)
            refine lv_goto (tgt := 15) hx hb dX2_pick_115 (by decide) ?_
            exact ih15 wh (k + 1) w _ _ _ (by omega) (by omega) (by omega) (by rw [show (k + 1).toNat = k.toNat + 1 by omega, show 10 - (k.toNat + 1) = 9 - k.toNat by omega]; rw [show 10 - k.toNat = (9 - k.toNat) + 1 by omega] at hT; exact pk_no hT (fun h => by have := okD_iff.mp h.1; have := (cGone_i u p2 p3 hk.1 (by omega)).mp this.1.1; omega)) (by exact ⟨T9, H9, hw0⟩) hG hS (lv_sub hl [0, 2, 3, 4, 5, 6, 7] rfl)
          · exfalso; omega
        · refine lv_aload_n hx hb dX2_pick_33 rfl (lv_at hl 3 rfl) ?_
          refine g_get (C := RX2) (T := TX2) (N := 7) (ci := 1) hx hb hts (fun _ h => (List.mem_cons_of_mem _ (List.mem_append_right _ h))) hown hC.1 hG 7 (by decide) rfl rfl 4 (by decide) (hts (.fieldLink RX2 26 "StraitSwim$Neap" "days" "[I") (List.mem_cons_of_mem _ (List.mem_append_left _ (List.mem_of_getElem? (i := 0) rfl)))) (fun _ h9 => h9) rfl dX2_pick_34 ?_
          refine lv_iload hx hb dX2_pick_37 (lv_at hl 0 rfl) ?_
          refine g_iald (n := 10) hx hb hC.1 hG 28 (by decide) rfl (by omega) (by omega) (by decide) dX2_pick_39 ?_
          refine lv_aload_n hx hb dX2_pick_40 rfl (lv_at hl 3 rfl) ?_
          refine g_get (C := RX2) (T := TX2) (N := 7) (ci := 1) hx hb hts (fun _ h => (List.mem_cons_of_mem _ (List.mem_append_right _ h))) hown hC.1 hG 7 (by decide) rfl rfl 0 (by decide) (hts (.fieldLink RX2 9 "StraitSwim$Neap" "calmDays" "I") (List.mem_cons_of_mem _ (List.mem_append_left _ (List.mem_of_getElem? (i := 1) rfl)))) (fun _ h9 => h9) rfl dX2_pick_41 ?_
          have q_15 := bAnd_bnd (w.2.1 28 k.toNat) (w.1 18)
          refine z_iand hx hb dX2_pick_44 ?_
          refine z_iconst hx hb dX2_pick_45 ?_
          refine lv_iload_n hx hb dX2_pick_46 rfl (lv_at hl 4 rfl) ?_
          have q_16 := bShl_bnd 1 p1
          refine z_ishl hx hb dX2_pick_47 ?_
          have q_17 := bAnd_bnd (bAnd (w.2.1 28 k.toNat) (w.1 18)) (bShl 1 p1)
          refine z_iand hx hb dX2_pick_48 ?_
          refine z_if_eq (tgt := 56) hx hb dX2_pick_49 (by decide) (by omega) (by omega) (fun c_18 => ?_) (fun c_18 => ?_)
          · refine z_iconst hx hb dX2_pick_56 ?_
            refine lv_istore (lv' := [(7, .int (zI 0)), (6, .int (zI k)), (5, .int (zI wh)), (4, .int (zI most)), (0, .ref (ad 7)), (1, .int (zI p1)), (2, .int (zI p2)), (3, .int (zI p3))]) hx hb dX2_pick_57 hl (by decide) rfl (fun ls hl => ?_)
            have hcn : cCan u k.toNat p1.toNat = false := (cCan_i u j_1.1 (by omega)).mp (by rw [← e28, ← e18]; exact c_18)
            refine lv_iload hx hb dX2_pick_59 (lv_at hl 0 rfl) ?_
            refine z_if_eq (tgt := 112) hx hb dX2_pick_61 (by decide) (by omega) (by omega) (fun c_19 => ?_) (fun c_19 => ?_)
            · refine z_iinc (lv' := [(6, .int (zI (k + 1))), (7, .int (zI 0)), (5, .int (zI wh)), (4, .int (zI most)), (0, .ref (ad 7)), (1, .int (zI p1)), (2, .int (zI p2)), (3, .int (zI p3))]) hx hb dX2_pick_112 hl (k := 1) rfl (by decide) rfl (fun ls hl => ?_)
              refine lv_goto (tgt := 15) hx hb dX2_pick_115 (by decide) ?_
              exact ih15 wh (k + 1) w _ _ _ (by omega) (by omega) (by omega) (by rw [show (k + 1).toNat = k.toNat + 1 by omega, show 10 - (k.toNat + 1) = 9 - k.toNat by omega]; rw [show 10 - k.toNat = (9 - k.toNat) + 1 by omega] at hT; exact pk_no hT (fun h => by have := okD_iff.mp h.1; exact absurd this.1.2 (by rw [hcn]; decide))) (by exact ⟨T9, H9, hw0⟩) hG hS (lv_sub hl [0, 2, 3, 4, 5, 6, 7] rfl)
            · exfalso; omega
          · refine z_iconst hx hb dX2_pick_52 ?_
            refine lv_goto (tgt := 57) hx hb dX2_pick_53 (by decide) ?_
            refine lv_istore (lv' := [(7, .int (zI 1)), (6, .int (zI k)), (5, .int (zI wh)), (4, .int (zI most)), (0, .ref (ad 7)), (1, .int (zI p1)), (2, .int (zI p2)), (3, .int (zI p3))]) hx hb dX2_pick_57 hl (by decide) rfl (fun ls hl => ?_)
            have hcn : cCan u k.toNat p1.toNat = true := bT (fun h => c_18 (by rw [e28, e18]; exact (cCan_i u j_1.1 (by omega)).mpr h))
            have hgn : cGone u p2 p3 k.toNat = false := (cGone_i u p2 p3 hk.1 (by omega)).mpr (by omega)
            refine lv_iload hx hb dX2_pick_59 (lv_at hl 0 rfl) ?_
            refine z_if_eq (tgt := 112) hx hb dX2_pick_61 (by decide) (by omega) (by omega) (fun c_20 => ?_) (fun c_20 => ?_)
            · exfalso; omega
            · refine lv_iload hx hb dX2_pick_64 (lv_at hl 2 rfl) ?_
              refine z_iconst hx hb dX2_pick_66 ?_
              refine z_icmp_eq (tgt := 87) hx hb dX2_pick_67 (by decide) (by omega) (by omega) (by omega) (by omega) (fun c_21 => ?_) (fun c_21 => ?_)
              · refine z_iconst hx hb dX2_pick_87 ?_
                refine lv_aload_n hx hb dX2_pick_88 rfl (lv_at hl 4 rfl) ?_
                refine lv_iload_n hx hb dX2_pick_89 rfl (lv_at hl 5 rfl) ?_
                refine z_iconst hx hb dX2_pick_90 ?_
                refine z_iadd hx hb dX2_pick_91 ?_
                refine lv_iload_n hx hb dX2_pick_92 rfl (lv_at hl 6 rfl) ?_
                refine lv_iload_n hx hb dX2_pick_93 rfl (lv_at hl 7 rfl) ?_
                refine z_iconst hx hb dX2_pick_94 ?_
                refine lv_iload hx hb dX2_pick_95 (lv_at hl 1 rfl) ?_
                have q_22 := bShl_bnd 1 k
                refine z_ishl hx hb dX2_pick_97 ?_
                have q_23 := bOr_bnd p3 (bShl 1 k)
                refine z_ior hx hb dX2_pick_98 ?_
                refine g_calli (va_runV (As := [.int (zI (p1 + 1)), .int (zI p2), .int (zI (bOr p3 (bShl 1 k)))]) (rest := [.int (zI 1)]) ⟨hx, hb, hml, hown, hts⟩ (kX2_mostFrom l D cy ad jf A w (p1 + 1) p2 (bOr p3 (bShl 1 k)) (by omega) (by omega) (by omega) i25 i26) (cwV 3 hts gX2_pick_X2_mostFrom rfl rfl rfl (by decide +kernel) ⟨by decide, by decide⟩) (g_preV (C := RX2) hG hC hS 7 (by decide) rfl rfl) rfl rfl hl.1 rfl (lv_room (Nat.le_of_ble_eq_true rfl)) dX2_pick_99 ⟨Nat.le_of_ble_eq_true rfl, Nat.le_of_ble_eq_true rfl⟩) hS (fun r24 u25 H locs p_26 hG hS => ?_)
                obtain ⟨rfl, T27, H28, hu25⟩ := p_26
                obtain ⟨z29, hz29⟩ : ∃ z : Int, z = cMost w (p1 + 1) p2 (bOr p3 (bShl 1 k)) := ⟨_, rfl⟩
                rw [← hz29]
                have qz29 : 0 ≤ z29 ∧ z29 ≤ 16 := by rw [hz29]; exact cMost_bnd w (by omega) (by omega)
                refine z_iadd hx hb dX2_pick_102 ?_
                refine lv_iload hx hb dX2_pick_103 (lv_at hl 3 rfl) ?_
                have hz1 := hz29
                rw [hM w hw0, cMost_1 u p2 p3 j_1.1 j_1.2 hk.1 (by omega)] at hz1
                have hm1 : most = cMost u p1 p2 p3 := by rw [hmost]; exact hz6
                rw [cMost] at hm1
                refine z_icmp_ne (tgt := 112) hx hb dX2_pick_105 (by decide) (by omega) (by omega) (by omega) (by omega) (fun c_30 => ?_) (fun c_30 => ?_)
                · refine z_iinc (lv' := [(6, .int (zI (k + 1))), (7, .int (zI 1)), (5, .int (zI wh)), (4, .int (zI most)), (0, .ref (ad 7)), (1, .int (zI p1)), (2, .int (zI p2)), (3, .int (zI p3))]) hx hb dX2_pick_112 hl (k := 1) rfl (by decide) rfl (fun ls hl => ?_)
                  refine lv_goto (tgt := 15) hx hb dX2_pick_115 (by decide) ?_
                  exact ih15 wh (k + 1) u25 _ _ _ (by omega) (by omega) (by omega) (by rw [show (k + 1).toNat = k.toNat + 1 by omega, show 10 - (k.toNat + 1) = 9 - k.toNat by omega]; rw [show 10 - k.toNat = (9 - k.toNat) + 1 by omega] at hT; exact pk_no hT (fun h => by have := okD_iff.mp h.1; omega)) (by exact ⟨T27, H28, (by rw [hu25, hw0, cNp_cNp])⟩) hG hS (lv_sub hl [0, 2, 3, 4, 5, 6, 7] rfl)
                · have hok : okD (cCan u) p1.toNat (cGone u p2 p3) k.toNat = true := okD_iff.mpr ⟨⟨hgn, hcn⟩, by omega⟩
                  refine lv_iload hx hb dX2_pick_108 (lv_at hl 1 rfl) ?_
                  refine lv_istore (lv' := [(5, .int (zI k)), (7, .int (zI 1)), (6, .int (zI k)), (4, .int (zI most)), (0, .ref (ad 7)), (1, .int (zI p1)), (2, .int (zI p2)), (3, .int (zI p3))]) hx hb dX2_pick_110 hl (by decide) rfl (fun ls hl => ?_)
                  refine z_iinc (lv' := [(6, .int (zI (k + 1))), (5, .int (zI k)), (7, .int (zI 1)), (4, .int (zI most)), (0, .ref (ad 7)), (1, .int (zI p1)), (2, .int (zI p2)), (3, .int (zI p3))]) hx hb dX2_pick_112 hl (k := 2) rfl (by decide) rfl (fun ls hl => ?_)
                  refine lv_goto (tgt := 15) hx hb dX2_pick_115 (by decide) ?_
                  exact ih15 k (k + 1) u25 _ _ _ (by omega) (by omega) (by omega) (by rw [show (k + 1).toNat = k.toNat + 1 by omega, show 10 - (k.toNat + 1) = 9 - k.toNat by omega]; rw [show 10 - k.toNat = (9 - k.toNat) + 1 by omega] at hT; have hy9 := pk_yes hT ⟨hok, (by omega)⟩; rw [show ((k.toNat : Nat) : Int) = k by omega] at hy9; exact hy9) (by exact ⟨T27, H28, (by rw [hu25, hw0, cNp_cNp])⟩) hG hS (lv_sub hl [0, 1, 3, 4, 5, 6, 7] rfl)
              · refine lv_aload_n hx hb dX2_pick_70 rfl (lv_at hl 4 rfl) ?_
                refine g_get (C := RX2) (T := TX2) (N := 7) (ci := 1) hx hb hts (fun _ h => (List.mem_cons_of_mem _ (List.mem_append_right _ h))) hown hC.1 hG 7 (by decide) rfl rfl 3 (by decide) (hts (.fieldLink RX2 23 "StraitSwim$Neap" "slots" "[I") (List.mem_cons_of_mem _ (List.mem_append_left _ (List.mem_of_getElem? (i := 2) rfl)))) (fun _ h9 => h9) rfl dX2_pick_71 ?_
                refine lv_iload hx hb dX2_pick_74 (lv_at hl 1 rfl) ?_
                refine g_iald (n := 10) hx hb hC.1 hG 27 (by decide) rfl (by omega) (by omega) (by decide) dX2_pick_76 ?_
                have q_31 := i27w k.toNat (by omega)
                refine lv_aload_n hx hb dX2_pick_77 rfl (lv_at hl 4 rfl) ?_
                refine g_get (C := RX2) (T := TX2) (N := 7) (ci := 1) hx hb hts (fun _ h => (List.mem_cons_of_mem _ (List.mem_append_right _ h))) hown hC.1 hG 7 (by decide) rfl rfl 3 (by decide) (hts (.fieldLink RX2 23 "StraitSwim$Neap" "slots" "[I") (List.mem_cons_of_mem _ (List.mem_append_left _ (List.mem_of_getElem? (i := 2) rfl)))) (fun _ h9 => h9) rfl dX2_pick_78 ?_
                refine lv_iload hx hb dX2_pick_81 (lv_at hl 2 rfl) ?_
                refine g_iald (n := 10) hx hb hC.1 hG 27 (by decide) rfl (by omega) (by omega) (by decide) dX2_pick_83 ?_
                have q_32 := i27w wh.toNat (by omega)
                refine z_icmp_ge (tgt := 112) hx hb dX2_pick_84 (by decide) (by omega) (by omega) (by omega) (by omega) (fun c_33 => ?_) (fun c_33 => ?_)
                · refine z_iinc (lv' := [(6, .int (zI (k + 1))), (7, .int (zI 1)), (5, .int (zI wh)), (4, .int (zI most)), (0, .ref (ad 7)), (1, .int (zI p1)), (2, .int (zI p2)), (3, .int (zI p3))]) hx hb dX2_pick_112 hl (k := 1) rfl (by decide) rfl (fun ls hl => ?_)
                  refine lv_goto (tgt := 15) hx hb dX2_pick_115 (by decide) ?_
                  exact ih15 wh (k + 1) w _ _ _ (by omega) (by omega) (by omega) (by rw [show (k + 1).toNat = k.toNat + 1 by omega, show 10 - (k.toNat + 1) = 9 - k.toNat by omega]; rw [show 10 - k.toNat = (9 - k.toNat) + 1 by omega] at hT; exact pk_no hT (fun h => by have := okD_iff.mp h.1; omega)) (by exact ⟨T9, H9, hw0⟩) hG hS (lv_sub hl [0, 2, 3, 4, 5, 6, 7] rfl)
                · refine z_iconst hx hb dX2_pick_87 ?_
                  refine lv_aload_n hx hb dX2_pick_88 rfl (lv_at hl 4 rfl) ?_
                  refine lv_iload_n hx hb dX2_pick_89 rfl (lv_at hl 5 rfl) ?_
                  refine z_iconst hx hb dX2_pick_90 ?_
                  refine z_iadd hx hb dX2_pick_91 ?_
                  refine lv_iload_n hx hb dX2_pick_92 rfl (lv_at hl 6 rfl) ?_
                  refine lv_iload_n hx hb dX2_pick_93 rfl (lv_at hl 7 rfl) ?_
                  refine z_iconst hx hb dX2_pick_94 ?_
                  refine lv_iload hx hb dX2_pick_95 (lv_at hl 1 rfl) ?_
                  have q_34 := bShl_bnd 1 k
                  refine z_ishl hx hb dX2_pick_97 ?_
                  have q_35 := bOr_bnd p3 (bShl 1 k)
                  refine z_ior hx hb dX2_pick_98 ?_
                  refine g_calli (va_runV (As := [.int (zI (p1 + 1)), .int (zI p2), .int (zI (bOr p3 (bShl 1 k)))]) (rest := [.int (zI 1)]) ⟨hx, hb, hml, hown, hts⟩ (kX2_mostFrom l D cy ad jf A w (p1 + 1) p2 (bOr p3 (bShl 1 k)) (by omega) (by omega) (by omega) i25 i26) (cwV 3 hts gX2_pick_X2_mostFrom rfl rfl rfl (by decide +kernel) ⟨by decide, by decide⟩) (g_preV (C := RX2) hG hC hS 7 (by decide) rfl rfl) rfl rfl hl.1 rfl (lv_room (Nat.le_of_ble_eq_true rfl)) dX2_pick_99 ⟨Nat.le_of_ble_eq_true rfl, Nat.le_of_ble_eq_true rfl⟩) hS (fun r36 u37 H locs p_38 hG hS => ?_)
                  obtain ⟨rfl, T39, H40, hu37⟩ := p_38
                  obtain ⟨z41, hz41⟩ : ∃ z : Int, z = cMost w (p1 + 1) p2 (bOr p3 (bShl 1 k)) := ⟨_, rfl⟩
                  rw [← hz41]
                  have qz41 : 0 ≤ z41 ∧ z41 ≤ 16 := by rw [hz41]; exact cMost_bnd w (by omega) (by omega)
                  refine z_iadd hx hb dX2_pick_102 ?_
                  refine lv_iload hx hb dX2_pick_103 (lv_at hl 3 rfl) ?_
                  have hz1 := hz41
                  rw [hM w hw0, cMost_1 u p2 p3 j_1.1 j_1.2 hk.1 (by omega)] at hz1
                  have hm1 : most = cMost u p1 p2 p3 := by rw [hmost]; exact hz6
                  rw [cMost] at hm1
                  refine z_icmp_ne (tgt := 112) hx hb dX2_pick_105 (by decide) (by omega) (by omega) (by omega) (by omega) (fun c_42 => ?_) (fun c_42 => ?_)
                  · refine z_iinc (lv' := [(6, .int (zI (k + 1))), (7, .int (zI 1)), (5, .int (zI wh)), (4, .int (zI most)), (0, .ref (ad 7)), (1, .int (zI p1)), (2, .int (zI p2)), (3, .int (zI p3))]) hx hb dX2_pick_112 hl (k := 1) rfl (by decide) rfl (fun ls hl => ?_)
                    refine lv_goto (tgt := 15) hx hb dX2_pick_115 (by decide) ?_
                    exact ih15 wh (k + 1) u37 _ _ _ (by omega) (by omega) (by omega) (by rw [show (k + 1).toNat = k.toNat + 1 by omega, show 10 - (k.toNat + 1) = 9 - k.toNat by omega]; rw [show 10 - k.toNat = (9 - k.toNat) + 1 by omega] at hT; exact pk_no hT (fun h => by have := okD_iff.mp h.1; omega)) (by exact ⟨T39, H40, (by rw [hu37, hw0, cNp_cNp])⟩) hG hS (lv_sub hl [0, 2, 3, 4, 5, 6, 7] rfl)
                  · have hok : okD (cCan u) p1.toNat (cGone u p2 p3) k.toNat = true := okD_iff.mpr ⟨⟨hgn, hcn⟩, by omega⟩
                    refine lv_iload hx hb dX2_pick_108 (lv_at hl 1 rfl) ?_
                    refine lv_istore (lv' := [(5, .int (zI k)), (7, .int (zI 1)), (6, .int (zI k)), (4, .int (zI most)), (0, .ref (ad 7)), (1, .int (zI p1)), (2, .int (zI p2)), (3, .int (zI p3))]) hx hb dX2_pick_110 hl (by decide) rfl (fun ls hl => ?_)
                    refine z_iinc (lv' := [(6, .int (zI (k + 1))), (5, .int (zI k)), (7, .int (zI 1)), (4, .int (zI most)), (0, .ref (ad 7)), (1, .int (zI p1)), (2, .int (zI p2)), (3, .int (zI p3))]) hx hb dX2_pick_112 hl (k := 2) rfl (by decide) rfl (fun ls hl => ?_)
                    refine lv_goto (tgt := 15) hx hb dX2_pick_115 (by decide) ?_
                    exact ih15 k (k + 1) u37 _ _ _ (by omega) (by omega) (by omega) (by rw [show (k + 1).toNat = k.toNat + 1 by omega, show 10 - (k.toNat + 1) = 9 - k.toNat by omega]; rw [show 10 - k.toNat = (9 - k.toNat) + 1 by omega] at hT; have hy9 := pk_yes hT ⟨hok, (by omega)⟩; rw [show ((k.toNat : Nat) : Int) = k by omega] at hy9; exact hy9) (by exact ⟨T39, H40, (by rw [hu37, hw0, cNp_cNp])⟩) hG hS (lv_sub hl [0, 1, 3, 4, 5, 6, 7] rfl)
  exact loop15 _ ((-1)) 0 u2 _ _ _ (Nat.lt_succ_self _) (by omega) (by omega) (by rfl) (by exact ⟨_, _, hu2⟩) hG hS (lv_sub hl [0, 1, 2, 3, 4, 5, 6] rfl)
set_option maxHeartbeats 4000000 in
set_option maxRecDepth 100000 in
theorem kX2_whoGoes (l : Launch) (D : va_G) (cy : Nat → ClassId) (ad : Nat → Nat) (jf : Nat → Int64) (A : Nat → Prop) (u : gS) (p1 p2 : Int) (j_1 : 0 ≤ p1 ∧ p1 ≤ 15) (j_p2 : -2147483648 ≤ p2 ∧ p2 < 2147483648) (i25 : ∀ j, j < 10 → u.2.1 25 j = 0 ∨ u.2.1 25 j = 1) (i26 : ∀ j, j < 10 → 0 ≤ u.2.1 26 j ∧ u.2.1 26 j ≤ 3) (i27 : ∀ j, j < 10 → 0 ≤ u.2.1 27 j ∧ u.2.1 27 j ≤ 4) : Met l yX2_whoGoes wsX2_whoGoes ({ frames := 13, cells := 0, slots := 0, locals := 378 }) (va_Pc [.ref (ad 7), .int (zI p1), .int (zI p2)] (gB D cy ad jf A u)) (va_Qi (fun (r : Int32) (v : gS) => r = zI (cWho u p1 p2) ∧ ∃ T9 H9, v = cNp u T9 H9) (gB D cy ad jf A) A) 0 0 A := by
  refine Met.ofW (cc := cX2_whoGoes) (maxL := 6) (ret := (some .int)) (by decide) rfl ?_
  intro p e s m args below meth c s₁ B hml hv
  obtain ⟨rfl, hG, hC⟩ := hv
  have hx := B.exec
  have hb := B.bytes
  have hr := B.returns
  have hts := atoms_spec (ws := wsX2_whoGoes) B.pre
  have hown : s.vm.findClass RX2 = some m.cls := findClass_of_methodNamed B.named
  have hlocks := B.notSynchronized
  have hS : va_S A s.heap s.heap [] := va_S.rf
  have hl := lv_entry ([.ref (ad 7), .int (zI p1), .int (zI p2)]) (n := 6) (Nat.le_of_ble_eq_true rfl)
  rw [lg_entry_eq]
  generalize (lg_sl ([.ref (ad 7), .int (zI p1), .int (zI p2)]) ++ List.replicate (6 - (lg_sl ([.ref (ad 7), .int (zI p1), .int (zI p2)])).length) Slot.unset).toArray = ls at hl ⊢
  have hl : lv_has ls 6 [(0, .ref (ad 7)), (1, .int (zI p1)), (2, .int (zI p2))] := hl
  refine z_iconst hx hb dX2_whoGoes_0 ?_
  refine lv_istore_n (lv' := [(3, .int (zI 0)), (0, .ref (ad 7)), (1, .int (zI p1)), (2, .int (zI p2))]) hx hb dX2_whoGoes_1 rfl hl (by decide) rfl (fun ls hl => ?_)
  refine z_iconst hx hb dX2_whoGoes_2 ?_
  refine lv_istore (lv' := [(4, .int (zI ((-1)))), (3, .int (zI 0)), (0, .ref (ad 7)), (1, .int (zI p1)), (2, .int (zI p2))]) hx hb dX2_whoGoes_3 hl (by decide) rfl (fun ls hl => ?_)
  refine z_iconst hx hb dX2_whoGoes_5 ?_
  refine lv_istore (lv' := [(5, .int (zI 0)), (4, .int (zI ((-1)))), (3, .int (zI 0)), (0, .ref (ad 7)), (1, .int (zI p1)), (2, .int (zI p2))]) hx hb dX2_whoGoes_6 hl (by decide) rfl (fun ls hl => ?_)
  have loop8 : ∀ (n : Nat) (g wh t : Int) (w : gS) (H : Heap) (locs : List Loc) (ls : Array Slot), (p1 + 1 - t).toNat < n → (0 ≤ t ∧ t ≤ p1 + 1) → (-1 ≤ wh ∧ wh ≤ 9) → (-2147483648 ≤ g ∧ g < 2147483648) → (wgL (cCan u) (u.2.1 27) (p1.toNat + 1 - t.toNat) t.toNat (cGone u p2 g) wh = cWho u p1 p2) → (∃ T9 H9, w = cNp u T9 H9) → gH D cy ad jf A w H → va_S A s.heap H locs → lv_has ls 6 [(5, .int (zI t)), (4, .int (zI wh)), (3, .int (zI g)), (0, .ref (ad 7)), (1, .int (zI p1)), (2, .int (zI p2))] → W p l e (headSpec wsX2_whoGoes ({ frames := 13, cells := 0, slots := 0, locals := 378 })).room s m ([.ref (ad 7), .int (zI p1), .int (zI p2)]).toArray below meth c H locs 0 0 (MQ below (va_Qi (fun (r : Int32) (v : gS) => r = zI (cWho u p1 p2) ∧ ∃ T9 H9, v = cNp u T9 H9) (gB D cy ad jf A) A) ([.ref (ad 7), .int (zI p1), .int (zI p2)]).toArray s 0 0 A) (F0 m 8 ls []) := by
    intro n
    induction n with
    | zero => intro g wh t w H locs ls hm; exact absurd hm (Nat.not_lt_zero _)
    | succ n ih8 =>
      intro g wh t w H locs ls hm ht hwh hg hT hw hG hS hl
      obtain ⟨T9, H9, hw0⟩ := hw
      have i25 : ∀ j, j < 10 → w.2.1 25 j = 0 ∨ w.2.1 25 j = 1 := by rw [hw0]; exact i25
      have i26 : ∀ j, j < 10 → 0 ≤ w.2.1 26 j ∧ w.2.1 26 j ≤ 3 := by rw [hw0]; exact i26
      have i27 : ∀ j, j < 10 → 0 ≤ w.2.1 27 j ∧ w.2.1 27 j ≤ 4 := by rw [hw0]; exact i27
      refine lv_iload hx hb dX2_whoGoes_8 (lv_at hl 0 rfl) ?_
      refine lv_iload_n hx hb dX2_whoGoes_10 rfl (lv_at hl 4 rfl) ?_
      refine z_icmp_gt (tgt := 43) hx hb dX2_whoGoes_11 (by decide) (by omega) (by omega) (by omega) (by omega) (fun c_1 => ?_) (fun c_1 => ?_)
      · refine lv_iload hx hb dX2_whoGoes_43 (lv_at hl 1 rfl) ?_
        exact W.iret (v := zI wh) hx hb hr (fun t9 ht9_ hW => ⟨⟨zI wh, w, rfl, (by refine ⟨?_, T9, H9, hw0⟩; rw [← hT, show p1.toNat + 1 - t.toNat = 0 by omega]; rfl), gB.mk' hG hC hS ht9_ hW⟩, hS.F ht9_⟩) hS.2.2 dX2_whoGoes_45
      · refine lv_aload_n hx hb dX2_whoGoes_14 rfl (lv_at hl 3 rfl) ?_
        refine lv_iload hx hb dX2_whoGoes_15 (lv_at hl 0 rfl) ?_
        refine lv_iload_n hx hb dX2_whoGoes_17 rfl (lv_at hl 5 rfl) ?_
        refine lv_iload_n hx hb dX2_whoGoes_18 rfl (lv_at hl 2 rfl) ?_
        refine g_calli (va_runV (As := [.int (zI t), .int (zI p2), .int (zI g)]) (rest := []) ⟨hx, hb, hml, hown, hts⟩ (kX2_pick l D cy ad jf A w t p2 g (by omega) (by omega) (by omega) i25 i26 i27) (cwV 3 hts gX2_whoGoes_X2_pick rfl rfl rfl (by decide +kernel) ⟨by decide, by decide⟩) (g_preV (C := RX2) hG hC hS 7 (by decide) rfl rfl) rfl rfl hl.1 rfl (lv_room (Nat.le_of_ble_eq_true rfl)) dX2_whoGoes_19 ⟨Nat.le_of_ble_eq_true rfl, Nat.le_of_ble_eq_true rfl⟩) hS (fun r2 u3 H locs p_4 hG hS => ?_)
        obtain ⟨rfl, T5, H6, hu3⟩ := p_4
        obtain ⟨z7, hz7⟩ : ∃ z : Int, z = cPickN w t p2 g := ⟨_, rfl⟩
        rw [← hz7]
        have qz7 : -1 ≤ z7 ∧ z7 ≤ 9 := by rw [hz7]; exact pkv_bnd _ _ _ _
        refine lv_istore (lv' := [(4, .int (zI z7)), (5, .int (zI t)), (3, .int (zI g)), (0, .ref (ad 7)), (1, .int (zI p1)), (2, .int (zI p2))]) hx hb dX2_whoGoes_22 hl (by decide) rfl (fun ls hl => ?_)
        refine lv_iload hx hb dX2_whoGoes_24 (lv_at hl 0 rfl) ?_
        refine z_iconst hx hb dX2_whoGoes_26 ?_
        refine z_icmp_eq (tgt := 37) hx hb dX2_whoGoes_27 (by decide) (by omega) (by omega) (by omega) (by omega) (fun c_8 => ?_) (fun c_8 => ?_)
        · refine z_iinc (lv' := [(5, .int (zI (t + 1))), (4, .int (zI z7)), (3, .int (zI g)), (0, .ref (ad 7)), (1, .int (zI p1)), (2, .int (zI p2))]) hx hb dX2_whoGoes_37 hl (k := 1) rfl (by decide) rfl (fun ls hl => ?_)
          refine lv_goto (tgt := 8) hx hb dX2_whoGoes_40 (by decide) ?_
          exact ih8 g z7 (t + 1) u3 _ _ _ (by omega) (by omega) (by omega) (by omega) (by rw [show (t + 1).toNat = t.toNat + 1 by omega, show p1.toNat + 1 - (t.toNat + 1) = p1.toNat - t.toNat by omega]; rw [show p1.toNat + 1 - t.toNat = (p1.toNat - t.toNat) + 1 by omega] at hT; have hz9 : z7 = pkv (cCan u) (u.2.1 27) t.toNat (cGone u p2 g) := (by rw [hz7, hw0]; first | done | rfl); rw [hz9]; exact wg_no hT (by omega)) (by exact ⟨T5, H6, (by rw [hu3, hw0, cNp_cNp])⟩) hG hS (lv_sub hl [0, 1, 2, 3, 4, 5] rfl)
        · refine lv_iload_n hx hb dX2_whoGoes_30 rfl (lv_at hl 2 rfl) ?_
          refine z_iconst hx hb dX2_whoGoes_31 ?_
          refine lv_iload hx hb dX2_whoGoes_32 (lv_at hl 0 rfl) ?_
          have q_9 := bShl_bnd 1 z7
          refine z_ishl hx hb dX2_whoGoes_34 ?_
          have q_10 := bOr_bnd g (bShl 1 z7)
          refine z_ior hx hb dX2_whoGoes_35 ?_
          refine lv_istore_n (lv' := [(3, .int (zI (bOr g (bShl 1 z7)))), (4, .int (zI z7)), (5, .int (zI t)), (0, .ref (ad 7)), (1, .int (zI p1)), (2, .int (zI p2))]) hx hb dX2_whoGoes_36 rfl hl (by decide) rfl (fun ls hl => ?_)
          refine z_iinc (lv' := [(5, .int (zI (t + 1))), (3, .int (zI (bOr g (bShl 1 z7)))), (4, .int (zI z7)), (0, .ref (ad 7)), (1, .int (zI p1)), (2, .int (zI p2))]) hx hb dX2_whoGoes_37 hl (k := 2) rfl (by decide) rfl (fun ls hl => ?_)
          refine lv_goto (tgt := 8) hx hb dX2_whoGoes_40 (by decide) ?_
          exact ih8 (bOr g (bShl 1 z7)) z7 (t + 1) u3 _ _ _ (by omega) (by omega) (by omega) (by omega) (by rw [show (t + 1).toNat = t.toNat + 1 by omega, show p1.toNat + 1 - (t.toNat + 1) = p1.toNat - t.toNat by omega]; rw [show p1.toNat + 1 - t.toNat = (p1.toNat - t.toNat) + 1 by omega] at hT; have hz9 : z7 = pkv (cCan u) (u.2.1 27) t.toNat (cGone u p2 g) := (by rw [hz7, hw0]; first | done | rfl); rw [cGone_set u p2 g (by omega) (by omega), hz9]; exact wg_yes hT (by omega)) (by exact ⟨T5, H6, (by rw [hu3, hw0, cNp_cNp])⟩) hG hS (lv_sub hl [0, 2, 1, 3, 4, 5] rfl)
  exact loop8 _ 0 ((-1)) 0 u _ _ _ (Nat.lt_succ_self _) (by omega) (by omega) (by omega) (by rfl) (by exact ⟨u.1 19, u.2.1 29, (cNp_self u).symm⟩) hG hS (lv_sub hl [0, 1, 2, 3, 4, 5] rfl)
set_option maxHeartbeats 4000000 in
set_option maxRecDepth 100000 in
theorem kX11_goes (l : Launch) (D : va_G) (cy : Nat → ClassId) (ad : Nat → Nat) (jf : Nat → Int64) (A : Nat → Prop) (u : gS) (p1 p2 : Int) (j_p1 : -2147483648 ≤ p1 ∧ p1 < 2147483648) (j_p2 : -2147483648 ≤ p2 ∧ p2 < 2147483648) (i25 : ∀ j, j < 10 → u.2.1 25 j = 0 ∨ u.2.1 25 j = 1) (i26 : ∀ j, j < 10 → 0 ≤ u.2.1 26 j ∧ u.2.1 26 j ≤ 3) (i27 : ∀ j, j < 10 → 0 ≤ u.2.1 27 j ∧ u.2.1 27 j ≤ 4) : Met l yX11_goes wsX11_goes ({ frames := 14, cells := 0, slots := 0, locals := 403 }) (va_Pc [.ref (ad 0), .int (zI p1), .int (zI p2)] (gB D cy ad jf A u)) (va_Qi (fun (r : Int32) (v : gS) => r = zI (cGoes u p1 p2) ∧ ∃ T9 H9, v = cNp u T9 H9) (gB D cy ad jf A) A) 0 0 A := by
  refine Met.ofW (cc := cX11_goes) (maxL := 4) (ret := (some .int)) (by decide) rfl ?_
  intro p e s m args below meth c s₁ B hml hv
  obtain ⟨rfl, hG, hC⟩ := hv
  have hx := B.exec
  have hb := B.bytes
  have hr := B.returns
  have hts := atoms_spec (ws := wsX11_goes) B.pre
  have hown : s.vm.findClass RX11 = some m.cls := findClass_of_methodNamed B.named
  have hlocks := B.notSynchronized
  have hS : va_S A s.heap s.heap [] := va_S.rf
  have hl := lv_entry ([.ref (ad 0), .int (zI p1), .int (zI p2)]) (n := 4) (Nat.le_of_ble_eq_true rfl)
  rw [lg_entry_eq]
  generalize (lg_sl ([.ref (ad 0), .int (zI p1), .int (zI p2)]) ++ List.replicate (4 - (lg_sl ([.ref (ad 0), .int (zI p1), .int (zI p2)])).length) Slot.unset).toArray = ls at hl ⊢
  have hl : lv_has ls 4 [(0, .ref (ad 0)), (1, .int (zI p1)), (2, .int (zI p2))] := hl
  refine lv_iload_n hx hb dX11_goes_0 rfl (lv_at hl 1 rfl) ?_
  refine z_iconst hx hb dX11_goes_1 ?_
  refine z_bipush hx hb dX11_goes_2 (by decide) ?_
  refine g_calli (va_runS (As := [.int (zI p1), .int (zI 0), .int (zI 15)]) (rest := []) ⟨hx, hb, hml, hown, hts⟩ (kX11_isWithin l D cy ad jf A u p1 0 15 (by omega) (by omega) (by omega)) (va_cwS 3 hts gX11_goes_X11_isWithin rfl rfl rfl (by decide +kernel) ⟨by decide, by decide⟩) (g_preS hG hC hS) rfl rfl hl.1 rfl (lv_room (Nat.le_of_ble_eq_true rfl)) dX11_goes_4 ⟨Nat.le_of_ble_eq_true rfl, Nat.le_of_ble_eq_true rfl⟩) hS (fun r1 u2 H locs p_3 hG hS => ?_)
  obtain ⟨⟨b4, rfl, q_5⟩, he_⟩ := p_3
  rw [he_] at hG; clear he_
  have hbb4 : 0 ≤ b4 ∧ b4 ≤ 1 := by rcases q_5 with ⟨h, _⟩ | ⟨h, _⟩ <;> omega
  refine z_if_eq (tgt := 19) hx hb dX11_goes_7 (by decide) (by omega) (by omega) (fun c_6 => ?_) (fun c_6 => ?_)
  · refine z_iconst hx hb dX11_goes_19 ?_
    exact W.iret (v := zI ((-1))) hx hb hr (fun t9 ht9_ hW => ⟨⟨zI ((-1)), u, rfl, (by refine ⟨?_, _, _, (cNp_self u).symm⟩; unfold cGoes; rw [if_neg (by omega)]), gB.mk' hG hC hS ht9_ hW⟩, hS.F ht9_⟩) hS.2.2 dX11_goes_20
  · refine lv_iload_n hx hb dX11_goes_10 rfl (lv_at hl 2 rfl) ?_
    refine z_iconst hx hb dX11_goes_11 ?_
    refine z_iconst hx hb dX11_goes_12 ?_
    refine g_calli (va_runS (As := [.int (zI p2), .int (zI 0), .int (zI 3)]) (rest := []) ⟨hx, hb, hml, hown, hts⟩ (kX11_isWithin l D cy ad jf A u p2 0 3 (by omega) (by omega) (by omega)) (va_cwS 3 hts gX11_goes_X11_isWithin rfl rfl rfl (by decide +kernel) ⟨by decide, by decide⟩) (g_preS hG hC hS) rfl rfl hl.1 rfl (lv_room (Nat.le_of_ble_eq_true rfl)) dX11_goes_13 ⟨Nat.le_of_ble_eq_true rfl, Nat.le_of_ble_eq_true rfl⟩) hS (fun r7 u8 H locs p_9 hG hS => ?_)
    obtain ⟨⟨b10, rfl, q_11⟩, he_⟩ := p_9
    rw [he_] at hG; clear he_
    have hbb10 : 0 ≤ b10 ∧ b10 ≤ 1 := by rcases q_11 with ⟨h, _⟩ | ⟨h, _⟩ <;> omega
    refine z_if_ne (tgt := 21) hx hb dX11_goes_16 (by decide) (by omega) (by omega) (fun c_12 => ?_) (fun c_12 => ?_)
    · refine lv_aload_n hx hb dX11_goes_21 rfl (lv_at hl 0 rfl) ?_
      refine g_get (C := RX11) (T := TX11) (N := 14) (ci := 10) hx hb hts (fun _ h => (List.mem_cons_of_mem _ (List.mem_append_left _ (List.mem_append_right _ h)))) hown hC.1 hG 0 (by decide) rfl rfl 12 (by decide) (hts (.fieldLink RX11 69 "StraitSwim" "neap" "LStraitSwim$Neap;") (List.mem_cons_of_mem _ (List.mem_append_left _ (List.mem_append_left _ (List.mem_append_left _ (List.mem_of_getElem? (i := 0) rfl)))))) (fun _ h9 => h9) rfl dX11_goes_22 ?_
      refine lv_iload_n hx hb dX11_goes_25 rfl (lv_at hl 1 rfl) ?_
      refine lv_iload_n hx hb dX11_goes_26 rfl (lv_at hl 2 rfl) ?_
      refine g_calli (va_runV (As := [.int (zI p1), .int (zI p2)]) (rest := []) ⟨hx, hb, hml, hown, hts⟩ (kX2_whoGoes l D cy ad jf A u p1 p2 (by omega) (by omega) i25 i26 i27) (cwV 2 hts gX11_goes_X2_whoGoes rfl rfl rfl (by decide +kernel) ⟨by decide, by decide⟩) (g_preV (C := RX2) hG hC hS 7 (by decide) rfl rfl) rfl rfl hl.1 rfl (lv_room (Nat.le_of_ble_eq_true rfl)) dX11_goes_27 ⟨Nat.le_of_ble_eq_true rfl, Nat.le_of_ble_eq_true rfl⟩) hS (fun r13 u14 H locs p_15 hG hS => ?_)
      obtain ⟨rfl, T9, H9, hu14⟩ := p_15
      obtain ⟨z16, hz16⟩ : ∃ z : Int, z = cWho u p1 p2 := ⟨_, rfl⟩
      rw [← hz16]
      have qz16 : -1 ≤ z16 ∧ z16 ≤ 9 := by rw [hz16]; exact wgL_bnd _ _ _ _ _ _ (by decide) (by decide)
      refine lv_istore_n (lv' := [(3, .int (zI z16)), (0, .ref (ad 0)), (1, .int (zI p1)), (2, .int (zI p2))]) hx hb dX11_goes_30 rfl hl (by decide) rfl (fun ls hl => ?_)
      refine lv_iload_n hx hb dX11_goes_31 rfl (lv_at hl 0 rfl) ?_
      refine z_iconst hx hb dX11_goes_32 ?_
      refine z_icmp_ne (tgt := 41) hx hb dX11_goes_33 (by decide) (by omega) (by omega) (by omega) (by omega) (fun c_17 => ?_) (fun c_17 => ?_)
      · refine lv_iload_n hx hb dX11_goes_41 rfl (lv_at hl 0 rfl) ?_
        exact W.iret (v := zI z16) hx hb hr (fun t9 ht9_ hW => ⟨⟨zI z16, u14, rfl, (by refine ⟨?_, T9, H9, hu14⟩; unfold cGoes; rw [if_pos (by omega), ← hz16]; (first | (rw [if_pos (by omega)]) | (rw [if_neg (by omega)]))), gB.mk' hG hC hS ht9_ hW⟩, hS.F ht9_⟩) hS.2.2 dX11_goes_42
      · refine z_bipush hx hb dX11_goes_36 (by decide) ?_
        refine lv_goto (tgt := 42) hx hb dX11_goes_38 (by decide) ?_
        exact W.iret (v := zI ((-2))) hx hb hr (fun t9 ht9_ hW => ⟨⟨zI ((-2)), u14, rfl, (by refine ⟨?_, T9, H9, hu14⟩; unfold cGoes; rw [if_pos (by omega), ← hz16]; (first | (rw [if_pos (by omega)]) | (rw [if_neg (by omega)]))), gB.mk' hG hC hS ht9_ hW⟩, hS.F ht9_⟩) hS.2.2 dX11_goes_42
    · refine z_iconst hx hb dX11_goes_19 ?_
      exact W.iret (v := zI ((-1))) hx hb hr (fun t9 ht9_ hW => ⟨⟨zI ((-1)), u, rfl, (by refine ⟨?_, _, _, (cNp_self u).symm⟩; unfold cGoes; rw [if_neg (by omega)]), gB.mk' hG hC hS ht9_ hW⟩, hS.F ht9_⟩) hS.2.2 dX11_goes_20
set_option maxHeartbeats 4000000 in
set_option maxRecDepth 100000 in
theorem kX11_done (l : Launch) (D : va_G) (cy : Nat → ClassId) (ad : Nat → Nat) (jf : Nat → Int64) (A : Nat → Prop) (u : gS) (i25 : ∀ j, j < 10 → u.2.1 25 j = 0 ∨ u.2.1 25 j = 1) (i26 : ∀ j, j < 10 → 0 ≤ u.2.1 26 j ∧ u.2.1 26 j ≤ 3) : Met l yX11_done wsX11_done ({ frames := 12, cells := 0, slots := 0, locals := 351 }) (va_Pc [.ref (ad 0)] (gB D cy ad jf A u)) (va_Qi (fun (r : Int32) (v : gS) => r = zI (cDone u) ∧ ∃ T9 H9, v = cNp u T9 H9) (gB D cy ad jf A) A) 0 0 A := by
  refine Met.ofW (cc := cX11_done) (maxL := 3) (ret := (some .int)) (by decide) rfl ?_
  intro p e s m args below meth c s₁ B hml hv
  obtain ⟨rfl, hG, hC⟩ := hv
  have hx := B.exec
  have hb := B.bytes
  have hr := B.returns
  have hts := atoms_spec (ws := wsX11_done) B.pre
  have hown : s.vm.findClass RX11 = some m.cls := findClass_of_methodNamed B.named
  have hlocks := B.notSynchronized
  have hS : va_S A s.heap s.heap [] := va_S.rf
  have hl := lv_entry ([.ref (ad 0)]) (n := 3) (Nat.le_of_ble_eq_true rfl)
  rw [lg_entry_eq]
  generalize (lg_sl ([.ref (ad 0)]) ++ List.replicate (3 - (lg_sl ([.ref (ad 0)])).length) Slot.unset).toArray = ls at hl ⊢
  have hl : lv_has ls 3 [(0, .ref (ad 0))] := hl
  refine z_iconst hx hb dX11_done_0 ?_
  refine lv_istore_n (lv' := [(1, .int (zI 0)), (0, .ref (ad 0))]) hx hb dX11_done_1 rfl hl (by decide) rfl (fun ls hl => ?_)
  refine z_iconst hx hb dX11_done_2 ?_
  refine lv_istore_n (lv' := [(2, .int (zI 0)), (1, .int (zI 0)), (0, .ref (ad 0))]) hx hb dX11_done_3 rfl hl (by decide) rfl (fun ls hl => ?_)
  have loop4 : ∀ (n : Nat) (mo t : Int) (w : gS) (H : Heap) (locs : List Loc) (ls : Array Slot), (4 - t).toNat < n → (0 ≤ t ∧ t ≤ 4) → (0 ≤ mo ∧ mo ≤ 16 * t) → (mo = cDoneL u t.toNat) → (∃ T9 H9, w = cNp u T9 H9) → gH D cy ad jf A w H → va_S A s.heap H locs → lv_has ls 3 [(2, .int (zI t)), (1, .int (zI mo)), (0, .ref (ad 0))] → W p l e (headSpec wsX11_done ({ frames := 12, cells := 0, slots := 0, locals := 351 })).room s m ([.ref (ad 0)]).toArray below meth c H locs 0 0 (MQ below (va_Qi (fun (r : Int32) (v : gS) => r = zI (cDone u) ∧ ∃ T9 H9, v = cNp u T9 H9) (gB D cy ad jf A) A) ([.ref (ad 0)]).toArray s 0 0 A) (F0 m 4 ls []) := by
    intro n
    induction n with
    | zero => intro mo t w H locs ls hm; exact absurd hm (Nat.not_lt_zero _)
    | succ n ih4 =>
      intro mo t w H locs ls hm ht hm0 hmo hw hG hS hl
      obtain ⟨T9, H9, hw0⟩ := hw
      have i25 : ∀ j, j < 10 → w.2.1 25 j = 0 ∨ w.2.1 25 j = 1 := by rw [hw0]; exact i25
      have i26 : ∀ j, j < 10 → 0 ≤ w.2.1 26 j ∧ w.2.1 26 j ≤ 3 := by rw [hw0]; exact i26
      refine lv_iload_n hx hb dX11_done_4 rfl (lv_at hl 0 rfl) ?_
      refine z_iconst hx hb dX11_done_5 ?_
      refine z_icmp_ge (tgt := 28) hx hb dX11_done_6 (by decide) (by omega) (by omega) (by omega) (by omega) (fun c_1 => ?_) (fun c_1 => ?_)
      · refine lv_iload_n hx hb dX11_done_28 rfl (lv_at hl 1 rfl) ?_
        exact W.iret (v := zI mo) hx hb hr (fun t9 ht9_ hW => ⟨⟨zI mo, w, rfl, (by refine ⟨?_, T9, H9, hw0⟩; rw [hmo, show t.toNat = 4 by omega]; rfl), gB.mk' hG hC hS ht9_ hW⟩, hS.F ht9_⟩) hS.2.2 dX11_done_29
      · refine lv_iload_n hx hb dX11_done_9 rfl (lv_at hl 1 rfl) ?_
        refine lv_aload_n hx hb dX11_done_10 rfl (lv_at hl 2 rfl) ?_
        refine g_get (C := RX11) (T := TX11) (N := 14) (ci := 10) hx hb hts (fun _ h => (List.mem_cons_of_mem _ (List.mem_append_left _ (List.mem_append_right _ h)))) hown hC.1 hG 0 (by decide) rfl rfl 12 (by decide) (hts (.fieldLink RX11 69 "StraitSwim" "neap" "LStraitSwim$Neap;") (List.mem_cons_of_mem _ (List.mem_append_left _ (List.mem_append_left _ (List.mem_of_getElem? (i := 0) rfl))))) (fun _ h9 => h9) rfl dX11_done_11 ?_
        refine z_iconst hx hb dX11_done_14 ?_
        refine lv_iload_n hx hb dX11_done_15 rfl (lv_at hl 0 rfl) ?_
        refine z_iconst hx hb dX11_done_16 ?_
        refine g_calli (va_runV (As := [.int (zI 0), .int (zI t), .int (zI 0)]) (rest := [.int (zI mo)]) ⟨hx, hb, hml, hown, hts⟩ (kX2_mostFrom l D cy ad jf A w 0 t 0 (by omega) (by omega) (by omega) i25 i26) (cwV 3 hts gX11_done_X2_mostFrom rfl rfl rfl (by decide +kernel) ⟨by decide, by decide⟩) (g_preV (C := RX2) hG hC hS 7 (by decide) rfl rfl) rfl rfl hl.1 rfl (lv_room (Nat.le_of_ble_eq_true rfl)) dX11_done_17 ⟨Nat.le_of_ble_eq_true rfl, Nat.le_of_ble_eq_true rfl⟩) hS (fun r2 u3 H locs p_4 hG hS => ?_)
        obtain ⟨rfl, T5, H6, hu3⟩ := p_4
        obtain ⟨z7, hz7⟩ : ∃ z : Int, z = cMost w 0 t 0 := ⟨_, rfl⟩
        rw [← hz7]
        have qz7 : 0 ≤ z7 ∧ z7 ≤ 16 := by rw [hz7]; exact cMost_bnd w (by omega) (by omega)
        refine z_iadd hx hb dX11_done_20 ?_
        refine lv_istore_n (lv' := [(1, .int (zI (mo + z7))), (2, .int (zI t)), (0, .ref (ad 0))]) hx hb dX11_done_21 rfl hl (by decide) rfl (fun ls hl => ?_)
        refine z_iinc (lv' := [(2, .int (zI (t + 1))), (1, .int (zI (mo + z7))), (0, .ref (ad 0))]) hx hb dX11_done_22 hl (k := 1) rfl (by decide) rfl (fun ls hl => ?_)
        refine lv_goto (tgt := 4) hx hb dX11_done_25 (by decide) ?_
        exact ih4 (mo + z7) (t + 1) u3 _ _ _ (by omega) (by omega) (by omega) (by rw [show (t + 1).toNat = t.toNat + 1 by omega]; show _ = cDoneL u t.toNat + cMost u 0 (t.toNat : Int) 0; rw [show ((t.toNat : Nat) : Int) = t by omega, ← hmo, hz7, hw0]; first | done | rfl) (by exact ⟨T5, H6, (by rw [hu3, hw0, cNp_cNp])⟩) hG hS (lv_sub hl [0, 1, 2] rfl)
  exact loop4 _ 0 0 u _ _ _ (Nat.lt_succ_self _) (by omega) (by omega) (by rfl) (by exact ⟨u.1 19, u.2.1 29, (cNp_self u).symm⟩) hG hS (lv_sub hl [0, 1, 2] rfl)
