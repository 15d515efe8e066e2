set_option maxHeartbeats 4000000 in
set_option maxRecDepth 100000 in
theorem kX12_mostFrom (l : Launch) (D : va_G) (cy : Nat → ClassId) (ad : Nat → Nat) (jf : Nat → Int64) (A : Nat → Prop) (u : gS) (p1 p2 : Int) (j_p1 : -2147483648 ≤ p1 ∧ p1 < 2147483648) (j_2 : 0 ≤ p2 ∧ p2 ≤ 16) (i23 : 0 ≤ u.1 23 ∧ u.1 23 ≤ 10) (i49 : ∀ j, j < 16 → u.2.1 49 j = 0 ∨ u.2.1 49 j = 1) (i50 : ∀ j, j < 10 → 0 ≤ u.2.1 50 j ∧ u.2.1 50 j ≤ 3) (i51 : ∀ j, j < 10 → 0 ≤ u.2.1 51 j ∧ u.2.1 51 j ≤ 4) (i54 : ∀ j, j < 10 → u.2.1 54 j = 0 ∨ u.2.1 54 j = 1) (z51 : ∀ j : Nat, u.1 23 ≤ (j : Int) → j < 10 → u.2.1 51 j = 0) (i53 : ∀ j, j < 16 → -1 ≤ u.2.1 53 j ∧ u.2.1 53 j ≤ 9) : Met l yX12_mostFrom wsX12_mostFrom ({ frames := 2, cells := 0, slots := 0, locals := 54 }) (va_Pc [.ref (ad 8), .int (zI p1), .int (zI p2)] (gB D cy ad jf A u)) (va_Qi (fun (r : Int32) (v : gS) => r = zI (mMost u p1 p2) ∧ ∃ H9 A9 B9 C9, v = mNp u H9 A9 B9 C9 ∧ ∀ e, e < 16 → -1 ≤ H9 e ∧ H9 e ≤ 9) (gB D cy ad jf A) A) 0 0 A := by
  refine Met.ofW (cc := cX12_mostFrom) (maxL := 5) (ret := (some .int)) (by decide) rfl ?_
  intro p e s m args below meth c s₁ B hml hv
  obtain ⟨rfl, hG, hC⟩ := hv
  have hx := B.exec
  have hb := B.bytes
  have hr := B.returns
  have hts := atoms_spec (ws := wsX12_mostFrom) B.pre
  have hown : s.vm.findClass RX12 = some m.cls := findClass_of_methodNamed B.named
  have hlocks := B.notSynchronized
  have hS : va_S A s.heap s.heap [] := va_S.rf
  have hl := lv_entry ([.ref (ad 8), .int (zI p1), .int (zI p2)]) (n := 5) (Nat.le_of_ble_eq_true rfl)
  rw [lg_entry_eq]
  generalize (lg_sl ([.ref (ad 8), .int (zI p1), .int (zI p2)]) ++ List.replicate (5 - (lg_sl ([.ref (ad 8), .int (zI p1), .int (zI p2)])).length) Slot.unset).toArray = ls at hl ⊢
  have hl : lv_has ls 5 [(0, .ref (ad 8)), (1, .int (zI p1)), (2, .int (zI p2))] := hl
  have z51u := z51
  refine lv_iload_n hx hb dX12_mostFrom_0 rfl (lv_at hl 2 rfl) ?_
  refine lv_istore_n (lv' := [(3, .int (zI p2)), (0, .ref (ad 8)), (1, .int (zI p1)), (2, .int (zI p2))]) hx hb dX12_mostFrom_1 rfl hl (by decide) rfl (fun ls hl => ?_)
  have loop2 : ∀ (n : Nat) (t : Int) (w : gS) (H : Heap) (locs : List Loc) (ls : Array Slot), (16 - t).toNat < n → (p2 ≤ t ∧ t ≤ 16) → (∃ f : Nat → Int, w = sF u 53 f ∧ (∀ e, e < 16 → -1 ≤ f e ∧ f e ≤ 9) ∧ ∀ j : Nat, p2 ≤ (j : Int) → (j : Int) < t → f j = -1) → gH D cy ad jf A w H → va_S A s.heap H locs → lv_has ls 5 [(3, .int (zI t)), (0, .ref (ad 8)), (1, .int (zI p1)), (2, .int (zI p2))] → W p l e (headSpec wsX12_mostFrom ({ frames := 2, cells := 0, slots := 0, locals := 54 })).room s m ([.ref (ad 8), .int (zI p1), .int (zI p2)]).toArray below meth c H locs 0 0 (MQ below (va_Qi (fun (r : Int32) (v : gS) => r = zI (mMost u p1 p2) ∧ ∃ H9 A9 B9 C9, v = mNp u H9 A9 B9 C9 ∧ ∀ e, e < 16 → -1 ≤ H9 e ∧ H9 e ≤ 9) (gB D cy ad jf A) A) ([.ref (ad 8), .int (zI p1), .int (zI p2)]).toArray s 0 0 A) (F0 m 2 ls []) := by
    intro n
    induction n with
    | zero => intro t w H locs ls hm2; exact absurd hm2 (Nat.not_lt_zero _)
    | succ n ih2 =>
      intro t w H locs ls hm2 ht hw hG hS hl
      obtain ⟨f, hw0, hf1, hf⟩ := hw
      refine lv_iload_n hx hb dX12_mostFrom_2 rfl (lv_at hl 0 rfl) ?_
      refine z_bipush hx hb dX12_mostFrom_3 (by decide) ?_
      refine z_icmp_ge (tgt := 21) hx hb dX12_mostFrom_5 (by decide) (by omega) (by omega) (by omega) (by omega) (fun c_1 => ?_) (fun c_1 => ?_)
      · refine z_iconst hx hb dX12_mostFrom_21 ?_
        refine lv_istore_n (lv' := [(3, .int (zI 0)), (0, .ref (ad 8)), (1, .int (zI p1)), (2, .int (zI p2))]) hx hb dX12_mostFrom_22 rfl hl (by decide) rfl (fun ls hl => ?_)
        refine z_iconst hx hb dX12_mostFrom_23 ?_
        refine lv_istore (lv' := [(4, .int (zI 0)), (3, .int (zI 0)), (0, .ref (ad 8)), (1, .int (zI p1)), (2, .int (zI p2))]) hx hb dX12_mostFrom_24 hl (by decide) rfl (fun ls hl => ?_)
        have loop26 : ∀ (n : Nat) (mo k : Int) (x : gS) (H : Heap) (locs : List Loc) (ls : Array Slot), (10 - k).toNat < n → (0 ≤ k ∧ k ≤ u.1 23) → (∃ H9 A9 B9 C9, x = mNp u H9 A9 B9 C9 ∧ (∀ e, e < 16 → -1 ≤ H9 e ∧ H9 e ≤ 9) ∧ MGr (mCan u) p2.toNat (16 - p2.toNat) (mGone u p1) k.toNat H9 ∧ mo = (sz H9 p2.toNat (16 - p2.toNat) : Nat)) → gH D cy ad jf A x H → va_S A s.heap H locs → lv_has ls 5 [(4, .int (zI k)), (3, .int (zI mo)), (0, .ref (ad 8)), (1, .int (zI p1)), (2, .int (zI p2))] → W p l e (headSpec wsX12_mostFrom ({ frames := 2, cells := 0, slots := 0, locals := 54 })).room s m ([.ref (ad 8), .int (zI p1), .int (zI p2)]).toArray below meth c H locs 0 0 (MQ below (va_Qi (fun (r : Int32) (v : gS) => r = zI (mMost u p1 p2) ∧ ∃ H9 A9 B9 C9, v = mNp u H9 A9 B9 C9 ∧ ∀ e, e < 16 → -1 ≤ H9 e ∧ H9 e ≤ 9) (gB D cy ad jf A) A) ([.ref (ad 8), .int (zI p1), .int (zI p2)]).toArray s 0 0 A) (F0 m 26 ls []) := by
          intro n
          induction n with
          | zero => intro mo k x H locs ls hm26; exact absurd hm26 (Nat.not_lt_zero _)
          | succ n ih26 =>
            intro mo k x H locs ls hm26 hk hxx hG hS hl
            obtain ⟨H9, A9, B9, C9, hx0, hr9, hgr, hmo⟩ := hxx
            have e23 : x.1 23 = u.1 23 := by rw [hx0]; rfl
            have e54 : x.2.1 54 k.toNat = u.2.1 54 k.toNat := by rw [hx0]; rfl
            have e51 : x.2.1 51 k.toNat = u.2.1 51 k.toNat := by rw [hx0]; rfl
            have e50 : x.2.1 50 k.toNat = u.2.1 50 k.toNat := by rw [hx0]; rfl
            have i54 : ∀ j, j < 10 → x.2.1 54 j = 0 ∨ x.2.1 54 j = 1 := by rw [hx0]; exact i54
            have i23 : 0 ≤ x.1 23 ∧ x.1 23 ≤ 10 := by rw [hx0]; exact i23
            have i49 : ∀ j, j < 16 → x.2.1 49 j = 0 ∨ x.2.1 49 j = 1 := by rw [hx0]; exact i49
            have i50 : ∀ j, j < 10 → 0 ≤ x.2.1 50 j ∧ x.2.1 50 j ≤ 3 := by rw [hx0]; exact i50
            have i51 : ∀ j, j < 10 → 0 ≤ x.2.1 51 j ∧ x.2.1 51 j ≤ 4 := by rw [hx0]; exact i51
            have z51 : ∀ j : Nat, x.1 23 ≤ (j : Int) → j < 10 → x.2.1 51 j = 0 := by rw [hx0]; exact z51
            refine lv_iload hx hb dX12_mostFrom_26 (lv_at hl 0 rfl) ?_
            refine lv_aload_n hx hb dX12_mostFrom_28 rfl (lv_at hl 2 rfl) ?_
            refine g_get (C := RX12) (T := TX12) (N := 42) (ci := 11) hx hb hts (fun _ h => (List.mem_cons_of_mem _ (List.mem_append_right _ h))) hown hC.1 hG 8 (by decide) rfl rfl 6 (by decide) (hts (.fieldLink RX12 138 "StraitSwimModel" "swimmers" "I") (List.mem_cons_of_mem _ (List.mem_append_left _ (List.mem_of_getElem? (i := 1) rfl)))) (fun _ h9 => h9) rfl dX12_mostFrom_29 ?_
            refine z_icmp_ge (tgt := 86) hx hb dX12_mostFrom_32 (by decide) (by omega) (by omega) (by omega) (by omega) (fun c_2 => ?_) (fun c_2 => ?_)
            · refine lv_iload_n hx hb dX12_mostFrom_86 rfl (lv_at hl 1 rfl) ?_
              exact W.iret (v := zI mo) hx hb hr (fun t9 ht9_ hW => ⟨⟨zI mo, x, rfl, (by refine ⟨?_, H9, A9, B9, C9, hx0, hr9⟩; congr 1; unfold mMost; rw [hmo, MGr_end hgr (fun s h1 h2 h3 => by have h4 := (mGone_i u p1 s).mp h3; have h5 := z51u s (by omega) h2; exfalso; omega)]), gB.mk' hG hC hS ht9_ hW⟩, hS.F ht9_⟩) hS.2.2 dX12_mostFrom_87
            · refine lv_aload_n hx hb dX12_mostFrom_35 rfl (lv_at hl 2 rfl) ?_
              refine g_get (C := RX12) (T := TX12) (N := 42) (ci := 11) hx hb hts (fun _ h => (List.mem_cons_of_mem _ (List.mem_append_right _ h))) hown hC.1 hG 8 (by decide) rfl rfl 32 (by decide) (hts (.fieldLink RX12 90 "StraitSwimModel" "fixed" "[Z") (List.mem_cons_of_mem _ (List.mem_append_left _ (List.mem_of_getElem? (i := 2) rfl)))) (fun _ h9 => h9) rfl dX12_mostFrom_36 ?_
              refine lv_iload hx hb dX12_mostFrom_39 (lv_at hl 0 rfl) ?_
              refine g_zald (n := 10) hx hb hC.1 hG 54 (by decide) rfl (by omega) (by omega) (by decide) dX12_mostFrom_41 ?_
              have q_3 := i54 k.toNat (by omega)
              refine z_if_ne (tgt := 80) hx hb dX12_mostFrom_42 (by decide) (by omega) (by omega) (fun c_4 => ?_) (fun c_4 => ?_)
              · refine z_iinc (lv' := [(4, .int (zI (k + 1))), (3, .int (zI mo)), (0, .ref (ad 8)), (1, .int (zI p1)), (2, .int (zI p2))]) hx hb dX12_mostFrom_80 hl (k := 0) rfl (by decide) rfl (fun ls hl => ?_)
                refine lv_goto (tgt := 26) hx hb dX12_mostFrom_83 (by decide) ?_
                exact ih26 mo (k + 1) x _ _ _ (by omega) (by omega) (by exact ⟨H9, A9, B9, C9, hx0, hr9, (by rw [show (k + 1).toNat = k.toNat + 1 by omega]; exact MGr_skip hgr (fun h => by have := (mGone_i u p1 k.toNat).mp h; exfalso; omega)), hmo⟩) hG hS (lv_sub hl [0, 1, 2, 3, 4] rfl)
              · refine lv_aload_n hx hb dX12_mostFrom_45 rfl (lv_at hl 2 rfl) ?_
                refine g_get (C := RX12) (T := TX12) (N := 42) (ci := 11) hx hb hts (fun _ h => (List.mem_cons_of_mem _ (List.mem_append_right _ h))) hown hC.1 hG 8 (by decide) rfl rfl 29 (by decide) (hts (.fieldLink RX12 81 "StraitSwimModel" "slots" "[I") (List.mem_cons_of_mem _ (List.mem_append_left _ (List.mem_of_getElem? (i := 3) rfl)))) (fun _ h9 => h9) rfl dX12_mostFrom_46 ?_
                refine lv_iload hx hb dX12_mostFrom_49 (lv_at hl 0 rfl) ?_
                refine g_iald (n := 10) hx hb hC.1 hG 51 (by decide) rfl (by omega) (by omega) (by decide) dX12_mostFrom_51 ?_
                have q_5 := i51 k.toNat (by omega)
                refine z_if_le (tgt := 80) hx hb dX12_mostFrom_52 (by decide) (by omega) (by omega) (fun c_6 => ?_) (fun c_6 => ?_)
                · refine z_iinc (lv' := [(4, .int (zI (k + 1))), (3, .int (zI mo)), (0, .ref (ad 8)), (1, .int (zI p1)), (2, .int (zI p2))]) hx hb dX12_mostFrom_80 hl (k := 0) rfl (by decide) rfl (fun ls hl => ?_)
                  refine lv_goto (tgt := 26) hx hb dX12_mostFrom_83 (by decide) ?_
                  exact ih26 mo (k + 1) x _ _ _ (by omega) (by omega) (by exact ⟨H9, A9, B9, C9, hx0, hr9, (by rw [show (k + 1).toNat = k.toNat + 1 by omega]; exact MGr_skip hgr (fun h => by have := (mGone_i u p1 k.toNat).mp h; exfalso; omega)), hmo⟩) hG hS (lv_sub hl [0, 1, 2, 3, 4] rfl)
                · refine lv_aload_n hx hb dX12_mostFrom_55 rfl (lv_at hl 2 rfl) ?_
                  refine g_get (C := RX12) (T := TX12) (N := 42) (ci := 11) hx hb hts (fun _ h => (List.mem_cons_of_mem _ (List.mem_append_right _ h))) hown hC.1 hG 8 (by decide) rfl rfl 28 (by decide) (hts (.fieldLink RX12 78 "StraitSwimModel" "pilots" "[I") (List.mem_cons_of_mem _ (List.mem_append_left _ (List.mem_of_getElem? (i := 4) rfl)))) (fun _ h9 => h9) rfl dX12_mostFrom_56 ?_
                  refine lv_iload hx hb dX12_mostFrom_59 (lv_at hl 0 rfl) ?_
                  refine g_iald (n := 10) hx hb hC.1 hG 50 (by decide) rfl (by omega) (by omega) (by decide) dX12_mostFrom_61 ?_
                  have q_7 := i50 k.toNat (by omega)
                  refine lv_iload_n hx hb dX12_mostFrom_62 rfl (lv_at hl 3 rfl) ?_
                  refine z_icmp_ne (tgt := 80) hx hb dX12_mostFrom_63 (by decide) (by omega) (by omega) (by omega) (by omega) (fun c_8 => ?_) (fun c_8 => ?_)
                  · refine z_iinc (lv' := [(4, .int (zI (k + 1))), (3, .int (zI mo)), (0, .ref (ad 8)), (1, .int (zI p1)), (2, .int (zI p2))]) hx hb dX12_mostFrom_80 hl (k := 0) rfl (by decide) rfl (fun ls hl => ?_)
                    refine lv_goto (tgt := 26) hx hb dX12_mostFrom_83 (by decide) ?_
                    exact ih26 mo (k + 1) x _ _ _ (by omega) (by omega) (by exact ⟨H9, A9, B9, C9, hx0, hr9, (by rw [show (k + 1).toNat = k.toNat + 1 by omega]; exact MGr_skip hgr (fun h => by have := (mGone_i u p1 k.toNat).mp h; exfalso; omega)), hmo⟩) hG hS (lv_sub hl [0, 1, 2, 3, 4] rfl)
                  · refine lv_aload_n hx hb dX12_mostFrom_66 rfl (lv_at hl 2 rfl) ?_
                    refine lv_iload hx hb dX12_mostFrom_67 (lv_at hl 0 rfl) ?_
                    refine lv_iload_n hx hb dX12_mostFrom_69 rfl (lv_at hl 3 rfl) ?_
                    refine lv_iload_n hx hb dX12_mostFrom_70 rfl (lv_at hl 4 rfl) ?_
                    have hg1 : mGone u p1 k.toNat = false := (mGone_i u p1 k.toNat).mpr (by omega)
                    refine g_calli (va_runV (As := [.int (zI k), .int (zI p1), .int (zI p2)]) (rest := []) ⟨hx, hb, hml, hown, hts⟩ (kX12_brings l D cy ad jf A x k p1 p2 (by omega) (by omega) (by omega) i49 i50 i51 (by rw [hx0]; exact hgr) (by rw [hx0]; exact hg1) (by rw [hx0]; exact hr9)) (cwV 3 hts gX12_mostFrom_X12_brings rfl rfl rfl (by decide +kernel) ⟨by decide, by decide⟩) (g_preV (C := RX12) hG hC hS 8 (by decide) rfl rfl) rfl rfl hl.1 rfl (lv_room (Nat.le_of_ble_eq_true rfl)) dX12_mostFrom_71 ⟨Nat.le_of_ble_eq_true rfl, Nat.le_of_ble_eq_true rfl⟩) hS (fun r9 u10 H locs p_11 hG hS => ?_)
                    obtain ⟨b9, rfl, H8, A8, B8, C8, hu10, hr8, ⟨hb9, hfd⟩ | ⟨hb9, hH8, Y8, hY8, hY9⟩⟩ := p_11
                    · subst hb9
                      rw [hx0] at hfd
                      refine z_if_eq (tgt := 80) hx hb dX12_mostFrom_74 (by decide) (by omega) (by omega) (fun c_12 => ?_) (fun c_12 => ?_)
                      · exfalso; omega
                      · refine z_iinc (lv' := [(3, .int (zI (mo + 1))), (4, .int (zI k)), (0, .ref (ad 8)), (1, .int (zI p1)), (2, .int (zI p2))]) hx hb dX12_mostFrom_77 hl (k := 1) rfl (by decide) rfl (fun ls hl => ?_)
                        refine z_iinc (lv' := [(4, .int (zI (k + 1))), (3, .int (zI (mo + 1))), (0, .ref (ad 8)), (1, .int (zI p1)), (2, .int (zI p2))]) hx hb dX12_mostFrom_80 hl (k := 1) rfl (by decide) rfl (fun ls hl => ?_)
                        refine lv_goto (tgt := 26) hx hb dX12_mostFrom_83 (by decide) ?_
                        exact ih26 (mo + 1) (k + 1) u10 _ _ _ (by omega) (by omega) (by have hy := MGr_yes hgr hfd; exact ⟨H8, A8, B8, C8, (by subst hu10; rw [hx0, mNp_mNp]), hr8, (by rw [show (k + 1).toNat = k.toNat + 1 by omega]; exact hy.1), (by rw [hy.2]; omega)⟩) hG hS (lv_sub hl [0, 1, 2, 3, 4] rfl)
                    · subst hb9
                      rw [hx0] at hH8 hY8 hY9
                      refine z_if_eq (tgt := 80) hx hb dX12_mostFrom_74 (by decide) (by omega) (by omega) (fun c_13 => ?_) (fun c_13 => ?_)
                      · refine z_iinc (lv' := [(4, .int (zI (k + 1))), (3, .int (zI mo)), (0, .ref (ad 8)), (1, .int (zI p1)), (2, .int (zI p2))]) hx hb dX12_mostFrom_80 hl (k := 0) rfl (by decide) rfl (fun ls hl => ?_)
                        refine lv_goto (tgt := 26) hx hb dX12_mostFrom_83 (by decide) ?_
                        exact ih26 mo (k + 1) u10 _ _ _ (by omega) (by omega) (by exact ⟨H9, A8, B8, C8, (by subst hu10; rw [hH8, hx0, mNp_mNp]; rfl), hr9, (by rw [show (k + 1).toNat = k.toNat + 1 by omega]; exact MGr_no hgr hY8 hY9), hmo⟩) hG hS (lv_sub hl [0, 1, 2, 3, 4] rfl)
                      · exfalso; omega
        exact loop26 _ 0 0 w _ _ _ (Nat.lt_succ_self _) (by omega) (by have h9 : ∀ e, mtIn p2.toNat (16 - p2.toNat) e → f e = -1 := fun e he => hf e (by have := he.1; omega) (by have := he.2; omega); exact ⟨f, _, _, _, hw0.trans (mNp_2 u f), hf1, MGr_0 _ _ _ _ h9, (by rw [sz_none h9]; rfl)⟩) hG hS (lv_sub hl [0, 1, 2, 3, 4] rfl)
      · refine lv_aload_n hx hb dX12_mostFrom_8 rfl (lv_at hl 1 rfl) ?_
        refine g_get (C := RX12) (T := TX12) (N := 42) (ci := 11) hx hb hts (fun _ h => (List.mem_cons_of_mem _ (List.mem_append_right _ h))) hown hC.1 hG 8 (by decide) rfl rfl 31 (by decide) (hts (.fieldLink RX12 87 "StraitSwimModel" "goer" "[I") (List.mem_cons_of_mem _ (List.mem_append_left _ (List.mem_of_getElem? (i := 0) rfl)))) (fun _ h9 => h9) rfl dX12_mostFrom_9 ?_
        refine lv_iload_n hx hb dX12_mostFrom_12 rfl (lv_at hl 0 rfl) ?_
        refine z_iconst hx hb dX12_mostFrom_13 ?_
        refine g_iast (n := 16) hx hb hC.1 hG hS 53 (by decide) rfl rfl (by omega) (by omega) (by decide) dX12_mostFrom_14 (fun u14 H locs hu14 hG hS => ?_)
        refine z_iinc (lv' := [(3, .int (zI (t + 1))), (0, .ref (ad 8)), (1, .int (zI p1)), (2, .int (zI p2))]) hx hb dX12_mostFrom_15 hl (k := 0) rfl (by decide) rfl (fun ls hl => ?_)
        refine lv_goto (tgt := 2) hx hb dX12_mostFrom_18 (by decide) ?_
        exact ih2 (t + 1) u14 _ _ _ (by omega) (by omega) (by subst hu14; subst hw0; exact ⟨va_up f t.toNat (-1), (by simp only [sF, up_up, up_s]), (fun e he => by by_cases k : e = t.toNat; (rw [k, up_s]; omega); (rw [up_n _ _ k]; exact hf1 e he)), (fun j h1 h2 => by by_cases k : j = t.toNat; (rw [k, up_s]); (rw [up_n _ _ k]; exact hf j h1 (by omega)))⟩) hG hS (lv_sub hl [0, 1, 2, 3] rfl)
  exact loop2 _ p2 u _ _ _ (Nat.lt_succ_self _) (by omega) (by exact ⟨u.2.1 53, (by simp only [sF]; rw [up_self]), i53, (fun j h1 h2 => by exfalso; omega)⟩) hG hS (lv_sub hl [0, 1, 2, 3] rfl)
