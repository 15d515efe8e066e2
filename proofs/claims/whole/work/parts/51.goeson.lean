set_option maxHeartbeats 4000000 in
set_option maxRecDepth 100000 in
theorem kX12_goesOn (l : Launch) (D : va_G) (cy : Nat → ClassId) (ad : Nat → Nat) (jf : Nat → Int64) (A : Nat → Prop) (u : gS) (p1 p2 p3 : Int) (j_1 : 0 ≤ p1 ∧ p1 ≤ 15) (j_p2 : -2147483648 ≤ p2 ∧ p2 < 2147483648) (hmost : p3 = mMost u p2 p1) (i23 : 0 ≤ u.1 23 ∧ u.1 23 ≤ 10) (i49 : ∀ j, j < 16 → u.2.1 49 j = 0 ∨ u.2.1 49 j = 1) (i50 : ∀ j, j < 10 → 0 ≤ u.2.1 50 j ∧ u.2.1 50 j ≤ 3) (i51 : ∀ j, j < 10 → 0 ≤ u.2.1 51 j ∧ u.2.1 51 j ≤ 4) (i54 : ∀ j, j < 10 → u.2.1 54 j = 0 ∨ u.2.1 54 j = 1) (z51 : ∀ j : Nat, u.1 23 ≤ (j : Int) → j < 10 → u.2.1 51 j = 0) (i53 : ∀ j, j < 16 → -1 ≤ u.2.1 53 j ∧ u.2.1 53 j ≤ 9) : Met l yX12_goesOn wsX12_goesOn ({ frames := 3, cells := 0, slots := 0, locals := 78 }) (va_Pc [.ref (ad 8), .int (zI p1), .int (zI p2), .int (zI p3)] (gB D cy ad jf A u)) (va_Qi (fun (r : Int32) (v : gS) => r = zI (mGoesOn u p1 p2) ∧ ∃ H9 A9 B9 C9, v = mNp u H9 A9 B9 C9 ∧ ∀ e, e < 16 → -1 ≤ H9 e ∧ H9 e ≤ 9) (gB D cy ad jf A) A) 0 0 A := by
  refine Met.ofW (cc := cX12_goesOn) (maxL := 6) (ret := (some .int)) (by decide) rfl ?_
  intro p e s m args below meth c s₁ B hml hv
  obtain ⟨rfl, hG, hC⟩ := hv
  have hx := B.exec
  have hb := B.bytes
  have hr := B.returns
  have hts := atoms_spec (ws := wsX12_goesOn) B.pre
  have hown : s.vm.findClass RX12 = some m.cls := findClass_of_methodNamed B.named
  have hlocks := B.notSynchronized
  have hS : va_S A s.heap s.heap [] := va_S.rf
  have hl := lv_entry ([.ref (ad 8), .int (zI p1), .int (zI p2), .int (zI p3)]) (n := 6) (Nat.le_of_ble_eq_true rfl)
  rw [lg_entry_eq]
  generalize (lg_sl ([.ref (ad 8), .int (zI p1), .int (zI p2), .int (zI p3)]) ++ List.replicate (6 - (lg_sl ([.ref (ad 8), .int (zI p1), .int (zI p2), .int (zI p3)])).length) Slot.unset).toArray = ls at hl ⊢
  have hl : lv_has ls 6 [(0, .ref (ad 8)), (1, .int (zI p1)), (2, .int (zI p2)), (3, .int (zI p3))] := hl
  have u23 := i23
  have u49 := i49
  have u50 := i50
  have u51 := i51
  have u54 := i54
  have uz51 := z51
  have u53 := i53
  have hp3 : 0 ≤ p3 ∧ p3 ≤ 16 := by rw [hmost]; exact mMost_bnd u (by omega) (by omega)
  refine z_bipush hx hb dX12_goesOn_0 (by decide) ?_
  refine lv_istore (lv' := [(4, .int (zI ((-2)))), (0, .ref (ad 8)), (1, .int (zI p1)), (2, .int (zI p2)), (3, .int (zI p3))]) hx hb dX12_goesOn_2 hl (by decide) rfl (fun ls hl => ?_)
  refine z_iconst hx hb dX12_goesOn_4 ?_
  refine lv_istore (lv' := [(5, .int (zI 0)), (4, .int (zI ((-2)))), (0, .ref (ad 8)), (1, .int (zI p1)), (2, .int (zI p2)), (3, .int (zI p3))]) hx hb dX12_goesOn_5 hl (by decide) rfl (fun ls hl => ?_)
  have loop7 : ∀ (n : Nat) (wh k : Int) (x : gS) (H : Heap) (locs : List Loc) (ls : Array Slot), (10 - k).toNat < n → (0 ≤ k ∧ k ≤ u.1 23) → (-2 ≤ wh ∧ wh ≤ 9) → (pkL (okD (mCan u) p1.toNat (mGone u p2)) (u.2.1 51) (10 - k.toNat) k.toNat wh = mGoesOn u p1 p2) → (∃ H9 A9 B9 C9, x = mNp u H9 A9 B9 C9 ∧ ∀ e, e < 16 → -1 ≤ H9 e ∧ H9 e ≤ 9) → gH D cy ad jf A x H → va_S A s.heap H locs → lv_has ls 6 [(5, .int (zI k)), (4, .int (zI wh)), (0, .ref (ad 8)), (1, .int (zI p1)), (2, .int (zI p2)), (3, .int (zI p3))] → W p l e (headSpec wsX12_goesOn ({ frames := 3, cells := 0, slots := 0, locals := 78 })).room s m ([.ref (ad 8), .int (zI p1), .int (zI p2), .int (zI p3)]).toArray below meth c H locs 0 0 (MQ below (va_Qi (fun (r : Int32) (v : gS) => r = zI (mGoesOn u p1 p2) ∧ ∃ H9 A9 B9 C9, v = mNp u H9 A9 B9 C9 ∧ ∀ e, e < 16 → -1 ≤ H9 e ∧ H9 e ≤ 9) (gB D cy ad jf A) A) ([.ref (ad 8), .int (zI p1), .int (zI p2), .int (zI p3)]).toArray s 0 0 A) (F0 m 7 ls []) := by
    intro n
    induction n with
    | zero => intro wh k x H locs ls hm7; exact absurd hm7 (Nat.not_lt_zero _)
    | succ n ih7 =>
      intro wh k x H locs ls hm7 hk hwh hT hxx hG hS hl
      obtain ⟨H9, A9, B9, C9, hx0, hr9⟩ := hxx
      have e23 : x.1 23 = u.1 23 := by rw [hx0]; rfl
      have e54 : x.2.1 54 k.toNat = u.2.1 54 k.toNat := by rw [hx0]; rfl
      have e51 : x.2.1 51 k.toNat = u.2.1 51 k.toNat := by rw [hx0]; rfl
      have f51 : x.2.1 51 wh.toNat = u.2.1 51 wh.toNat := by rw [hx0]; rfl
      have e50 : x.2.1 50 k.toNat = u.2.1 50 k.toNat := by rw [hx0]; rfl
      have e49 : x.2.1 49 p1.toNat = u.2.1 49 p1.toNat := by rw [hx0]; rfl
      have e52 : bAnd (bShr (x.2.1 52 k.toNat) p1) 1 = bAnd (bShr (u.2.1 52 k.toNat) p1) 1 := by rw [hx0]; rfl
      have i54 : ∀ j, j < 10 → x.2.1 54 j = 0 ∨ x.2.1 54 j = 1 := by rw [hx0]; exact i54
      have i23 : 0 ≤ x.1 23 ∧ x.1 23 ≤ 10 := by rw [hx0]; exact i23
      have i49 : ∀ j, j < 16 → x.2.1 49 j = 0 ∨ x.2.1 49 j = 1 := by rw [hx0]; exact i49
      have i50 : ∀ j, j < 10 → 0 ≤ x.2.1 50 j ∧ x.2.1 50 j ≤ 3 := by rw [hx0]; exact i50
      have i51 : ∀ j, j < 10 → 0 ≤ x.2.1 51 j ∧ x.2.1 51 j ≤ 4 := by rw [hx0]; exact i51
      have z51 : ∀ j : Nat, x.1 23 ≤ (j : Int) → j < 10 → x.2.1 51 j = 0 := by rw [hx0]; exact z51
      refine lv_iload hx hb dX12_goesOn_7 (lv_at hl 0 rfl) ?_
      refine lv_aload_n hx hb dX12_goesOn_9 rfl (lv_at hl 2 rfl) ?_
      refine g_get (C := RX12) (T := TX12) (N := 42) (ci := 11) hx hb hts (fun _ h => (List.mem_cons_of_mem _ (List.mem_append_right _ h))) hown hC.1 hG 8 (by decide) rfl rfl 6 (by decide) (hts (.fieldLink RX12 138 "StraitSwimModel" "swimmers" "I") (List.mem_cons_of_mem _ (List.mem_append_left _ (List.mem_of_getElem? (i := 0) rfl)))) (fun _ h9 => h9) rfl dX12_goesOn_10 ?_
      refine z_icmp_ge (tgt := 102) hx hb dX12_goesOn_13 (by decide) (by omega) (by omega) (by omega) (by omega) (fun c_1 => ?_) (fun c_1 => ?_)
      · refine lv_iload hx hb dX12_goesOn_102 (lv_at hl 1 rfl) ?_
        exact W.iret (v := zI wh) hx hb hr (fun t9 ht9_ hW => ⟨⟨zI wh, x, rfl, (by refine ⟨?_, H9, A9, B9, C9, hx0, hr9⟩; congr 1; rw [← hT]; exact (pk_end (fun j h1 h2 => Bool.eq_false_iff.mpr (fun h => by have h3 := (mGone_i u p2 j).mp (okD_iff.mp h).1.1; have h4 := uz51 j (by omega) (by omega); omega))).symm), gB.mk' hG hC hS ht9_ hW⟩, hS.F ht9_⟩) hS.2.2 dX12_goesOn_104
      · refine lv_aload_n hx hb dX12_goesOn_16 rfl (lv_at hl 2 rfl) ?_
        refine g_get (C := RX12) (T := TX12) (N := 42) (ci := 11) hx hb hts (fun _ h => (List.mem_cons_of_mem _ (List.mem_append_right _ h))) hown hC.1 hG 8 (by decide) rfl rfl 32 (by decide) (hts (.fieldLink RX12 90 "StraitSwimModel" "fixed" "[Z") (List.mem_cons_of_mem _ (List.mem_append_left _ (List.mem_of_getElem? (i := 1) rfl)))) (fun _ h9 => h9) rfl dX12_goesOn_17 ?_
        refine lv_iload hx hb dX12_goesOn_20 (lv_at hl 0 rfl) ?_
        refine g_zald (n := 10) hx hb hC.1 hG 54 (by decide) rfl (by omega) (by omega) (by decide) dX12_goesOn_22 ?_
        have q_2 := i54 k.toNat (by omega)
        refine z_if_ne (tgt := 96) hx hb dX12_goesOn_23 (by decide) (by omega) (by omega) (fun c_3 => ?_) (fun c_3 => ?_)
        · refine z_iinc (lv' := [(5, .int (zI (k + 1))), (4, .int (zI wh)), (0, .ref (ad 8)), (1, .int (zI p1)), (2, .int (zI p2)), (3, .int (zI p3))]) hx hb dX12_goesOn_96 hl (k := 0) rfl (by decide) rfl (fun ls hl => ?_)
          refine lv_goto (tgt := 7) hx hb dX12_goesOn_99 (by decide) ?_
          exact ih7 wh (k + 1) x _ _ _ (by omega) (by omega) (by omega) (by rw [show (k + 1).toNat = k.toNat + 1 by omega, show 10 - (k.toNat + 1) = 9 - k.toNat by omega]; rw [show 10 - k.toNat = (9 - k.toNat) + 1 by omega] at hT; exact pk_no hT (fun h => by have h1 := (okD_iff.mp h.1).1; have h2 := (mGone_i u p2 k.toNat).mp h1.1; have h3 := (mCan_i u j_1.1 (by omega)).mp h1.2; omega)) (by exact ⟨H9, A9, B9, C9, hx0, hr9⟩) hG hS (lv_sub hl [0, 1, 2, 3, 4, 5] rfl)
        · refine lv_aload_n hx hb dX12_goesOn_26 rfl (lv_at hl 2 rfl) ?_
          refine lv_iload hx hb dX12_goesOn_27 (lv_at hl 0 rfl) ?_
          refine lv_iload_n hx hb dX12_goesOn_29 rfl (lv_at hl 3 rfl) ?_
          refine lv_iload_n hx hb dX12_goesOn_30 rfl (lv_at hl 4 rfl) ?_
          refine g_calli (va_runV (As := [.int (zI k), .int (zI p1), .int (zI p2)]) (rest := []) ⟨hx, hb, hml, hown, hts⟩ (kX12_mayGo l D cy ad jf A x k p1 p2 (by omega) (by omega) (by omega) i49 i50 i51) (cwV 3 hts gX12_goesOn_X12_mayGo rfl rfl rfl (by decide +kernel) ⟨by decide, by decide⟩) (g_preV (C := RX12) hG hC hS 8 (by decide) rfl rfl) rfl rfl hl.1 rfl (lv_room (Nat.le_of_ble_eq_true rfl)) dX12_goesOn_31 ⟨Nat.le_of_ble_eq_true rfl, Nat.le_of_ble_eq_true rfl⟩) hS (fun r4 u5 H locs p_6 hG hS => ?_)
          obtain ⟨⟨b7, rfl, q_8⟩, he_⟩ := p_6
          rw [he_] at hG; clear he_
          have hbb7 : 0 ≤ b7 ∧ b7 ≤ 1 := by rcases q_8 with ⟨h, _⟩ | ⟨h, _⟩ <;> omega
          refine z_if_eq (tgt := 96) hx hb dX12_goesOn_34 (by decide) (by omega) (by omega) (fun c_9 => ?_) (fun c_9 => ?_)
          · refine z_iinc (lv' := [(5, .int (zI (k + 1))), (4, .int (zI wh)), (0, .ref (ad 8)), (1, .int (zI p1)), (2, .int (zI p2)), (3, .int (zI p3))]) hx hb dX12_goesOn_96 hl (k := 0) rfl (by decide) rfl (fun ls hl => ?_)
            refine lv_goto (tgt := 7) hx hb dX12_goesOn_99 (by decide) ?_
            exact ih7 wh (k + 1) x _ _ _ (by omega) (by omega) (by omega) (by rw [show (k + 1).toNat = k.toNat + 1 by omega, show 10 - (k.toNat + 1) = 9 - k.toNat by omega]; rw [show 10 - k.toNat = (9 - k.toNat) + 1 by omega] at hT; exact pk_no hT (fun h => by have h1 := (okD_iff.mp h.1).1; have h2 := (mGone_i u p2 k.toNat).mp h1.1; have h3 := (mCan_i u j_1.1 (by omega)).mp h1.2; omega)) (by exact ⟨H9, A9, B9, C9, hx0, hr9⟩) hG hS (lv_sub hl [0, 1, 2, 3, 4, 5] rfl)
          · have hcn : mCan u k.toNat p1.toNat = true := (mCan_i u j_1.1 (by omega)).mpr (by omega)
            have hgn : mGone u p2 k.toNat = false := (mGone_i u p2 k.toNat).mpr (by omega)
            refine lv_iload hx hb dX12_goesOn_37 (lv_at hl 1 rfl) ?_
            refine z_if_lt (tgt := 62) hx hb dX12_goesOn_39 (by decide) (by omega) (by omega) (fun c_10 => ?_) (fun c_10 => ?_)
            · refine lv_aload_n hx hb dX12_goesOn_62 rfl (lv_at hl 2 rfl) ?_
              refine g_get (C := RX12) (T := TX12) (N := 42) (ci := 11) hx hb hts (fun _ h => (List.mem_cons_of_mem _ (List.mem_append_right _ h))) hown hC.1 hG 8 (by decide) rfl rfl 32 (by decide) (hts (.fieldLink RX12 90 "StraitSwimModel" "fixed" "[Z") (List.mem_cons_of_mem _ (List.mem_append_left _ (List.mem_of_getElem? (i := 1) rfl)))) (fun _ h9 => h9) rfl dX12_goesOn_63 ?_
              refine lv_iload hx hb dX12_goesOn_66 (lv_at hl 0 rfl) ?_
              refine z_iconst hx hb dX12_goesOn_68 ?_
              refine g_zast (n := 10) hx hb hC.1 hG hS 54 (by decide) (by omega) rfl rfl (by omega) (by omega) (by decide) dX12_goesOn_69 (fun u11 H locs hu11 hG hS => ?_)
              refine z_iconst hx hb dX12_goesOn_70 ?_
              refine lv_aload_n hx hb dX12_goesOn_71 rfl (lv_at hl 2 rfl) ?_
              refine lv_iload_n hx hb dX12_goesOn_72 rfl (lv_at hl 4 rfl) ?_
              refine lv_iload_n hx hb dX12_goesOn_73 rfl (lv_at hl 3 rfl) ?_
              refine z_iconst hx hb dX12_goesOn_74 ?_
              refine z_iadd hx hb dX12_goesOn_75 ?_
              have hu3 : u11 = mNp (sF u 54 (va_up (u.2.1 54) k.toNat 1)) H9 A9 B9 C9 := by rw [hu11, hx0, mNp_54]; rfl
              have i23 : 0 ≤ u11.1 23 ∧ u11.1 23 ≤ 10 := by rw [hu3]; exact u23
              have i49 : ∀ j, j < 16 → u11.2.1 49 j = 0 ∨ u11.2.1 49 j = 1 := by rw [hu3]; exact u49
              have i50 : ∀ j, j < 10 → 0 ≤ u11.2.1 50 j ∧ u11.2.1 50 j ≤ 3 := by rw [hu3]; exact u50
              have i51 : ∀ j, j < 10 → 0 ≤ u11.2.1 51 j ∧ u11.2.1 51 j ≤ 4 := by rw [hu3]; exact u51
              have z51 : ∀ j : Nat, u11.1 23 ≤ (j : Int) → j < 10 → u11.2.1 51 j = 0 := by rw [hu3]; exact uz51
              have i54 : ∀ j, j < 10 → u11.2.1 54 j = 0 ∨ u11.2.1 54 j = 1 := by rw [hu3]; exact (fun j hj => by show va_up (u.2.1 54) k.toNat 1 j = 0 ∨ va_up (u.2.1 54) k.toNat 1 j = 1; by_cases h : j = k.toNat; (rw [h, up_s]; exact Or.inr rfl); (rw [up_n _ _ h]; exact u54 j hj))
              have i53 : ∀ j, j < 16 → -1 ≤ u11.2.1 53 j ∧ u11.2.1 53 j ≤ 9 := by rw [hu3]; exact hr9
              refine g_calli (va_runV (As := [.int (zI p2), .int (zI (p1 + 1))]) (rest := [.int (zI 1)]) ⟨hx, hb, hml, hown, hts⟩ (kX12_mostFrom l D cy ad jf A u11 p2 (p1 + 1) (by omega) (by omega) i23 i49 i50 i51 i54 z51 i53) (cwV 2 hts gX12_goesOn_X12_mostFrom rfl rfl rfl (by decide +kernel) ⟨by decide, by decide⟩) (g_preV (C := RX12) hG hC hS 8 (by decide) rfl rfl) rfl rfl hl.1 rfl (lv_room (Nat.le_of_ble_eq_true rfl)) dX12_goesOn_76 ⟨Nat.le_of_ble_eq_true rfl, Nat.le_of_ble_eq_true rfl⟩) hS (fun r12 u13 H locs p_14 hG hS => ?_)
              obtain ⟨rfl, H14, A14, B14, C14, hu13, hr14⟩ := p_14
              obtain ⟨z15, hz15⟩ : ∃ z : Int, z = mMost u11 p2 (p1 + 1) := ⟨_, rfl⟩
              rw [← hz15]
              have qz15 : 0 ≤ z15 ∧ z15 ≤ 16 := by rw [hz15]; exact mMost_bnd u11 (by omega) (by omega)
              refine z_iadd hx hb dX12_goesOn_79 ?_
              have hz1 : z15 = (mx (mCan u) (15 - p1.toNat) (p1.toNat + 1) (upB (mGone u p2) k.toNat) : Nat) := by (rw [hz15, hu3]; unfold mMost; rw [mGone_up, show (p1 + 1).toNat = p1.toNat + 1 by omega, show 16 - (p1.toNat + 1) = 15 - p1.toNat by omega, show mGone (mNp (sF u 54 (u.2.1 54)) H9 A9 B9 C9) p2 = mGone u p2 from (by simp only [sF, up_self]; rfl)]; rfl)
              refine lv_iload_n hx hb dX12_goesOn_80 rfl (lv_at hl 5 rfl) ?_
              refine z_icmp_ne (tgt := 88) hx hb dX12_goesOn_81 (by decide) (by omega) (by omega) (by omega) (by omega) (fun c_16 => ?_) (fun c_16 => ?_)
              · refine lv_aload_n hx hb dX12_goesOn_88 rfl (lv_at hl 2 rfl) ?_
                refine g_get (C := RX12) (T := TX12) (N := 42) (ci := 11) hx hb hts (fun _ h => (List.mem_cons_of_mem _ (List.mem_append_right _ h))) hown hC.1 hG 8 (by decide) rfl rfl 32 (by decide) (hts (.fieldLink RX12 90 "StraitSwimModel" "fixed" "[Z") (List.mem_cons_of_mem _ (List.mem_append_left _ (List.mem_of_getElem? (i := 1) rfl)))) (fun _ h9 => h9) rfl dX12_goesOn_89 ?_
                refine lv_iload hx hb dX12_goesOn_92 (lv_at hl 0 rfl) ?_
                refine z_iconst hx hb dX12_goesOn_94 ?_
                refine g_zast (n := 10) hx hb hC.1 hG hS 54 (by decide) (by omega) rfl rfl (by omega) (by omega) (by decide) dX12_goesOn_95 (fun u17 H locs hu17 hG hS => ?_)
                refine z_iinc (lv' := [(5, .int (zI (k + 1))), (4, .int (zI wh)), (0, .ref (ad 8)), (1, .int (zI p1)), (2, .int (zI p2)), (3, .int (zI p3))]) hx hb dX12_goesOn_96 hl (k := 0) rfl (by decide) rfl (fun ls hl => ?_)
                refine lv_goto (tgt := 7) hx hb dX12_goesOn_99 (by decide) ?_
                exact ih7 wh (k + 1) u17 _ _ _ (by omega) (by omega) (by omega) (by rw [show (k + 1).toNat = k.toNat + 1 by omega, show 10 - (k.toNat + 1) = 9 - k.toNat by omega]; rw [show 10 - k.toNat = (9 - k.toNat) + 1 by omega] at hT; exact pk_no hT (fun h => by have := (okD_iff.mp h.1).2; unfold mMost at hmost; omega)) (by have e54k : u.2.1 54 k.toNat = 0 := (by omega); exact ⟨H14, A14, B14, C14, (by rw [hu17, hu13, hu3, mNp_mNp]; exact fix_back e54k), hr14⟩) hG hS (lv_sub hl [0, 1, 2, 3, 4, 5] rfl)
              · have hok : okD (mCan u) p1.toNat (mGone u p2) k.toNat = true := okD_iff.mpr ⟨⟨hgn, hcn⟩, by unfold mMost at hmost; omega⟩
                refine lv_iload hx hb dX12_goesOn_84 (lv_at hl 0 rfl) ?_
                refine lv_istore (lv' := [(4, .int (zI k)), (5, .int (zI k)), (0, .ref (ad 8)), (1, .int (zI p1)), (2, .int (zI p2)), (3, .int (zI p3))]) hx hb dX12_goesOn_86 hl (by decide) rfl (fun ls hl => ?_)
                refine lv_aload_n hx hb dX12_goesOn_88 rfl (lv_at hl 2 rfl) ?_
                refine g_get (C := RX12) (T := TX12) (N := 42) (ci := 11) hx hb hts (fun _ h => (List.mem_cons_of_mem _ (List.mem_append_right _ h))) hown hC.1 hG 8 (by decide) rfl rfl 32 (by decide) (hts (.fieldLink RX12 90 "StraitSwimModel" "fixed" "[Z") (List.mem_cons_of_mem _ (List.mem_append_left _ (List.mem_of_getElem? (i := 1) rfl)))) (fun _ h9 => h9) rfl dX12_goesOn_89 ?_
                refine lv_iload hx hb dX12_goesOn_92 (lv_at hl 1 rfl) ?_
                refine z_iconst hx hb dX12_goesOn_94 ?_
                refine g_zast (n := 10) hx hb hC.1 hG hS 54 (by decide) (by omega) rfl rfl (by omega) (by omega) (by decide) dX12_goesOn_95 (fun u18 H locs hu18 hG hS => ?_)
                refine z_iinc (lv' := [(5, .int (zI (k + 1))), (4, .int (zI k)), (0, .ref (ad 8)), (1, .int (zI p1)), (2, .int (zI p2)), (3, .int (zI p3))]) hx hb dX12_goesOn_96 hl (k := 1) rfl (by decide) rfl (fun ls hl => ?_)
                refine lv_goto (tgt := 7) hx hb dX12_goesOn_99 (by decide) ?_
                exact ih7 k (k + 1) u18 _ _ _ (by omega) (by omega) (by omega) (by rw [show (k + 1).toNat = k.toNat + 1 by omega, show 10 - (k.toNat + 1) = 9 - k.toNat by omega]; rw [show 10 - k.toNat = (9 - k.toNat) + 1 by omega] at hT; have hy9 := pk_yes hT ⟨hok, (by omega)⟩; rw [show ((k.toNat : Nat) : Int) = k by omega] at hy9; exact hy9) (by have e54k : u.2.1 54 k.toNat = 0 := (by omega); exact ⟨H14, A14, B14, C14, (by rw [hu18, hu13, hu3, mNp_mNp]; exact fix_back e54k), hr14⟩) hG hS (lv_sub hl [0, 1, 2, 3, 4, 5] rfl)
            · refine lv_aload_n hx hb dX12_goesOn_42 rfl (lv_at hl 2 rfl) ?_
              refine g_get (C := RX12) (T := TX12) (N := 42) (ci := 11) hx hb hts (fun _ h => (List.mem_cons_of_mem _ (List.mem_append_right _ h))) hown hC.1 hG 8 (by decide) rfl rfl 29 (by decide) (hts (.fieldLink RX12 81 "StraitSwimModel" "slots" "[I") (List.mem_cons_of_mem _ (List.mem_append_left _ (List.mem_of_getElem? (i := 2) rfl)))) (fun _ h9 => h9) rfl dX12_goesOn_43 ?_
              refine lv_iload hx hb dX12_goesOn_46 (lv_at hl 0 rfl) ?_
              refine g_iald (n := 10) hx hb hC.1 hG 51 (by decide) rfl (by omega) (by omega) (by decide) dX12_goesOn_48 ?_
              have q_19 := i51 k.toNat (by omega)
              refine lv_aload_n hx hb dX12_goesOn_49 rfl (lv_at hl 2 rfl) ?_
              refine g_get (C := RX12) (T := TX12) (N := 42) (ci := 11) hx hb hts (fun _ h => (List.mem_cons_of_mem _ (List.mem_append_right _ h))) hown hC.1 hG 8 (by decide) rfl rfl 29 (by decide) (hts (.fieldLink RX12 81 "StraitSwimModel" "slots" "[I") (List.mem_cons_of_mem _ (List.mem_append_left _ (List.mem_of_getElem? (i := 2) rfl)))) (fun _ h9 => h9) rfl dX12_goesOn_50 ?_
              refine lv_iload hx hb dX12_goesOn_53 (lv_at hl 1 rfl) ?_
              refine g_iald (n := 10) hx hb hC.1 hG 51 (by decide) rfl (by omega) (by omega) (by decide) dX12_goesOn_55 ?_
              have q_20 := i51 wh.toNat (by omega)
              refine z_icmp_lt (tgt := 62) hx hb dX12_goesOn_56 (by decide) (by omega) (by omega) (by omega) (by omega) (fun c_21 => ?_) (fun c_21 => ?_)
              · refine lv_aload_n hx hb dX12_goesOn_62 rfl (lv_at hl 2 rfl) ?_
                refine g_get (C := RX12) (T := TX12) (N := 42) (ci := 11) hx hb hts (fun _ h => (List.mem_cons_of_mem _ (List.mem_append_right _ h))) hown hC.1 hG 8 (by decide) rfl rfl 32 (by decide) (hts (.fieldLink RX12 90 "StraitSwimModel" "fixed" "[Z") (List.mem_cons_of_mem _ (List.mem_append_left _ (List.mem_of_getElem? (i := 1) rfl)))) (fun _ h9 => h9) rfl dX12_goesOn_63 ?_
                refine lv_iload hx hb dX12_goesOn_66 (lv_at hl 0 rfl) ?_
                refine z_iconst hx hb dX12_goesOn_68 ?_
                refine g_zast (n := 10) hx hb hC.1 hG hS 54 (by decide) (by omega) rfl rfl (by omega) (by omega) (by decide) dX12_goesOn_69 (fun u22 H locs hu22 hG hS => ?_)
                refine z_iconst hx hb dX12_goesOn_70 ?_
                refine lv_aload_n hx hb dX12_goesOn_71 rfl (lv_at hl 2 rfl) ?_
                refine lv_iload_n hx hb dX12_goesOn_72 rfl (lv_at hl 4 rfl) ?_
                refine lv_iload_n hx hb dX12_goesOn_73 rfl (lv_at hl 3 rfl) ?_
                refine z_iconst hx hb dX12_goesOn_74 ?_
                refine z_iadd hx hb dX12_goesOn_75 ?_
                have hu3 : u22 = mNp (sF u 54 (va_up (u.2.1 54) k.toNat 1)) H9 A9 B9 C9 := by rw [hu22, hx0, mNp_54]; rfl
                have i23 : 0 ≤ u22.1 23 ∧ u22.1 23 ≤ 10 := by rw [hu3]; exact u23
                have i49 : ∀ j, j < 16 → u22.2.1 49 j = 0 ∨ u22.2.1 49 j = 1 := by rw [hu3]; exact u49
                have i50 : ∀ j, j < 10 → 0 ≤ u22.2.1 50 j ∧ u22.2.1 50 j ≤ 3 := by rw [hu3]; exact u50
                have i51 : ∀ j, j < 10 → 0 ≤ u22.2.1 51 j ∧ u22.2.1 51 j ≤ 4 := by rw [hu3]; exact u51
                have z51 : ∀ j : Nat, u22.1 23 ≤ (j : Int) → j < 10 → u22.2.1 51 j = 0 := by rw [hu3]; exact uz51
                have i54 : ∀ j, j < 10 → u22.2.1 54 j = 0 ∨ u22.2.1 54 j = 1 := by rw [hu3]; exact (fun j hj => by show va_up (u.2.1 54) k.toNat 1 j = 0 ∨ va_up (u.2.1 54) k.toNat 1 j = 1; by_cases h : j = k.toNat; (rw [h, up_s]; exact Or.inr rfl); (rw [up_n _ _ h]; exact u54 j hj))
                have i53 : ∀ j, j < 16 → -1 ≤ u22.2.1 53 j ∧ u22.2.1 53 j ≤ 9 := by rw [hu3]; exact hr9
                refine g_calli (va_runV (As := [.int (zI p2), .int (zI (p1 + 1))]) (rest := [.int (zI 1)]) ⟨hx, hb, hml, hown, hts⟩ (kX12_mostFrom l D cy ad jf A u22 p2 (p1 + 1) (by omega) (by omega) i23 i49 i50 i51 i54 z51 i53) (cwV 2 hts gX12_goesOn_X12_mostFrom rfl rfl rfl (by decide +kernel) ⟨by decide, by decide⟩) (g_preV (C := RX12) hG hC hS 8 (by decide) rfl rfl) rfl rfl hl.1 rfl (lv_room (Nat.le_of_ble_eq_true rfl)) dX12_goesOn_76 ⟨Nat.le_of_ble_eq_true rfl, Nat.le_of_ble_eq_true rfl⟩) hS (fun r23 u24 H locs p_25 hG hS => ?_)
                obtain ⟨rfl, H25, A25, B25, C25, hu24, hr25⟩ := p_25
                obtain ⟨z26, hz26⟩ : ∃ z : Int, z = mMost u22 p2 (p1 + 1) := ⟨_, rfl⟩
                rw [← hz26]
                have qz26 : 0 ≤ z26 ∧ z26 ≤ 16 := by rw [hz26]; exact mMost_bnd u22 (by omega) (by omega)
                refine z_iadd hx hb dX12_goesOn_79 ?_
                have hz1 : z26 = (mx (mCan u) (15 - p1.toNat) (p1.toNat + 1) (upB (mGone u p2) k.toNat) : Nat) := by (rw [hz26, hu3]; unfold mMost; rw [mGone_up, show (p1 + 1).toNat = p1.toNat + 1 by omega, show 16 - (p1.toNat + 1) = 15 - p1.toNat by omega, show mGone (mNp (sF u 54 (u.2.1 54)) H9 A9 B9 C9) p2 = mGone u p2 from (by simp only [sF, up_self]; rfl)]; rfl)
                refine lv_iload_n hx hb dX12_goesOn_80 rfl (lv_at hl 5 rfl) ?_
                refine z_icmp_ne (tgt := 88) hx hb dX12_goesOn_81 (by decide) (by omega) (by omega) (by omega) (by omega) (fun c_27 => ?_) (fun c_27 => ?_)
                · refine lv_aload_n hx hb dX12_goesOn_88 rfl (lv_at hl 2 rfl) ?_
                  refine g_get (C := RX12) (T := TX12) (N := 42) (ci := 11) hx hb hts (fun _ h => (List.mem_cons_of_mem _ (List.mem_append_right _ h))) hown hC.1 hG 8 (by decide) rfl rfl 32 (by decide) (hts (.fieldLink RX12 90 "StraitSwimModel" "fixed" "[Z") (List.mem_cons_of_mem _ (List.mem_append_left _ (List.mem_of_getElem? (i := 1) rfl)))) (fun _ h9 => h9) rfl dX12_goesOn_89 ?_
                  refine lv_iload hx hb dX12_goesOn_92 (lv_at hl 0 rfl) ?_
                  refine z_iconst hx hb dX12_goesOn_94 ?_
                  refine g_zast (n := 10) hx hb hC.1 hG hS 54 (by decide) (by omega) rfl rfl (by omega) (by omega) (by decide) dX12_goesOn_95 (fun u28 H locs hu28 hG hS => ?_)
                  refine z_iinc (lv' := [(5, .int (zI (k + 1))), (4, .int (zI wh)), (0, .ref (ad 8)), (1, .int (zI p1)), (2, .int (zI p2)), (3, .int (zI p3))]) hx hb dX12_goesOn_96 hl (k := 0) rfl (by decide) rfl (fun ls hl => ?_)
                  refine lv_goto (tgt := 7) hx hb dX12_goesOn_99 (by decide) ?_
                  exact ih7 wh (k + 1) u28 _ _ _ (by omega) (by omega) (by omega) (by rw [show (k + 1).toNat = k.toNat + 1 by omega, show 10 - (k.toNat + 1) = 9 - k.toNat by omega]; rw [show 10 - k.toNat = (9 - k.toNat) + 1 by omega] at hT; exact pk_no hT (fun h => by have := (okD_iff.mp h.1).2; unfold mMost at hmost; omega)) (by have e54k : u.2.1 54 k.toNat = 0 := (by omega); exact ⟨H25, A25, B25, C25, (by rw [hu28, hu24, hu3, mNp_mNp]; exact fix_back e54k), hr25⟩) hG hS (lv_sub hl [0, 1, 2, 3, 4, 5] rfl)
                · have hok : okD (mCan u) p1.toNat (mGone u p2) k.toNat = true := okD_iff.mpr ⟨⟨hgn, hcn⟩, by unfold mMost at hmost; omega⟩
                  refine lv_iload hx hb dX12_goesOn_84 (lv_at hl 0 rfl) ?_
                  refine lv_istore (lv' := [(4, .int (zI k)), (5, .int (zI k)), (0, .ref (ad 8)), (1, .int (zI p1)), (2, .int (zI p2)), (3, .int (zI p3))]) hx hb dX12_goesOn_86 hl (by decide) rfl (fun ls hl => ?_)
                  refine lv_aload_n hx hb dX12_goesOn_88 rfl (lv_at hl 2 rfl) ?_
                  refine g_get (C := RX12) (T := TX12) (N := 42) (ci := 11) hx hb hts (fun _ h => (List.mem_cons_of_mem _ (List.mem_append_right _ h))) hown hC.1 hG 8 (by decide) rfl rfl 32 (by decide) (hts (.fieldLink RX12 90 "StraitSwimModel" "fixed" "[Z") (List.mem_cons_of_mem _ (List.mem_append_left _ (List.mem_of_getElem? (i := 1) rfl)))) (fun _ h9 => h9) rfl dX12_goesOn_89 ?_
                  refine lv_iload hx hb dX12_goesOn_92 (lv_at hl 1 rfl) ?_
                  refine z_iconst hx hb dX12_goesOn_94 ?_
                  refine g_zast (n := 10) hx hb hC.1 hG hS 54 (by decide) (by omega) rfl rfl (by omega) (by omega) (by decide) dX12_goesOn_95 (fun u29 H locs hu29 hG hS => ?_)
                  refine z_iinc (lv' := [(5, .int (zI (k + 1))), (4, .int (zI k)), (0, .ref (ad 8)), (1, .int (zI p1)), (2, .int (zI p2)), (3, .int (zI p3))]) hx hb dX12_goesOn_96 hl (k := 1) rfl (by decide) rfl (fun ls hl => ?_)
                  refine lv_goto (tgt := 7) hx hb dX12_goesOn_99 (by decide) ?_
                  exact ih7 k (k + 1) u29 _ _ _ (by omega) (by omega) (by omega) (by rw [show (k + 1).toNat = k.toNat + 1 by omega, show 10 - (k.toNat + 1) = 9 - k.toNat by omega]; rw [show 10 - k.toNat = (9 - k.toNat) + 1 by omega] at hT; have hy9 := pk_yes hT ⟨hok, (by omega)⟩; rw [show ((k.toNat : Nat) : Int) = k by omega] at hy9; exact hy9) (by have e54k : u.2.1 54 k.toNat = 0 := (by omega); exact ⟨H25, A25, B25, C25, (by rw [hu29, hu24, hu3, mNp_mNp]; exact fix_back e54k), hr25⟩) hG hS (lv_sub hl [0, 1, 2, 3, 4, 5] rfl)
              · refine lv_goto (tgt := 96) hx hb dX12_goesOn_59 (by decide) ?_
                refine z_iinc (lv' := [(5, .int (zI (k + 1))), (4, .int (zI wh)), (0, .ref (ad 8)), (1, .int (zI p1)), (2, .int (zI p2)), (3, .int (zI p3))]) hx hb dX12_goesOn_96 hl (k := 0) rfl (by decide) rfl (fun ls hl => ?_)
                refine lv_goto (tgt := 7) hx hb dX12_goesOn_99 (by decide) ?_
                exact ih7 wh (k + 1) x _ _ _ (by omega) (by omega) (by omega) (by rw [show (k + 1).toNat = k.toNat + 1 by omega, show 10 - (k.toNat + 1) = 9 - k.toNat by omega]; rw [show 10 - k.toNat = (9 - k.toNat) + 1 by omega] at hT; exact pk_no hT (fun h => by have := h.2; omega)) (by exact ⟨H9, A9, B9, C9, hx0, hr9⟩) hG hS (lv_sub hl [0, 1, 2, 3, 4, 5] rfl)
  exact loop7 _ ((-2)) 0 u _ _ _ (Nat.lt_succ_self _) (by omega) (by omega) (by rfl) (by exact ⟨_, _, _, _, (mNp_self u).symm, i53⟩) hG hS (lv_sub hl [0, 1, 2, 3, 4, 5] rfl)
