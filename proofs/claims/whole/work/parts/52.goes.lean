set_option maxHeartbeats 4000000 in
set_option maxRecDepth 100000 in
theorem kX12_done (l : Launch) (D : va_G) (cy : Nat → ClassId) (ad : Nat → Nat) (jf : Nat → Int64) (A : Nat → Prop) (u : gS) (i23 : 0 ≤ u.1 23 ∧ u.1 23 ≤ 10) (i49 : ∀ j, j < 16 → u.2.1 49 j = 0 ∨ u.2.1 49 j = 1) (i50 : ∀ j, j < 10 → 0 ≤ u.2.1 50 j ∧ u.2.1 50 j ≤ 3) (i51 : ∀ j, j < 10 → 0 ≤ u.2.1 51 j ∧ u.2.1 51 j ≤ 4) (i54 : ∀ j, j < 10 → u.2.1 54 j = 0 ∨ u.2.1 54 j = 1) (z51 : ∀ j : Nat, u.1 23 ≤ (j : Int) → j < 10 → u.2.1 51 j = 0) (i53 : ∀ j, j < 16 → -1 ≤ u.2.1 53 j ∧ u.2.1 53 j ≤ 9) : Met l yX12_done wsX12_done ({ frames := 3, cells := 0, slots := 0, locals := 78 }) (va_Pc [.ref (ad 8)] (gB D cy ad jf A u)) (va_Qi (fun (r : Int32) (v : gS) => r = zI (mDone u) ∧ ∃ f H9 A9 B9 C9, v = mNp (sF u 54 f) H9 A9 B9 C9 ∧ (∀ e, e < 16 → -1 ≤ H9 e ∧ H9 e ≤ 9) ∧ ∀ j, j < 10 → f j = 0 ∨ f j = 1) (gB D cy ad jf A) A) 0 0 A := by
  refine Met.ofW (cc := cX12_done) (maxL := 3) (ret := (some .int)) (by decide) rfl ?_
  intro p e s m args below meth c s₁ B hml hv
  obtain ⟨rfl, hG, hC⟩ := hv
  have hx := B.exec
  have hb := B.bytes
  have hr := B.returns
  have hts := atoms_spec (ws := wsX12_done) B.pre
  have hown : s.vm.findClass RX12 = some m.cls := findClass_of_methodNamed B.named
  have hlocks := B.notSynchronized
  have hS : va_S A s.heap s.heap [] := va_S.rf
  have hl := lv_entry ([.ref (ad 8)]) (n := 3) (Nat.le_of_ble_eq_true rfl)
  rw [lg_entry_eq]
  generalize (lg_sl ([.ref (ad 8)]) ++ List.replicate (3 - (lg_sl ([.ref (ad 8)])).length) Slot.unset).toArray = ls at hl ⊢
  have hl : lv_has ls 3 [(0, .ref (ad 8))] := hl
  refine z_iconst hx hb dX12_done_0 ?_
  refine lv_istore_n (lv' := [(1, .int (zI 0)), (0, .ref (ad 8))]) hx hb dX12_done_1 rfl hl (by decide) rfl (fun ls hl => ?_)
  refine lv_aload_n hx hb dX12_done_2 rfl (lv_at hl 1 rfl) ?_
  refine g_callv (va_runV (As := []) (rest := []) ⟨hx, hb, hml, hown, hts⟩ (kX12_none l D cy ad jf A u  ) (cwV 0 hts gX12_done_X12_none rfl rfl rfl (by decide +kernel) ⟨by decide, by decide⟩) (g_preV (C := RX12) hG hC hS 8 (by decide) rfl rfl) rfl rfl hl.1 rfl (lv_room (Nat.le_of_ble_eq_true rfl)) dX12_done_3 ⟨Nat.le_of_ble_eq_true rfl, Nat.le_of_ble_eq_true rfl⟩) hS (fun u2 H locs p_3 hG hS => ?_)
  obtain ⟨f9, hf8, hf9⟩ := mNone_f 11 0 u (by decide) (by decide) (fun j hj => by exfalso; omega)
  rw [hf8] at p_3
  refine z_iconst hx hb dX12_done_6 ?_
  refine lv_istore_n (lv' := [(2, .int (zI 0)), (1, .int (zI 0)), (0, .ref (ad 8))]) hx hb dX12_done_7 rfl hl (by decide) rfl (fun ls hl => ?_)
  have loop8 : ∀ (n : Nat) (mo t : Int) (x : gS) (H : Heap) (locs : List Loc) (ls : Array Slot), (4 - t).toNat < n → (0 ≤ t ∧ t ≤ 4) → (0 ≤ mo ∧ mo ≤ 16 * t) → (mo = mDoneL u t.toNat) → (∃ H9 A9 B9 C9, x = mNp (sF u 54 f9) H9 A9 B9 C9 ∧ ∀ e, e < 16 → -1 ≤ H9 e ∧ H9 e ≤ 9) → gH D cy ad jf A x H → va_S A s.heap H locs → lv_has ls 3 [(2, .int (zI t)), (1, .int (zI mo)), (0, .ref (ad 8))] → W p l e (headSpec wsX12_done ({ frames := 3, cells := 0, slots := 0, locals := 78 })).room s m ([.ref (ad 8)]).toArray below meth c H locs 0 0 (MQ below (va_Qi (fun (r : Int32) (v : gS) => r = zI (mDone u) ∧ ∃ f H9 A9 B9 C9, v = mNp (sF u 54 f) H9 A9 B9 C9 ∧ (∀ e, e < 16 → -1 ≤ H9 e ∧ H9 e ≤ 9) ∧ ∀ j, j < 10 → f j = 0 ∨ f j = 1) (gB D cy ad jf A) A) ([.ref (ad 8)]).toArray s 0 0 A) (F0 m 8 ls []) := by
    intro n
    induction n with
    | zero => intro mo t x H locs ls hm8; exact absurd hm8 (Nat.not_lt_zero _)
    | succ n ih8 =>
      intro mo t x H locs ls hm8 ht hm0 hmo hxx hG hS hl
      obtain ⟨H9, A9, B9, C9, hx0, hr9⟩ := hxx
      have i23 : 0 ≤ x.1 23 ∧ x.1 23 ≤ 10 := by rw [hx0]; exact i23
      have i49 : ∀ j, j < 16 → x.2.1 49 j = 0 ∨ x.2.1 49 j = 1 := by rw [hx0]; exact i49
      have i50 : ∀ j, j < 10 → 0 ≤ x.2.1 50 j ∧ x.2.1 50 j ≤ 3 := by rw [hx0]; exact i50
      have i51 : ∀ j, j < 10 → 0 ≤ x.2.1 51 j ∧ x.2.1 51 j ≤ 4 := by rw [hx0]; exact i51
      have z51 : ∀ j : Nat, x.1 23 ≤ (j : Int) → j < 10 → x.2.1 51 j = 0 := by rw [hx0]; exact z51
      have i54 : ∀ j, j < 10 → x.2.1 54 j = 0 ∨ x.2.1 54 j = 1 := by rw [hx0]; exact (fun j hj => Or.inl (hf9 j hj))
      have i53 : ∀ j, j < 16 → -1 ≤ x.2.1 53 j ∧ x.2.1 53 j ≤ 9 := by rw [hx0]; exact hr9
      refine lv_iload_n hx hb dX12_done_8 rfl (lv_at hl 0 rfl) ?_
      refine z_iconst hx hb dX12_done_9 ?_
      refine z_icmp_ge (tgt := 28) hx hb dX12_done_10 (by decide) (by omega) (by omega) (by omega) (by omega) (fun c_4 => ?_) (fun c_4 => ?_)
      · refine lv_iload_n hx hb dX12_done_28 rfl (lv_at hl 1 rfl) ?_
        exact W.iret (v := zI mo) hx hb hr (fun t9 ht9_ hW => ⟨⟨zI mo, x, rfl, (by refine ⟨?_, f9, H9, A9, B9, C9, hx0, hr9, (fun j hj => Or.inl (hf9 j hj))⟩; rw [hmo, show t.toNat = 4 by omega]; rfl), gB.mk' hG hC hS ht9_ hW⟩, hS.F ht9_⟩) hS.2.2 dX12_done_29
      · refine lv_iload_n hx hb dX12_done_13 rfl (lv_at hl 1 rfl) ?_
        refine lv_aload_n hx hb dX12_done_14 rfl (lv_at hl 2 rfl) ?_
        refine lv_iload_n hx hb dX12_done_15 rfl (lv_at hl 0 rfl) ?_
        refine z_iconst hx hb dX12_done_16 ?_
        refine g_calli (va_runV (As := [.int (zI t), .int (zI 0)]) (rest := [.int (zI mo)]) ⟨hx, hb, hml, hown, hts⟩ (kX12_mostFrom l D cy ad jf A x t 0 (by omega) (by omega) i23 i49 i50 i51 i54 z51 i53) (cwV 2 hts gX12_done_X12_mostFrom rfl rfl rfl (by decide +kernel) ⟨by decide, by decide⟩) (g_preV (C := RX12) hG hC hS 8 (by decide) rfl rfl) rfl rfl hl.1 rfl (lv_room (Nat.le_of_ble_eq_true rfl)) dX12_done_17 ⟨Nat.le_of_ble_eq_true rfl, Nat.le_of_ble_eq_true rfl⟩) hS (fun r5 u6 H locs p_7 hG hS => ?_)
        obtain ⟨rfl, H7, A7, B7, C7, hu6, hr7⟩ := p_7
        obtain ⟨z8, hz8⟩ : ∃ z : Int, z = mMost x t 0 := ⟨_, rfl⟩
        rw [← hz8]
        have qz8 : 0 ≤ z8 ∧ z8 ≤ 16 := by rw [hz8]; exact mMost_bnd x (by omega) (by omega)
        refine z_iadd hx hb dX12_done_20 ?_
        refine lv_istore_n (lv' := [(1, .int (zI (mo + z8))), (2, .int (zI t)), (0, .ref (ad 8))]) hx hb dX12_done_21 rfl hl (by decide) rfl (fun ls hl => ?_)
        refine z_iinc (lv' := [(2, .int (zI (t + 1))), (1, .int (zI (mo + z8))), (0, .ref (ad 8))]) hx hb dX12_done_22 hl (k := 1) rfl (by decide) rfl (fun ls hl => ?_)
        refine lv_goto (tgt := 8) hx hb dX12_done_25 (by decide) ?_
        exact ih8 (mo + z8) (t + 1) u6 _ _ _ (by omega) (by omega) (by omega) (by rw [show (t + 1).toNat = t.toNat + 1 by omega]; show _ = mDoneL u t.toNat + mMost0 u (t.toNat : Int) 0; rw [show ((t.toNat : Nat) : Int) = t by omega, ← hmo, hz8, hx0, mMost_0 u _ _ hf9]) (by exact ⟨H7, A7, B7, C7, (by rw [hu6, hx0, mNp_mNp]), hr7⟩) hG hS (lv_sub hl [0, 1, 2] rfl)
  exact loop8 _ 0 0 u2 _ _ _ (Nat.lt_succ_self _) (by omega) (by omega) (by rfl) (by exact ⟨_, _, _, _, p_3.trans (mNp_self _).symm, i53⟩) hG hS (lv_sub hl [0, 1, 2] rfl)
set_option maxHeartbeats 4000000 in
set_option maxRecDepth 100000 in
theorem kX12_goes (l : Launch) (D : va_G) (cy : Nat → ClassId) (ad : Nat → Nat) (jf : Nat → Int64) (A : Nat → Prop) (u : gS) (p1 p2 : Int) (j_p1 : -2147483648 ≤ p1 ∧ p1 < 2147483648) (j_p2 : -2147483648 ≤ p2 ∧ p2 < 2147483648) (i23 : 0 ≤ u.1 23 ∧ u.1 23 ≤ 10) (i49 : ∀ j, j < 16 → u.2.1 49 j = 0 ∨ u.2.1 49 j = 1) (i50 : ∀ j, j < 10 → 0 ≤ u.2.1 50 j ∧ u.2.1 50 j ≤ 3) (i51 : ∀ j, j < 10 → 0 ≤ u.2.1 51 j ∧ u.2.1 51 j ≤ 4) (i54 : ∀ j, j < 10 → u.2.1 54 j = 0 ∨ u.2.1 54 j = 1) (z51 : ∀ j : Nat, u.1 23 ≤ (j : Int) → j < 10 → u.2.1 51 j = 0) (i53 : ∀ j, j < 16 → -1 ≤ u.2.1 53 j ∧ u.2.1 53 j ≤ 9) : Met l yX12_goes wsX12_goes ({ frames := 4, cells := 0, slots := 0, locals := 103 }) (va_Pc [.ref (ad 8), .int (zI p1), .int (zI p2)] (gB D cy ad jf A u)) (va_Qi (fun (r : Int32) (v : gS) => r = zI (mGoes u p1 p2) ∧ ∃ F9 H9 A9 B9 C9, v = mNp (sF u 54 F9) H9 A9 B9 C9 ∧ (∀ e, e < 16 → -1 ≤ H9 e ∧ H9 e ≤ 9) ∧ ∀ j, j < 10 → F9 j = 0 ∨ F9 j = 1) (gB D cy ad jf A) A) 0 0 A := by
  refine Met.ofW (cc := cX12_goes) (maxL := 6) (ret := (some .int)) (by decide) rfl ?_
  intro p e s m args below meth c s₁ B hml hv
  obtain ⟨rfl, hG, hC⟩ := hv
  have hx := B.exec
  have hb := B.bytes
  have hr := B.returns
  have hts := atoms_spec (ws := wsX12_goes) B.pre
  have hown : s.vm.findClass RX12 = some m.cls := findClass_of_methodNamed B.named
  have hlocks := B.notSynchronized
  have hS : va_S A s.heap s.heap [] := va_S.rf
  have hl := lv_entry ([.ref (ad 8), .int (zI p1), .int (zI p2)]) (n := 6) (Nat.le_of_ble_eq_true rfl)
  rw [lg_entry_eq]
  generalize (lg_sl ([.ref (ad 8), .int (zI p1), .int (zI p2)]) ++ List.replicate (6 - (lg_sl ([.ref (ad 8), .int (zI p1), .int (zI p2)])).length) Slot.unset).toArray = ls at hl ⊢
  have hl : lv_has ls 6 [(0, .ref (ad 8)), (1, .int (zI p1)), (2, .int (zI p2))] := hl
  have u23 := i23
  have u49 := i49
  have u50 := i50
  have u51 := i51
  have uz51 := z51
  refine lv_iload_n hx hb dX12_goes_0 rfl (lv_at hl 1 rfl) ?_
  refine z_iconst hx hb dX12_goes_1 ?_
  refine z_bipush hx hb dX12_goes_2 (by decide) ?_
  refine g_calli (va_runS (As := [.int (zI p1), .int (zI 0), .int (zI 15)]) (rest := []) ⟨hx, hb, hml, hown, hts⟩ (kX12_in l D cy ad jf A u p1 0 15 (by omega) (by omega) (by omega)) (va_cwS 3 hts gX12_goes_X12_in rfl rfl rfl (by decide +kernel) ⟨by decide, by decide⟩) (g_preS hG hC hS) rfl rfl hl.1 rfl (lv_room (Nat.le_of_ble_eq_true rfl)) dX12_goes_4 ⟨Nat.le_of_ble_eq_true rfl, Nat.le_of_ble_eq_true rfl⟩) hS (fun r1 u2 H locs p_3 hG hS => ?_)
  obtain ⟨⟨b4, rfl, q_5⟩, he_⟩ := p_3
  rw [he_] at hG; clear he_
  have hbb4 : 0 ≤ b4 ∧ b4 ≤ 1 := by rcases q_5 with ⟨h, _⟩ | ⟨h, _⟩ <;> omega
  refine z_if_eq (tgt := 19) hx hb dX12_goes_7 (by decide) (by omega) (by omega) (fun c_6 => ?_) (fun c_6 => ?_)
  · refine z_iconst hx hb dX12_goes_19 ?_
    exact W.iret (v := zI ((-1))) hx hb hr (fun t9 ht9_ hW => ⟨⟨zI ((-1)), u, rfl, (by refine ⟨?_, u.2.1 54, _, _, _, _, (by simp only [sF, up_self]; exact (mNp_self u).symm), i53, i54⟩; unfold mGoes; rw [if_neg (by omega)]), gB.mk' hG hC hS ht9_ hW⟩, hS.F ht9_⟩) hS.2.2 dX12_goes_20
  · refine lv_iload_n hx hb dX12_goes_10 rfl (lv_at hl 2 rfl) ?_
    refine z_iconst hx hb dX12_goes_11 ?_
    refine z_iconst hx hb dX12_goes_12 ?_
    refine g_calli (va_runS (As := [.int (zI p2), .int (zI 0), .int (zI 3)]) (rest := []) ⟨hx, hb, hml, hown, hts⟩ (kX12_in l D cy ad jf A u p2 0 3 (by omega) (by omega) (by omega)) (va_cwS 3 hts gX12_goes_X12_in rfl rfl rfl (by decide +kernel) ⟨by decide, by decide⟩) (g_preS hG hC hS) rfl rfl hl.1 rfl (lv_room (Nat.le_of_ble_eq_true rfl)) dX12_goes_13 ⟨Nat.le_of_ble_eq_true rfl, Nat.le_of_ble_eq_true rfl⟩) hS (fun r7 u8 H locs p_9 hG hS => ?_)
    obtain ⟨⟨b10, rfl, q_11⟩, he_⟩ := p_9
    rw [he_] at hG; clear he_
    have hbb10 : 0 ≤ b10 ∧ b10 ≤ 1 := by rcases q_11 with ⟨h, _⟩ | ⟨h, _⟩ <;> omega
    refine z_if_ne (tgt := 21) hx hb dX12_goes_16 (by decide) (by omega) (by omega) (fun c_12 => ?_) (fun c_12 => ?_)
    · refine lv_aload_n hx hb dX12_goes_21 rfl (lv_at hl 0 rfl) ?_
      refine g_callv (va_runV (As := []) (rest := []) ⟨hx, hb, hml, hown, hts⟩ (kX12_none l D cy ad jf A u  ) (cwV 0 hts gX12_goes_X12_none rfl rfl rfl (by decide +kernel) ⟨by decide, by decide⟩) (g_preV (C := RX12) hG hC hS 8 (by decide) rfl rfl) rfl rfl hl.1 rfl (lv_room (Nat.le_of_ble_eq_true rfl)) dX12_goes_22 ⟨Nat.le_of_ble_eq_true rfl, Nat.le_of_ble_eq_true rfl⟩) hS (fun u14 H locs p_15 hG hS => ?_)
      obtain ⟨f9, hf8, hf9⟩ := mNone_f 11 0 u (by decide) (by decide) (fun j hj => by exfalso; omega)
      rw [hf8] at p_15
      have hn0 : u14 = mNp (sF u 54 f9) (u.2.1 53) (u.2.1 55) (u.2.1 56) (u.2.1 57) := p_15.trans (mNp_self _).symm
      have i23 : 0 ≤ u14.1 23 ∧ u14.1 23 ≤ 10 := by rw [hn0]; exact i23
      have i49 : ∀ j, j < 16 → u14.2.1 49 j = 0 ∨ u14.2.1 49 j = 1 := by rw [hn0]; exact i49
      have i50 : ∀ j, j < 10 → 0 ≤ u14.2.1 50 j ∧ u14.2.1 50 j ≤ 3 := by rw [hn0]; exact i50
      have i51 : ∀ j, j < 10 → 0 ≤ u14.2.1 51 j ∧ u14.2.1 51 j ≤ 4 := by rw [hn0]; exact i51
      have z51 : ∀ j : Nat, u14.1 23 ≤ (j : Int) → j < 10 → u14.2.1 51 j = 0 := by rw [hn0]; exact z51
      have i54 : ∀ j, j < 10 → u14.2.1 54 j = 0 ∨ u14.2.1 54 j = 1 := by rw [hn0]; exact (fun j hj => Or.inl (hf9 j hj))
      have i53 : ∀ j, j < 16 → -1 ≤ u14.2.1 53 j ∧ u14.2.1 53 j ≤ 9 := by rw [hn0]; exact i53
      refine lv_aload_n hx hb dX12_goes_25 rfl (lv_at hl 0 rfl) ?_
      refine lv_iload_n hx hb dX12_goes_26 rfl (lv_at hl 2 rfl) ?_
      refine z_iconst hx hb dX12_goes_27 ?_
      refine g_calli (va_runV (As := [.int (zI p2), .int (zI 0)]) (rest := []) ⟨hx, hb, hml, hown, hts⟩ (kX12_mostFrom l D cy ad jf A u14 p2 0 (by omega) (by omega) i23 i49 i50 i51 i54 z51 i53) (cwV 2 hts gX12_goes_X12_mostFrom rfl rfl rfl (by decide +kernel) ⟨by decide, by decide⟩) (g_preV (C := RX12) hG hC hS 8 (by decide) rfl rfl) rfl rfl hl.1 rfl (lv_room (Nat.le_of_ble_eq_true rfl)) dX12_goes_28 ⟨Nat.le_of_ble_eq_true rfl, Nat.le_of_ble_eq_true rfl⟩) hS (fun r16 u17 H locs p_18 hG hS => ?_)
      obtain ⟨rfl, H18, A18, B18, C18, hu17, hr18⟩ := p_18
      obtain ⟨z19, hz19⟩ : ∃ z : Int, z = mMost u14 p2 0 := ⟨_, rfl⟩
      rw [← hz19]
      have qz19 : 0 ≤ z19 ∧ z19 ≤ 16 := by rw [hz19]; exact mMost_bnd u14 (by omega) (by omega)
      refine lv_istore_n (lv' := [(3, .int (zI z19)), (0, .ref (ad 8)), (1, .int (zI p1)), (2, .int (zI p2))]) hx hb dX12_goes_31 rfl hl (by decide) rfl (fun ls hl => ?_)
      refine z_bipush hx hb dX12_goes_32 (by decide) ?_
      refine lv_istore (lv' := [(4, .int (zI ((-2)))), (3, .int (zI z19)), (0, .ref (ad 8)), (1, .int (zI p1)), (2, .int (zI p2))]) hx hb dX12_goes_34 hl (by decide) rfl (fun ls hl => ?_)
      refine z_iconst hx hb dX12_goes_36 ?_
      refine lv_istore (lv' := [(5, .int (zI 0)), (4, .int (zI ((-2)))), (3, .int (zI z19)), (0, .ref (ad 8)), (1, .int (zI p1)), (2, .int (zI p2))]) hx hb dX12_goes_37 hl (by decide) rfl (fun ls hl => ?_)
      have loop39 : ∀ (n : Nat) (mo wh t : Int) (x : gS) (H : Heap) (locs : List Loc) (ls : Array Slot), (p1 + 1 - t).toNat < n → (0 ≤ t ∧ t ≤ p1 + 1) → ((wh = -2 ∨ 0 ≤ wh) ∧ wh ≤ 9) → (-512 ≤ mo ∧ mo ≤ 16) → (∃ F9 H9 A9 B9 C9, x = mNp (sF u 54 F9) H9 A9 B9 C9 ∧ (∀ e, e < 16 → -1 ≤ H9 e ∧ H9 e ≤ 9) ∧ ∀ j, j < 10 → F9 j = 0 ∨ F9 j = 1) → (mo = mMost x p2 t) → (wgL (mCan u) (u.2.1 51) (p1.toNat + 1 - t.toNat) t.toNat (mGone x p2) (if wh < 0 then -1 else wh) = mWho u p1 p2) → gH D cy ad jf A x H → va_S A s.heap H locs → lv_has ls 6 [(5, .int (zI t)), (4, .int (zI wh)), (3, .int (zI mo)), (0, .ref (ad 8)), (1, .int (zI p1)), (2, .int (zI p2))] → W p l e (headSpec wsX12_goes ({ frames := 4, cells := 0, slots := 0, locals := 103 })).room s m ([.ref (ad 8), .int (zI p1), .int (zI p2)]).toArray below meth c H locs 0 0 (MQ below (va_Qi (fun (r : Int32) (v : gS) => r = zI (mGoes u p1 p2) ∧ ∃ F9 H9 A9 B9 C9, v = mNp (sF u 54 F9) H9 A9 B9 C9 ∧ (∀ e, e < 16 → -1 ≤ H9 e ∧ H9 e ≤ 9) ∧ ∀ j, j < 10 → F9 j = 0 ∨ F9 j = 1) (gB D cy ad jf A) A) ([.ref (ad 8), .int (zI p1), .int (zI p2)]).toArray s 0 0 A) (F0 m 39 ls []) := by
        intro n
        induction n with
        | zero => intro mo wh t x H locs ls hm39; exact absurd hm39 (Nat.not_lt_zero _)
        | succ n ih39 =>
          intro mo wh t x H locs ls hm39 ht hwh hm0 hxx hmo hT hG hS hl
          obtain ⟨F9, H9, A9, B9, C9, hx0, hr9, hF9⟩ := hxx
          have hmb := mMost_bnd x (p := p2) (d := t) (by omega) (by omega)
          have i23 : 0 ≤ x.1 23 ∧ x.1 23 ≤ 10 := by rw [hx0]; exact u23
          have i49 : ∀ j, j < 16 → x.2.1 49 j = 0 ∨ x.2.1 49 j = 1 := by rw [hx0]; exact u49
          have i50 : ∀ j, j < 10 → 0 ≤ x.2.1 50 j ∧ x.2.1 50 j ≤ 3 := by rw [hx0]; exact u50
          have i51 : ∀ j, j < 10 → 0 ≤ x.2.1 51 j ∧ x.2.1 51 j ≤ 4 := by rw [hx0]; exact u51
          have z51 : ∀ j : Nat, x.1 23 ≤ (j : Int) → j < 10 → x.2.1 51 j = 0 := by rw [hx0]; exact uz51
          have i54 : ∀ j, j < 10 → x.2.1 54 j = 0 ∨ x.2.1 54 j = 1 := by rw [hx0]; exact hF9
          have i53 : ∀ j, j < 16 → -1 ≤ x.2.1 53 j ∧ x.2.1 53 j ≤ 9 := by rw [hx0]; exact hr9
          refine lv_iload hx hb dX12_goes_39 (lv_at hl 0 rfl) ?_
          refine lv_iload_n hx hb dX12_goes_41 rfl (lv_at hl 4 rfl) ?_
          refine z_icmp_gt (tgt := 77) hx hb dX12_goes_42 (by decide) (by omega) (by omega) (by omega) (by omega) (fun c_20 => ?_) (fun c_20 => ?_)
          · refine lv_iload hx hb dX12_goes_77 (lv_at hl 1 rfl) ?_
            exact W.iret (v := zI wh) hx hb hr (fun t9 ht9_ hW => ⟨⟨zI wh, x, rfl, (by refine ⟨?_, F9, H9, A9, B9, C9, hx0, hr9, hF9⟩; congr 1; unfold mGoes; rw [if_pos (by omega), ← hT, show p1.toNat + 1 - t.toNat = 0 by omega]; show _ = if (if wh < 0 then -1 else wh) < 0 then -2 else (if wh < 0 then -1 else wh); by_cases h : wh < 0; (rw [if_pos h, if_pos (by decide)]; omega); (rw [if_neg h, if_neg h])), gB.mk' hG hC hS ht9_ hW⟩, hS.F ht9_⟩) hS.2.2 dX12_goes_79
          · refine lv_aload_n hx hb dX12_goes_45 rfl (lv_at hl 3 rfl) ?_
            refine lv_iload hx hb dX12_goes_46 (lv_at hl 0 rfl) ?_
            refine lv_iload_n hx hb dX12_goes_48 rfl (lv_at hl 5 rfl) ?_
            refine lv_iload_n hx hb dX12_goes_49 rfl (lv_at hl 2 rfl) ?_
            refine g_calli (va_runV (As := [.int (zI t), .int (zI p2), .int (zI mo)]) (rest := []) ⟨hx, hb, hml, hown, hts⟩ (kX12_goesOn l D cy ad jf A x t p2 mo (by omega) (by omega) hmo i23 i49 i50 i51 i54 z51 i53) (cwV 3 hts gX12_goes_X12_goesOn rfl rfl rfl (by decide +kernel) ⟨by decide, by decide⟩) (g_preV (C := RX12) hG hC hS 8 (by decide) rfl rfl) rfl rfl hl.1 rfl (lv_room (Nat.le_of_ble_eq_true rfl)) dX12_goes_50 ⟨Nat.le_of_ble_eq_true rfl, Nat.le_of_ble_eq_true rfl⟩) hS (fun r21 u22 H locs p_23 hG hS => ?_)
            obtain ⟨rfl, H23, A23, B23, C23, hu22, hr23⟩ := p_23
            obtain ⟨z24, hz24⟩ : ∃ z : Int, z = mGoesOn x t p2 := ⟨_, rfl⟩
            rw [← hz24]
            have hP9 := pkv_bnd (mCan u) (u.2.1 51) t.toNat (mGone x p2)
            have qz24 : z24 = if pkv (mCan u) (u.2.1 51) t.toNat (mGone x p2) < 0 then -2 else pkv (mCan u) (u.2.1 51) t.toNat (mGone x p2) := by rw [hz24, hx0]; exact pk_m2 10 0
            have bz24 : (z24 = -2 ∧ pkv (mCan u) (u.2.1 51) t.toNat (mGone x p2) = -1) ∨ (z24 = pkv (mCan u) (u.2.1 51) t.toNat (mGone x p2) ∧ 0 ≤ z24 ∧ z24 ≤ 9) := by rw [qz24]; split <;> omega
            clear qz24
            refine lv_istore (lv' := [(4, .int (zI z24)), (5, .int (zI t)), (3, .int (zI mo)), (0, .ref (ad 8)), (1, .int (zI p1)), (2, .int (zI p2))]) hx hb dX12_goes_53 hl (by decide) rfl (fun ls hl => ?_)
            refine lv_iload hx hb dX12_goes_55 (lv_at hl 0 rfl) ?_
            refine z_if_lt (tgt := 71) hx hb dX12_goes_57 (by decide) (by omega) (by omega) (fun c_25 => ?_) (fun c_25 => ?_)
            · refine z_iinc (lv' := [(5, .int (zI (t + 1))), (4, .int (zI z24)), (3, .int (zI mo)), (0, .ref (ad 8)), (1, .int (zI p1)), (2, .int (zI p2))]) hx hb dX12_goes_71 hl (k := 1) rfl (by decide) rfl (fun ls hl => ?_)
              refine lv_goto (tgt := 39) hx hb dX12_goes_74 (by decide) ?_
              exact ih39 mo z24 (t + 1) u22 _ _ _ (by omega) (by omega) (by omega) (by omega) (by exact ⟨F9, H23, A23, B23, C23, (by rw [hu22, hx0, mNp_mNp]), hr23, hF9⟩) (by rw [hmo, hu22]; unfold mMost; rw [show (t + 1).toNat = t.toNat + 1 by omega, show 16 - (t.toNat + 1) = 15 - t.toNat by omega]; have hst := mx_stay (can := mCan x) (sl := x.2.1 51) (d := t.toNat) (gone := mGone x p2) (who := -2) (by omega) (by have h : pkL (okD (mCan x) t.toNat (mGone x p2)) (x.2.1 51) 10 0 (-2) = z24 := hz24.symm; omega); rw [← hst]; rfl) (by rw [show (t + 1).toNat = t.toNat + 1 by omega, show p1.toNat + 1 - (t.toNat + 1) = p1.toNat - t.toNat by omega]; rw [show p1.toNat + 1 - t.toNat = (p1.toNat - t.toNat) + 1 by omega] at hT; have hw1 := wg_no hT (by omega); rw [show (if z24 < 0 then -1 else z24) = pkv (mCan u) (u.2.1 51) t.toNat (mGone x p2) by (rw [if_pos (by omega)]; omega), hu22, show mGone (mNp x H23 A23 B23 C23) p2 = mGone x p2 from rfl]; exact hw1) hG hS (lv_sub hl [0, 1, 2, 3, 4, 5] rfl)
            · refine lv_aload_n hx hb dX12_goes_60 rfl (lv_at hl 3 rfl) ?_
              refine g_get (C := RX12) (T := TX12) (N := 42) (ci := 11) hx hb hts (fun _ h => (List.mem_cons_of_mem _ (List.mem_append_right _ h))) hown hC.1 hG 8 (by decide) rfl rfl 32 (by decide) (hts (.fieldLink RX12 90 "StraitSwimModel" "fixed" "[Z") (List.mem_cons_of_mem _ (List.mem_append_left _ (List.mem_append_left _ (List.mem_of_getElem? (i := 0) rfl))))) (fun _ h9 => h9) rfl dX12_goes_61 ?_
              refine lv_iload hx hb dX12_goes_64 (lv_at hl 0 rfl) ?_
              refine z_iconst hx hb dX12_goes_66 ?_
              refine g_zast (n := 10) hx hb hC.1 hG hS 54 (by decide) (by omega) rfl rfl (by omega) (by omega) (by decide) dX12_goes_67 (fun u26 H locs hu26 hG hS => ?_)
              refine z_iinc (lv' := [(3, .int (zI (mo + (-1)))), (4, .int (zI z24)), (5, .int (zI t)), (0, .ref (ad 8)), (1, .int (zI p1)), (2, .int (zI p2))]) hx hb dX12_goes_68 hl (k := 2) rfl (by decide) rfl (fun ls hl => ?_)
              have hxn : u26 = mNp (sF u 54 (va_up F9 z24.toNat 1)) H23 A23 B23 C23 := by rw [hu26, hu22, hx0, mNp_mNp, mNp_54]; simp only [sF, up_up]; rfl
              have hgn : mGone u26 p2 = upB (mGone x p2) z24.toNat := by rw [hxn, hx0, mGone_up]; rfl
              refine z_iinc (lv' := [(5, .int (zI (t + 1))), (3, .int (zI (mo + (-1)))), (4, .int (zI z24)), (0, .ref (ad 8)), (1, .int (zI p1)), (2, .int (zI p2))]) hx hb dX12_goes_71 hl (k := 2) rfl (by decide) rfl (fun ls hl => ?_)
              refine lv_goto (tgt := 39) hx hb dX12_goes_74 (by decide) ?_
              exact ih39 (mo + (-1)) z24 (t + 1) u26 _ _ _ (by omega) (by omega) (by omega) (by omega) (by exact ⟨va_up F9 z24.toNat 1, H23, A23, B23, C23, hxn, hr23, (fun j hj => by by_cases h : j = z24.toNat; (rw [h, up_s]; exact Or.inr rfl); (rw [up_n _ _ h]; exact hF9 j hj))⟩) (by have hok := (okD_iff.mp (pk_ok (ok := okD (mCan x) t.toNat (mGone x p2)) (sl := x.2.1 51) (n := 10) (s := 0) (who := -2) (fun h => absurd h (by decide)) (by have h : pkL (okD (mCan x) t.toNat (mGone x p2)) (x.2.1 51) 10 0 (-2) = z24 := hz24.symm; omega))).2; rw [show pkL (okD (mCan x) t.toNat (mGone x p2)) (x.2.1 51) 10 0 (-2) = z24 from hz24.symm] at hok; rw [hmo]; unfold mMost; rw [hgn, show (t + 1).toNat = t.toNat + 1 by omega, show 16 - (t.toNat + 1) = 15 - t.toNat by omega, show mCan u26 = mCan x from (by rw [hxn, hx0]; rfl), ← hok]; omega) (by rw [show (t + 1).toNat = t.toNat + 1 by omega, show p1.toNat + 1 - (t.toNat + 1) = p1.toNat - t.toNat by omega]; rw [show p1.toNat + 1 - t.toNat = (p1.toNat - t.toNat) + 1 by omega] at hT; have hw1 := wg_yes hT (by omega); rw [show (if z24 < 0 then -1 else z24) = pkv (mCan u) (u.2.1 51) t.toNat (mGone x p2) by (rw [if_neg (by omega)]; omega), hgn]; rw [show pkv (mCan u) (u.2.1 51) t.toNat (mGone x p2) = z24 by omega] at hw1 ⊢; exact hw1) hG hS (lv_sub hl [0, 2, 1, 3, 4, 5] rfl)
      exact loop39 _ z19 ((-2)) 0 u17 _ _ _ (Nat.lt_succ_self _) (by omega) (by omega) (by omega) (by exact ⟨f9, H18, A18, B18, C18, (by rw [hu17, hn0, mNp_mNp]), hr18, (fun j hj => Or.inl (hf9 j hj))⟩) (by rw [hz19, hu17]; rfl) (by rw [hu17, hn0, mNp_mNp]; exact wg_congr (fun s e _ _ => rfl) (p1.toNat + 1) 0 _ _ (-1) (by omega) (fun s hs => by show (!(decide (f9 s = 0) && decide (0 < u.2.1 51 s) && decide (u.2.1 50 s = p2))) = _; rw [hf9 s hs]; rfl)) hG hS (lv_sub hl [0, 1, 2, 3, 4, 5] rfl)
    · refine z_iconst hx hb dX12_goes_19 ?_
      exact W.iret (v := zI ((-1))) hx hb hr (fun t9 ht9_ hW => ⟨⟨zI ((-1)), u, rfl, (by refine ⟨?_, u.2.1 54, _, _, _, _, (by simp only [sF, up_self]; exact (mNp_self u).symm), i53, i54⟩; unfold mGoes; rw [if_neg (by omega)]), gB.mk' hG hC hS ht9_ hW⟩, hS.F ht9_⟩) hS.2.2 dX12_goes_20
