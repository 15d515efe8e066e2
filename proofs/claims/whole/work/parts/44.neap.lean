set_option maxHeartbeats 4000000 in
set_option maxRecDepth 100000 in
theorem kJ7_fill_53178 (l : Launch) (D : va_G) (cy : Nat → ClassId) (ad : Nat → Nat) (jf : Nat → Int64) (A : Nat → Prop) (u : gS) (p2 : Int) (j_p2 : -2147483648 ≤ p2 ∧ p2 < 2147483648) : Met l yJ7_fill_53178 wsJ7_fill_53178 ({ frames := 0, cells := 0, slots := 0, locals := 0 }) (va_Pc [.ref (ad 29), .int (zI p2)] (gB D cy ad jf A u)) (va_Qv (fun (v : gS) => ∃ f : Nat → Int, v = sF u 29 f ∧ ∀ j, j < 16 → f j = p2) (gB D cy ad jf A) A) 0 0 A := by
  refine Met.ofW (cc := cJ7_fill_53178) (maxL := 4) (ret := none) (by decide) rfl ?_
  intro p e s m args below meth c s₁ B hml hv
  obtain ⟨rfl, hG, hC⟩ := hv
  have hx := B.exec
  have hb := B.bytes
  have hr := B.returns
  have hts := atoms_spec (ws := wsJ7_fill_53178) B.pre
  have hown : s.vm.findClass RJ7 = some m.cls := findClass_of_methodNamed B.named
  have hlocks := B.notSynchronized
  have hS : va_S A s.heap s.heap [] := va_S.rf
  have hl := lv_entry ([.ref (ad 29), .int (zI p2)]) (n := 4) (Nat.le_of_ble_eq_true rfl)
  rw [lg_entry_eq]
  generalize (lg_sl ([.ref (ad 29), .int (zI p2)]) ++ List.replicate (4 - (lg_sl ([.ref (ad 29), .int (zI p2)])).length) Slot.unset).toArray = ls at hl ⊢
  have hl : lv_has ls 4 [(0, .ref (ad 29)), (1, .int (zI p2))] := hl
  refine z_iconst hx hb dJ7_fill_53178_0 ?_
  refine lv_istore_n (lv' := [(2, .int (zI 0)), (0, .ref (ad 29)), (1, .int (zI p2))]) hx hb dJ7_fill_53178_1 rfl hl (by decide) rfl (fun ls hl => ?_)
  refine lv_aload_n hx hb dJ7_fill_53178_2 rfl (lv_at hl 1 rfl) ?_
  refine g_alen (n := 16) hx hb hC.1 hG 29 (by decide) rfl dJ7_fill_53178_3 ?_
  refine lv_istore_n (lv' := [(3, .int (zI (((16 : Nat) : Int)))), (2, .int (zI 0)), (0, .ref (ad 29)), (1, .int (zI p2))]) hx hb dJ7_fill_53178_4 rfl hl (by decide) rfl (fun ls hl => ?_)
  have loop5 : ∀ (n : Nat) (t : Int) (w : gS) (H : Heap) (locs : List Loc) (ls : Array Slot), (16 - t).toNat < n → (0 ≤ t ∧ t ≤ 16) → (∃ f : Nat → Int, w = sF u 29 f ∧ ∀ j : Nat, (j : Int) < t → f j = p2) → gH D cy ad jf A w H → va_S A s.heap H locs → lv_has ls 4 [(3, .int (zI (((16 : Nat) : Int)))), (2, .int (zI t)), (0, .ref (ad 29)), (1, .int (zI p2))] → W p l e (headSpec wsJ7_fill_53178 ({ frames := 0, cells := 0, slots := 0, locals := 0 })).room s m ([.ref (ad 29), .int (zI p2)]).toArray below meth c H locs 0 0 (MQ below (va_Qv (fun (v : gS) => ∃ f : Nat → Int, v = sF u 29 f ∧ ∀ j, j < 16 → f j = p2) (gB D cy ad jf A) A) ([.ref (ad 29), .int (zI p2)]).toArray s 0 0 A) (F0 m 5 ls []) := by
    intro n
    induction n with
    | zero => intro t w H locs ls hm; exact absurd hm (Nat.not_lt_zero _)
    | succ n ih5 =>
      intro t w H locs ls hm ht hw hG hS hl
      obtain ⟨f, hw0, hf⟩ := hw
      refine lv_iload_n hx hb dJ7_fill_53178_5 rfl (lv_at hl 1 rfl) ?_
      refine lv_iload_n hx hb dJ7_fill_53178_6 rfl (lv_at hl 0 rfl) ?_
      refine z_icmp_ge (tgt := 20) hx hb dJ7_fill_53178_7 (by decide) (by omega) (by omega) (by omega) (by omega) (fun c_1 => ?_) (fun c_1 => ?_)
      · exact W.vret hx hb hr (fun t9 ht9_ hW => ⟨⟨w, rfl, (by exact ⟨f, hw0, (fun j hj => hf j (by omega))⟩), gB.mk' hG hC hS ht9_ hW⟩, hS.F ht9_⟩) hS.2.2 dJ7_fill_53178_20
      · refine lv_aload_n hx hb dJ7_fill_53178_10 rfl (lv_at hl 2 rfl) ?_
        refine lv_iload_n hx hb dJ7_fill_53178_11 rfl (lv_at hl 1 rfl) ?_
        refine lv_iload_n hx hb dJ7_fill_53178_12 rfl (lv_at hl 3 rfl) ?_
        refine g_iast (n := 16) hx hb hC.1 hG hS 29 (by decide) rfl rfl (by omega) (by omega) (by decide) dJ7_fill_53178_13 (fun u2 H locs hu2 hG hS => ?_)
        refine z_iinc (lv' := [(2, .int (zI (t + 1))), (3, .int (zI (((16 : Nat) : Int)))), (0, .ref (ad 29)), (1, .int (zI p2))]) hx hb dJ7_fill_53178_14 hl (k := 1) rfl (by decide) rfl (fun ls hl => ?_)
        refine lv_goto (tgt := 5) hx hb dJ7_fill_53178_17 (by decide) ?_
        exact ih5 (t + 1) u2 _ _ _ (by omega) (by omega) (by subst hu2; subst hw0; exact ⟨_, (by simp only [sF, up_up]; rfl), fill_st ht.1 (fun j hj => by rw [up_s]; exact hf j hj)⟩) hG hS (lv_sub hl [1, 0, 2, 3] rfl)
  exact loop5 _ 0 u _ _ _ (Nat.lt_succ_self _) (by omega) (by exact ⟨u.2.1 29, (by simp only [sF]; rw [up_self]), (fun j hj => by exfalso; omega)⟩) hG hS (lv_sub hl [0, 1, 2, 3] rfl)
set_option maxHeartbeats 4000000 in
set_option maxRecDepth 100000 in
theorem kX2_findDayN (l : Launch) (D : va_G) (cy : Nat → ClassId) (ad : Nat → Nat) (jf : Nat → Int64) (A : Nat → Prop) : ∀ (N : Nat) (u : gS) (p1 p2 p3 : Int) (j_p2 : -2147483648 ≤ p2 ∧ p2 < 2147483648) (can : Nat → Nat → Bool) (dd nn : Nat) (gone : Nat → Bool) (hdn : dd + nn = 16) (hcan : ∀ s e, s < 10 → e < 16 → ((tb (u.2.1 28 s) e && tb p2 e) = true ↔ mtIn dd nn e ∧ can s e = true)) (j_1 : 0 ≤ p1 ∧ p1 ≤ 9) (hg1 : gone p1.toNat = false) (hrow : ∀ e, e < 16 → -1 ≤ u.2.1 29 e ∧ u.2.1 29 e ≤ 9) (hgo : ∀ e, mtIn dd nn e → 0 ≤ u.2.1 29 e → gone (u.2.1 29 e).toNat = false) (hij : MIj dd nn (fun e => tb (u.1 19) e = true) (u.2.1 29) p1.toNat) (hP : ∃ P : List Nat, P.Nodup ∧ (P.length : Int) = p3 ∧ ∀ e, e ∈ P → mtIn dd nn e ∧ tb (u.1 19) e = true ∧ 0 ≤ u.2.1 29 e) (hmax : ∀ P : List Nat, P.Nodup → (∀ e, e ∈ P → mtIn dd nn e ∧ 0 ≤ u.2.1 29 e) → P.length ≤ 9) (hN : (10 : Int) ≤ p3 + (N : Int)), Met l yX2_findDay wsX2_findDay ({ frames := N, cells := 0, slots := 0, locals := 30 * N }) (va_Pc [.ref (ad 7), .int (zI p1), .int (zI p2), .int (zI p3)] (gB D cy ad jf A u)) (va_Qi (fun (r : Int32) (v : gS) => ∃ b : Int, r = zI b ∧ ((b = 1 ∧ ∃ (T9 : Int) (H9 : Nat → Int), v = cNp u T9 H9 ∧ (∀ e, e < 16 → -1 ≤ H9 e ∧ H9 e ≤ 9) ∧ MFd can dd nn gone p1.toNat (fun e => tb (u.1 19) e = true) (u.2.1 29) H9) ∨ (b = 0 ∧ ∃ T9 : Int, v = sI u 19 T9 ∧ MFl can dd nn p1.toNat (fun e => tb (u.1 19) e = true) (fun e => tb T9 e = true) (u.2.1 29)))) (gB D cy ad jf A) A) 0 0 A := by
  intro N
  induction N with
  | zero => intro u p1 p2 p3 j_p2 can dd nn gone hdn hcan j_1 hg1 hrow hgo hij hP hmax hN; obtain ⟨P, hP1, hP2, hP3⟩ := hP; have := hmax P hP1 (fun e he => ⟨(hP3 e he).1, (hP3 e he).2.2⟩); exfalso; omega
  | succ N ih =>
    intro u p1 p2 p3 j_p2 can dd nn gone hdn hcan j_1 hg1 hrow hgo hij hP hmax hN
    refine Met.ofW (cc := cX2_findDay) (maxL := 6) (ret := (some .boolean)) (by decide) rfl ?_
    intro p e s m args below meth c s₁ B hml hv
    obtain ⟨rfl, hG, hC⟩ := hv
    have hx := B.exec
    have hb := B.bytes
    have hr := B.returns
    have hts := atoms_spec (ws := wsX2_findDay) B.pre
    have hown : s.vm.findClass RX2 = some m.cls := findClass_of_methodNamed B.named
    have hlocks := B.notSynchronized
    have hS : va_S A s.heap s.heap [] := va_S.rf
    have hl := lv_entry ([.ref (ad 7), .int (zI p1), .int (zI p2), .int (zI p3)]) (n := 6) (Nat.le_of_ble_eq_true rfl)
    rw [lg_entry_eq]
    generalize (lg_sl ([.ref (ad 7), .int (zI p1), .int (zI p2), .int (zI p3)]) ++ List.replicate (6 - (lg_sl ([.ref (ad 7), .int (zI p1), .int (zI p2), .int (zI p3)])).length) Slot.unset).toArray = ls at hl ⊢
    have hl : lv_has ls 6 [(0, .ref (ad 7)), (1, .int (zI p1)), (2, .int (zI p2)), (3, .int (zI p3))] := hl
    obtain ⟨P, hP1, hP2, hP3⟩ := hP
    have hp3 : 0 ≤ p3 ∧ p3 ≤ 9 := by have := hmax P hP1 (fun e he => ⟨(hP3 e he).1, (hP3 e he).2.2⟩); omega
    refine lv_iload_n hx hb dX2_findDay_0 rfl (lv_at hl 1 rfl) ?_
    refine z_if_lt (tgt := 10) hx hb dX2_findDay_1 (by decide) (by omega) (by omega) (fun c_1 => ?_) (fun c_1 => ?_)
    · exfalso; omega
    · refine lv_iload_n hx hb dX2_findDay_4 rfl (lv_at hl 3 rfl) ?_
      refine z_bipush hx hb dX2_findDay_5 (by decide) ?_
      refine z_icmp_le (tgt := 12) hx hb dX2_findDay_7 (by decide) (by omega) (by omega) (by omega) (by omega) (fun c_2 => ?_) (fun c_2 => ?_)
      · refine z_iconst hx hb dX2_findDay_12 ?_
        refine lv_istore (lv' := [(4, .int (zI 0)), (0, .ref (ad 7)), (1, .int (zI p1)), (2, .int (zI p2)), (3, .int (zI p3))]) hx hb dX2_findDay_13 hl (by decide) rfl (fun ls hl => ?_)
        have loop15 : ∀ (n : Nat) (i : Int) (w : gS) (H : Heap) (locs : List Loc) (ls : Array Slot), (16 - i).toNat < n → (0 ≤ i ∧ i ≤ 16) → (∃ Ti : Int, w = sI u 19 Ti ∧ MFp can dd nn p1.toNat (fun e => tb (u.1 19) e = true) (fun e => tb Ti e = true) (u.2.1 29) i.toNat) → gH D cy ad jf A w H → va_S A s.heap H locs → lv_has ls 6 [(4, .int (zI i)), (0, .ref (ad 7)), (1, .int (zI p1)), (2, .int (zI p2)), (3, .int (zI p3))] → W p l e (headSpec wsX2_findDay ({ frames := N + 1, cells := 0, slots := 0, locals := 30 * (N + 1) })).room s m ([.ref (ad 7), .int (zI p1), .int (zI p2), .int (zI p3)]).toArray below meth c H locs 0 0 (MQ below (va_Qi (fun (r : Int32) (v : gS) => ∃ b : Int, r = zI b ∧ ((b = 1 ∧ ∃ (T9 : Int) (H9 : Nat → Int), v = cNp u T9 H9 ∧ (∀ e, e < 16 → -1 ≤ H9 e ∧ H9 e ≤ 9) ∧ MFd can dd nn gone p1.toNat (fun e => tb (u.1 19) e = true) (u.2.1 29) H9) ∨ (b = 0 ∧ ∃ T9 : Int, v = sI u 19 T9 ∧ MFl can dd nn p1.toNat (fun e => tb (u.1 19) e = true) (fun e => tb T9 e = true) (u.2.1 29)))) (gB D cy ad jf A) A) ([.ref (ad 7), .int (zI p1), .int (zI p2), .int (zI p3)]).toArray s 0 0 A) (F0 m 15 ls []) := by
          intro n
          induction n with
          | zero => intro i w H locs ls hm; exact absurd hm (Nat.not_lt_zero _)
          | succ n ih15 =>
            intro i w H locs ls hm hi hw hG hS hl
            obtain ⟨Ti, hw0, hp⟩ := hw
            have e19 : w.1 19 = Ti := by rw [hw0]; rfl
            have e28 : w.2.1 28 = u.2.1 28 := by rw [hw0]
            have e29 : w.2.1 29 = u.2.1 29 := by rw [hw0]
            have hr29 : ∀ j, j < 16 → -1 ≤ w.2.1 29 j ∧ w.2.1 29 j ≤ 9 := by rw [e29]; exact hrow
            refine lv_iload hx hb dX2_findDay_15 (lv_at hl 0 rfl) ?_
            refine z_bipush hx hb dX2_findDay_17 (by decide) ?_
            refine z_icmp_ge (tgt := 105) hx hb dX2_findDay_19 (by decide) (by omega) (by omega) (by omega) (by omega) (fun c_3 => ?_) (fun c_3 => ?_)
            · refine z_iconst hx hb dX2_findDay_105 ?_
              exact W.zret (ty := .boolean) (v := zI 0) hx hb hr (nar_b (by omega)) (fun t9 ht9_ hW => ⟨⟨zI 0, w, rfl, (by exact ⟨0, rfl, Or.inr ⟨rfl, Ti, hw0, MFp_end hp (by omega)⟩⟩), gB.mk' hG hC hS ht9_ hW⟩, hS.F ht9_⟩) hS.2.2 dX2_findDay_106
            · refine z_iconst hx hb dX2_findDay_22 ?_
              refine lv_iload hx hb dX2_findDay_23 (lv_at hl 0 rfl) ?_
              have q_4 := bShl_bnd 1 i
              refine z_ishl hx hb dX2_findDay_25 ?_
              refine lv_istore (lv' := [(5, .int (zI (bShl 1 i))), (4, .int (zI i)), (0, .ref (ad 7)), (1, .int (zI p1)), (2, .int (zI p2)), (3, .int (zI p3))]) hx hb dX2_findDay_26 hl (by decide) rfl (fun ls hl => ?_)
              refine lv_aload_n hx hb dX2_findDay_28 rfl (lv_at hl 2 rfl) ?_
              refine g_get (C := RX2) (T := TX2) (N := 7) (ci := 1) hx hb hts (fun _ h => (List.mem_cons_of_mem _ (List.mem_append_right _ h))) hown hC.1 hG 7 (by decide) rfl rfl 4 (by decide) (hts (.fieldLink RX2 26 "StraitSwim$Neap" "days" "[I") (List.mem_cons_of_mem _ (List.mem_append_left _ (List.mem_of_getElem? (i := 0) rfl)))) (fun _ h9 => h9) rfl dX2_findDay_29 ?_
              refine lv_iload_n hx hb dX2_findDay_32 rfl (lv_at hl 3 rfl) ?_
              refine g_iald (n := 10) hx hb hC.1 hG 28 (by decide) rfl (by omega) (by omega) (by decide) dX2_findDay_33 ?_
              refine lv_iload_n hx hb dX2_findDay_34 rfl (lv_at hl 4 rfl) ?_
              have q_5 := bAnd_bnd (w.2.1 28 p1.toNat) p2
              refine z_iand hx hb dX2_findDay_35 ?_
              refine lv_aload_n hx hb dX2_findDay_36 rfl (lv_at hl 2 rfl) ?_
              refine g_get (C := RX2) (T := TX2) (N := 7) (ci := 1) hx hb hts (fun _ h => (List.mem_cons_of_mem _ (List.mem_append_right _ h))) hown hC.1 hG 7 (by decide) rfl rfl 6 (by decide) (hts (.fieldLink RX2 32 "StraitSwim$Neap" "tried" "I") (List.mem_cons_of_mem _ (List.mem_append_left _ (List.mem_of_getElem? (i := 1) rfl)))) (fun _ h9 => h9) rfl dX2_findDay_37 ?_
              refine z_iconst hx hb dX2_findDay_40 ?_
              have q_6 := bXor_bnd (w.1 19) ((-1))
              refine z_ixor hx hb dX2_findDay_41 ?_
              have q_7 := bAnd_bnd (bAnd (w.2.1 28 p1.toNat) p2) (bXor (w.1 19) ((-1)))
              refine z_iand hx hb dX2_findDay_42 ?_
              refine lv_iload hx hb dX2_findDay_43 (lv_at hl 0 rfl) ?_
              have q_8 := bAnd_bnd (bAnd (bAnd (w.2.1 28 p1.toNat) p2) (bXor (w.1 19) ((-1)))) (bShl 1 i)
              refine z_iand hx hb dX2_findDay_45 ?_
              refine z_if_eq (tgt := 99) hx hb dX2_findDay_46 (by decide) (by omega) (by omega) (fun c_9 => ?_) (fun c_9 => ?_)
              · refine z_iinc (lv' := [(4, .int (zI (i + 1))), (5, .int (zI (bShl 1 i))), (0, .ref (ad 7)), (1, .int (zI p1)), (2, .int (zI p2)), (3, .int (zI p3))]) hx hb dX2_findDay_99 hl (k := 1) rfl (by decide) rfl (fun ls hl => ?_)
                refine lv_goto (tgt := 15) hx hb dX2_findDay_102 (by decide) ?_
                exact ih15 (i + 1) w _ _ _ (by omega) (by omega) (by exact ⟨Ti, hw0, (by rw [show (i + 1).toNat = i.toNat + 1 by omega]; exact MFp_skip hp (fun a b => (fd_bit hi.1 (by omega)).mp (by rw [← e28, ← e19]; exact c_9) ((hcan p1.toNat i.toNat (by omega) (by omega)).mpr ⟨a, b⟩)))⟩) hG hS (lv_sub hl [0, 2, 3, 4, 5] rfl)
              · rw [e28, e19] at c_9
                have hb1 : ¬ ((tb (u.2.1 28 p1.toNat) i.toNat && tb p2 i.toNat) = true → tb Ti i.toNat = true) := fun h => c_9 ((fd_bit hi.1 (by omega)).mpr h)
                have hb2 : (tb (u.2.1 28 p1.toNat) i.toNat && tb p2 i.toNat) = true := Classical.byContradiction fun h => hb1 (fun q => absurd q h)
                have hTi : ¬ tb Ti i.toNat = true := fun h => hb1 (fun _ => h)
                have hc1 := (hcan p1.toNat i.toNat (by omega) (by omega)).mp hb2
                have hTu : ¬ tb (u.1 19) i.toNat = true := fun h => hTi (hp.1 _ h)
                have hri := hrow i.toNat (by omega)
                refine lv_aload_n hx hb dX2_findDay_49 rfl (lv_at hl 2 rfl) ?_
                refine lv_dup hx hb dX2_findDay_50 rfl ?_
                refine g_get (C := RX2) (T := TX2) (N := 7) (ci := 1) hx hb hts (fun _ h => (List.mem_cons_of_mem _ (List.mem_append_right _ h))) hown hC.1 hG 7 (by decide) rfl rfl 6 (by decide) (hts (.fieldLink RX2 32 "StraitSwim$Neap" "tried" "I") (List.mem_cons_of_mem _ (List.mem_append_left _ (List.mem_of_getElem? (i := 1) rfl)))) (fun _ h9 => h9) rfl dX2_findDay_51 ?_
                refine lv_iload hx hb dX2_findDay_54 (lv_at hl 0 rfl) ?_
                have q_10 := bOr_bnd (w.1 19) (bShl 1 i)
                refine z_ior hx hb dX2_findDay_56 ?_
                refine g_put (C := RX2) (T := TX2) (N := 7) (ci := 1) (ty := .int) hx hb hts (fun _ h => (List.mem_cons_of_mem _ (List.mem_append_right _ h))) tyX2 tyX2_ok nmX2 hown hC.1 hG hS 7 (by decide) rfl rfl 6 19 (by decide) (hts (.fieldLink RX2 32 "StraitSwim$Neap" "tried" "I") (List.mem_cons_of_mem _ (List.mem_append_left _ (List.mem_of_getElem? (i := 1) rfl)))) (fun _ h9 => h9) rfl (by decide +kernel) rfl rfl (Nat.le_of_ble_eq_true rfl) rfl (gO_19 ad _ _) dX2_findDay_57 (fun u11 H locs hu11 hG hS => ?_)
                refine lv_aload_n hx hb dX2_findDay_60 rfl (lv_at hl 2 rfl) ?_
                refine g_get (C := RX2) (T := TX2) (N := 7) (ci := 1) hx hb hts (fun _ h => (List.mem_cons_of_mem _ (List.mem_append_right _ h))) hown hC.1 hG 7 (by decide) rfl rfl 5 (by decide) (hts (.fieldLink RX2 29 "StraitSwim$Neap" "holders" "[I") (List.mem_cons_of_mem _ (List.mem_append_left _ (List.mem_of_getElem? (i := 2) rfl)))) (fun _ h9 => h9) rfl dX2_findDay_61 ?_
                refine lv_iload hx hb dX2_findDay_64 (lv_at hl 1 rfl) ?_
                refine g_iald (n := 16) hx hb hC.1 hG 29 (by decide) rfl (by omega) (by omega) (by decide) dX2_findDay_66 ?_
                have e_12 : u11.2.1 29 = w.2.1 29 := by subst hu11; rfl
                rw [e_12]
                have q_13 := hr29 i.toNat (by omega)
                refine z_iconst hx hb dX2_findDay_67 ?_
                refine z_icmp_eq (tgt := 89) hx hb dX2_findDay_68 (by decide) (by omega) (by omega) (by omega) (by omega) (fun c_14 => ?_) (fun c_14 => ?_)
                · have h29 : u.2.1 29 i.toNat = -1 := by rw [← e29]; exact c_14
                  refine lv_aload_n hx hb dX2_findDay_89 rfl (lv_at hl 2 rfl) ?_
                  refine g_get (C := RX2) (T := TX2) (N := 7) (ci := 1) hx hb hts (fun _ h => (List.mem_cons_of_mem _ (List.mem_append_right _ h))) hown hC.1 hG 7 (by decide) rfl rfl 5 (by decide) (hts (.fieldLink RX2 29 "StraitSwim$Neap" "holders" "[I") (List.mem_cons_of_mem _ (List.mem_append_left _ (List.mem_of_getElem? (i := 2) rfl)))) (fun _ h9 => h9) rfl dX2_findDay_90 ?_
                  refine lv_iload hx hb dX2_findDay_93 (lv_at hl 1 rfl) ?_
                  refine lv_iload_n hx hb dX2_findDay_95 rfl (lv_at hl 3 rfl) ?_
                  refine g_iast (n := 16) hx hb hC.1 hG hS 29 (by decide) rfl rfl (by omega) (by omega) (by decide) dX2_findDay_96 (fun u15 H locs hu15 hG hS => ?_)
                  refine z_iconst hx hb dX2_findDay_97 ?_
                  exact W.zret (ty := .boolean) (v := zI 1) hx hb hr (nar_b (by omega)) (fun t9 ht9_ hW => ⟨⟨zI 1, u15, rfl, (by exact ⟨1, rfl, Or.inl ⟨rfl, bOr (w.1 19) (bShl 1 i), va_up (u.2.1 29) i.toNat p1, (by subst hu15; subst hu11; subst hw0; unfold cNp; simp only [sF, sI, up_up]), (row_up hrow j_1), (by have h := MFd_one (can := can) (gone := gone) (x := i.toNat) (by omega) hc1.1 hTu h29 hc1.2 hg1 hij; rw [show ((p1.toNat : Nat) : Int) = p1 by omega] at h; exact h)⟩⟩), gB.mk' hG hC hS ht9_ hW⟩, hS.F ht9_⟩) hS.2.2 dX2_findDay_98
                · refine lv_aload_n hx hb dX2_findDay_71 rfl (lv_at hl 2 rfl) ?_
                  refine lv_aload_n hx hb dX2_findDay_72 rfl (lv_at hl 2 rfl) ?_
                  refine g_get (C := RX2) (T := TX2) (N := 7) (ci := 1) hx hb hts (fun _ h => (List.mem_cons_of_mem _ (List.mem_append_right _ h))) hown hC.1 hG 7 (by decide) rfl rfl 5 (by decide) (hts (.fieldLink RX2 29 "StraitSwim$Neap" "holders" "[I") (List.mem_cons_of_mem _ (List.mem_append_left _ (List.mem_of_getElem? (i := 2) rfl)))) (fun _ h9 => h9) rfl dX2_findDay_73 ?_
                  refine lv_iload hx hb dX2_findDay_76 (lv_at hl 1 rfl) ?_
                  refine g_iald (n := 16) hx hb hC.1 hG 29 (by decide) rfl (by omega) (by omega) (by decide) dX2_findDay_78 ?_
                  have e_16 : u11.2.1 29 = w.2.1 29 := by subst hu11; rfl
                  rw [e_16]
                  have q_17 := hr29 i.toNat (by omega)
                  refine lv_iload_n hx hb dX2_findDay_79 rfl (lv_at hl 4 rfl) ?_
                  refine lv_iload_n hx hb dX2_findDay_80 rfl (lv_at hl 5 rfl) ?_
                  refine z_iconst hx hb dX2_findDay_81 ?_
                  refine z_iadd hx hb dX2_findDay_82 ?_
                  have hx0 : 0 ≤ u.2.1 29 i.toNat := by have := c_14; rw [e29] at this; omega
                  have z19 : u11.1 19 = bOr Ti (bShl 1 i) := by rw [hu11, hw0]; rfl
                  have z29 : u11.2.1 29 = u.2.1 29 := by rw [hu11, hw0]
                  have z28 : u11.2.1 28 = u.2.1 28 := by rw [hu11, hw0]
                  have h3 : ∀ e, tb (bOr Ti (bShl 1 i)) e = true ↔ tb Ti e = true ∨ e = i.toNat := fun e => tb_set hi.1 (by omega)
                  have hsub : ∀ e, tb (u.1 19) e = true → tb (bOr Ti (bShl 1 i)) e = true := fun e he => (h3 e).mpr (Or.inl (hp.1 e he))
                  have h29 : u.2.1 29 i.toNat = (((u.2.1 29 i.toNat).toNat : Nat) : Int) := by omega
                  have hij2 : MIj dd nn (fun e => tb (bOr Ti (bShl 1 i)) e = true) (u.2.1 29) (u.2.1 29 i.toNat).toNat := ⟨fun e f he hf te tf => hij.1 e f he hf (fun q => te (hsub e q)) (fun q => tf (hsub f q)), fun e he te q => te ((h3 e).mpr (Or.inr (hij.1 e i.toNat he hc1.1 (fun w => te (hsub e w)) hTu (by omega) (by omega))))⟩
                  have hPi : ∀ e, e ∈ i.toNat :: P → mtIn dd nn e ∧ tb (bOr Ti (bShl 1 i)) e = true ∧ 0 ≤ u.2.1 29 e := fun e he => by
                    rcases List.mem_cons.mp he with q | q
                    · rw [q]; exact ⟨hc1.1, (h3 _).mpr (Or.inr rfl), hx0⟩
                    · exact ⟨(hP3 e q).1, hsub e (hP3 e q).2.1, (hP3 e q).2.2⟩
                  have hPn : (i.toNat :: P).Nodup := List.nodup_cons.mpr ⟨fun q => hTu (hP3 _ q).2.1, hP1⟩
                  have hP9 := hmax (i.toNat :: P) hPn (fun e he => ⟨(hPi e he).1, (hPi e he).2.2⟩)
                  rw [List.length_cons] at hP9
                  rw [e29]
                  refine g_calli (va_runV (As := [.int (zI (u.2.1 29 i.toNat)), .int (zI p2), .int (zI (p3 + 1))]) (rest := []) ⟨hx, hb, hml, hown, hts⟩ (ih u11 (u.2.1 29 i.toNat) p2 (p3 + 1) j_p2 can dd nn gone hdn (by rw [z28]; exact hcan) (by omega) (hgo _ hc1.1 hx0) (by rw [z29]; exact hrow) (by rw [z29]; exact hgo) (by rw [z19, z29]; exact hij2) (by rw [z19, z29]; exact ⟨i.toNat :: P, hPn, (by rw [List.length_cons]; omega), hPi⟩) (by rw [z29]; exact hmax) (by omega)) (cwV 3 hts gX2_findDay_X2_findDay rfl rfl rfl (by decide +kernel) ⟨Nat.le_refl _, (by show 8 + (6 + 11) + 30 * N ≤ 30 * (N + 1); omega)⟩) (g_preV (C := RX2) hG hC hS 7 (by decide) rfl rfl) rfl rfl hl.1 rfl (lv_room (Nat.le_of_ble_eq_true rfl)) dX2_findDay_83 ⟨Nat.le_of_ble_eq_true rfl, Nat.le_of_ble_eq_true rfl⟩) hS (fun r18 u19 H locs p_20 hG hS => ?_)
                  rw [z19, z29] at p_20
                  obtain ⟨b9, rfl, ⟨hb9, T9, H9, hu19, hrow9, hfd⟩ | ⟨hb9, T9, hu19, hfl⟩⟩ := p_20
                  · subst hb9
                    refine z_if_eq (tgt := 99) hx hb dX2_findDay_86 (by decide) (by omega) (by omega) (fun c_21 => ?_) (fun c_21 => ?_)
                    · exfalso; omega
                    · refine lv_aload_n hx hb dX2_findDay_89 rfl (lv_at hl 2 rfl) ?_
                      refine g_get (C := RX2) (T := TX2) (N := 7) (ci := 1) hx hb hts (fun _ h => (List.mem_cons_of_mem _ (List.mem_append_right _ h))) hown hC.1 hG 7 (by decide) rfl rfl 5 (by decide) (hts (.fieldLink RX2 29 "StraitSwim$Neap" "holders" "[I") (List.mem_cons_of_mem _ (List.mem_append_left _ (List.mem_of_getElem? (i := 2) rfl)))) (fun _ h9 => h9) rfl dX2_findDay_90 ?_
                      refine lv_iload hx hb dX2_findDay_93 (lv_at hl 1 rfl) ?_
                      refine lv_iload_n hx hb dX2_findDay_95 rfl (lv_at hl 3 rfl) ?_
                      refine g_iast (n := 16) hx hb hC.1 hG hS 29 (by decide) rfl rfl (by omega) (by omega) (by decide) dX2_findDay_96 (fun u22 H locs hu22 hG hS => ?_)
                      refine z_iconst hx hb dX2_findDay_97 ?_
                      exact W.zret (ty := .boolean) (v := zI 1) hx hb hr (nar_b (by omega)) (fun t9 ht9_ hW => ⟨⟨zI 1, u22, rfl, (by exact ⟨1, rfl, Or.inl ⟨rfl, T9, va_up H9 i.toNat p1, (by subst hu22; subst hu19; subst hu11; subst hw0; unfold cNp; simp only [sF, sI, up_up, up_s]), (row_up hrow9 j_1), (by have h := MFd_via (can := can) (gone := gone) (x := i.toNat) (by omega) hc1.1 hTu ((h3 i.toNat).mpr (Or.inr rfl)) (fun e he => (h3 e).mpr (Or.inl (hp.1 e he))) h29 hc1.2 hg1 hij hfd; rw [show ((p1.toNat : Nat) : Int) = p1 by omega] at h; exact h)⟩⟩), gB.mk' hG hC hS ht9_ hW⟩, hS.F ht9_⟩) hS.2.2 dX2_findDay_98
                  · subst hb9
                    refine z_if_eq (tgt := 99) hx hb dX2_findDay_86 (by decide) (by omega) (by omega) (fun c_23 => ?_) (fun c_23 => ?_)
                    · refine z_iinc (lv' := [(4, .int (zI (i + 1))), (5, .int (zI (bShl 1 i))), (0, .ref (ad 7)), (1, .int (zI p1)), (2, .int (zI p2)), (3, .int (zI p3))]) hx hb dX2_findDay_99 hl (k := 1) rfl (by decide) rfl (fun ls hl => ?_)
                      refine lv_goto (tgt := 15) hx hb dX2_findDay_102 (by decide) ?_
                      exact ih15 (i + 1) u19 _ _ _ (by omega) (by omega) (by exact ⟨T9, (by subst hu19; subst hu11; subst hw0; simp only [sI, up_up]), (by rw [show (i + 1).toNat = i.toNat + 1 by omega]; exact MFp_no hp h29 h3 hfl)⟩) hG hS (lv_sub hl [0, 2, 3, 4, 5] rfl)
                    · exfalso; omega
        exact loop15 _ 0 u _ _ _ (Nat.lt_succ_self _) (by omega) (by exact ⟨u.1 19, (by simp only [sI]; rw [up_self]), MFp_0⟩) hG hS (lv_sub hl [0, 1, 2, 3, 4] rfl)
      · exfalso; omega
theorem kX2_findDay (l : Launch) (D : va_G) (cy : Nat → ClassId) (ad : Nat → Nat) (jf : Nat → Int64) (A : Nat → Prop) (u : gS) (p1 p2 p3 : Int) (j_p2 : -2147483648 ≤ p2 ∧ p2 < 2147483648) (can : Nat → Nat → Bool) (dd nn : Nat) (gone : Nat → Bool) (hdn : dd + nn = 16) (hcan : ∀ s e, s < 10 → e < 16 → ((tb (u.2.1 28 s) e && tb p2 e) = true ↔ mtIn dd nn e ∧ can s e = true)) (j_1 : 0 ≤ p1 ∧ p1 ≤ 9) (hg1 : gone p1.toNat = false) (hrow : ∀ e, e < 16 → -1 ≤ u.2.1 29 e ∧ u.2.1 29 e ≤ 9) (hgo : ∀ e, mtIn dd nn e → 0 ≤ u.2.1 29 e → gone (u.2.1 29 e).toNat = false) (hij : MIj dd nn (fun e => tb (u.1 19) e = true) (u.2.1 29) p1.toNat) (hP : ∃ P : List Nat, P.Nodup ∧ (P.length : Int) = p3 ∧ ∀ e, e ∈ P → mtIn dd nn e ∧ tb (u.1 19) e = true ∧ 0 ≤ u.2.1 29 e) (hmax : ∀ P : List Nat, P.Nodup → (∀ e, e ∈ P → mtIn dd nn e ∧ 0 ≤ u.2.1 29 e) → P.length ≤ 9) (hp3 : p3 = 0) : Met l yX2_findDay wsX2_findDay ({ frames := 10, cells := 0, slots := 0, locals := 300 }) (va_Pc [.ref (ad 7), .int (zI p1), .int (zI p2), .int (zI p3)] (gB D cy ad jf A u)) (va_Qi (fun (r : Int32) (v : gS) => ∃ b : Int, r = zI b ∧ ((b = 1 ∧ ∃ (T9 : Int) (H9 : Nat → Int), v = cNp u T9 H9 ∧ (∀ e, e < 16 → -1 ≤ H9 e ∧ H9 e ≤ 9) ∧ MFd can dd nn gone p1.toNat (fun e => tb (u.1 19) e = true) (u.2.1 29) H9) ∨ (b = 0 ∧ ∃ T9 : Int, v = sI u 19 T9 ∧ MFl can dd nn p1.toNat (fun e => tb (u.1 19) e = true) (fun e => tb T9 e = true) (u.2.1 29)))) (gB D cy ad jf A) A) 0 0 A := kX2_findDayN l D cy ad jf A 10 u p1 p2 p3 j_p2 can dd nn gone hdn hcan j_1 hg1 hrow hgo hij hP hmax (by omega)
