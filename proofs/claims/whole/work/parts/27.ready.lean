set_option maxHeartbeats 4000000 in
set_option maxRecDepth 100000 in
theorem kX9_ready_2_X3 (l : Launch) (D : va_G) (cy : Nat → ClassId) (ad : Nat → Nat) (jf : Nat → Int64) (A : Nat → Prop) (u : gS) (a : Nat) (nm sp li fd : Int) (p2 : Int) (ha : a ∈ u.2.2.2.1) (hE : u.2.2.2.2 a = .inr (2, [.int (zI nm), .int (zI sp), .int (zI li), .int (zI fd)])) (j_c : 0 ≤ p2 ∧ p2 ≤ 20) (j_s : 0 ≤ sp ∧ sp ≤ 20) (j_l : 0 ≤ li ∧ li ≤ 400) (j_f : 0 ≤ fd ∧ fd ≤ 40) (hc0 : u.2.1 16 0 = 0) : Met l yX9_ready wsX9_ready ({ frames := 4, cells := 0, slots := 0, locals := 96 }) (va_Pc [.ref (ad 2), .ref a, .int (zI p2)] (gB D cy ad jf A u)) (va_Qv (fun (v : gS) => v = cReady u 15 16 5 8 9 0 nm sp li fd p2) (gB D cy ad jf A) A) 0 0 A := by
  refine Met.ofW (cc := cX9_ready) (maxL := 5) (ret := none) (by decide) rfl ?_
  intro p e s m args below meth c s₁ B hml hv
  obtain ⟨rfl, hG, hC⟩ := hv
  have hx := B.exec
  have hb := B.bytes
  have hr := B.returns
  have hts := atoms_spec (ws := wsX9_ready) B.pre
  have hown : s.vm.findClass RX9 = some m.cls := findClass_of_methodNamed B.named
  have hlocks := B.notSynchronized
  have hS : va_S A s.heap s.heap [] := va_S.rf
  have hl := lv_entry ([.ref (ad 2), .ref a, .int (zI p2)]) (n := 5) (Nat.le_of_ble_eq_true rfl)
  rw [lg_entry_eq]
  generalize (lg_sl ([.ref (ad 2), .ref a, .int (zI p2)]) ++ List.replicate (5 - (lg_sl ([.ref (ad 2), .ref a, .int (zI p2)])).length) Slot.unset).toArray = ls at hl ⊢
  have hl : lv_has ls 5 [(0, .ref (ad 2)), (1, .ref a), (2, .int (zI p2))] := hl
  refine lv_aload_n hx hb dX9_ready_0 rfl (lv_at hl 0 rfl) ?_
  refine lv_aload_n hx hb dX9_ready_1 rfl (lv_at hl 1 rfl) ?_
  obtain ⟨k9, hk9⟩ := va_pl_get (X := gFx cy ad jf u) (f := u.2.2.2.2) ha
  refine va_get (C := RX3) (T := TX3) (N := 4) (ci := 2) hx hb hts (fun _ h => (List.mem_cons_of_mem _ (List.mem_append_left _ (List.mem_append_left _ (List.mem_append_left _ (List.mem_append_right _ h)))))) hown hC.1 hG.1 k9 (hk9.trans (by rw [hE])) rfl 0 (by decide) (hts (.fieldLink RX9 41 "StraitSwim$Plain" "number" "I") (List.mem_cons_of_mem _ (List.mem_append_left _ (List.mem_append_left _ (List.mem_append_left _ (List.mem_append_left _ (List.mem_append_left _ (List.mem_append_left _ (List.mem_of_getElem? (i := 0) rfl))))))))) (fun _ h9 => h9) rfl dX9_ready_2 ?_
  refine g_put (C := RX9) (T := TX9) (N := 9) (ci := 8) (ty := .int) hx hb hts (fun _ h => (List.mem_cons_of_mem _ (List.mem_append_right _ h))) tyX9 tyX9_ok nmX9 hown hC.1 hG hS 2 (by decide) rfl rfl 0 5 (by decide) (hts (.fieldLink RX9 9 "StraitSwim$Swim" "number" "I") (List.mem_cons_of_mem _ (List.mem_append_left _ (List.mem_append_left _ (List.mem_append_left _ (List.mem_append_left _ (List.mem_append_left _ (List.mem_append_left _ (List.mem_of_getElem? (i := 1) rfl))))))))) (fun _ h9 => h9) rfl (by decide +kernel) rfl rfl (Nat.le_of_ble_eq_true rfl) rfl (gO_5 ad _ _) dX9_ready_5 (fun u1 H locs hu1 hG hS => ?_)
  refine lv_aload_n hx hb dX9_ready_8 rfl (lv_at hl 0 rfl) ?_
  refine z_iconst hx hb dX9_ready_9 ?_
  refine g_put (C := RX9) (T := TX9) (N := 9) (ci := 8) (ty := .int) hx hb hts (fun _ h => (List.mem_cons_of_mem _ (List.mem_append_right _ h))) tyX9 tyX9_ok nmX9 hown hC.1 hG hS 2 (by decide) rfl rfl 7 8 (by decide) (hts (.fieldLink RX9 34 "StraitSwim$Swim" "reach" "I") (List.mem_cons_of_mem _ (List.mem_append_left _ (List.mem_append_left _ (List.mem_append_left _ (List.mem_append_left _ (List.mem_append_left _ (List.mem_append_left _ (List.mem_of_getElem? (i := 2) rfl))))))))) (fun _ h9 => h9) rfl (by decide +kernel) rfl rfl (Nat.le_of_ble_eq_true rfl) rfl (gO_8 ad _ _) dX9_ready_10 (fun u2 H locs hu2 hG hS => ?_)
  refine lv_aload_n hx hb dX9_ready_13 rfl (lv_at hl 0 rfl) ?_
  refine z_iconst hx hb dX9_ready_14 ?_
  refine g_put (C := RX9) (T := TX9) (N := 9) (ci := 8) (ty := .boolean) hx hb hts (fun _ h => (List.mem_cons_of_mem _ (List.mem_append_right _ h))) tyX9 tyX9_ok nmX9 hown hC.1 hG hS 2 (by decide) rfl rfl 8 9 (by decide) (hts (.fieldLink RX9 37 "StraitSwim$Swim" "tooCold" "Z") (List.mem_cons_of_mem _ (List.mem_append_left _ (List.mem_append_left _ (List.mem_append_left _ (List.mem_append_left _ (List.mem_append_left _ (List.mem_append_left _ (List.mem_of_getElem? (i := 3) rfl))))))))) (fun _ h9 => h9) rfl (by decide +kernel) (nar_b (by omega)) rfl (Nat.le_of_ble_eq_true rfl) rfl (gO_9 ad _ _) dX9_ready_15 (fun u3 H locs hu3 hG hS => ?_)
  refine z_iconst hx hb dX9_ready_18 ?_
  refine lv_istore_n (lv' := [(3, .int (zI 0)), (0, .ref (ad 2)), (1, .ref a), (2, .int (zI p2))]) hx hb dX9_ready_19 rfl hl (by decide) rfl (fun ls hl => ?_)
  have loop20 : ∀ (n : Nat) (t : Int) (w : gS) (H : Heap) (locs : List Loc) (ls : Array Slot), (100 - t).toNat < n → (0 ≤ t ∧ t ≤ 100) → (0 ≤ w.2.1 16 t.toNat ∧ w.2.1 16 t.toNat ≤ 200 * t) → (w.1 9 = 0 ∨ w.1 9 = 1) → (a ∈ w.2.2.2.1) → (w.2.2.2.2 a = .inr (2, [.int (zI nm), .int (zI sp), .int (zI li), .int (zI fd)])) → (cRdL 15 16 8 9 0 sp li fd p2 101 0 (sI (sI (sI u 5 nm) 8 0) 9 0) = cRdL 15 16 8 9 0 sp li fd p2 n t w) → gH D cy ad jf A w H → va_S A s.heap H locs → lv_has ls 5 [(3, .int (zI t)), (0, .ref (ad 2)), (1, .ref a), (2, .int (zI p2))] → W p l e (headSpec wsX9_ready ({ frames := 4, cells := 0, slots := 0, locals := 96 })).room s m ([.ref (ad 2), .ref a, .int (zI p2)]).toArray below meth c H locs 0 0 (MQ below (va_Qv (fun (v : gS) => v = cReady u 15 16 5 8 9 0 nm sp li fd p2) (gB D cy ad jf A) A) ([.ref (ad 2), .ref a, .int (zI p2)]).toArray s 0 0 A) (F0 m 20 ls []) := by
    intro n
    induction n with
    | zero => intro t w H locs ls hm; exact absurd hm (Nat.not_lt_zero _)
    | succ n ih20 =>
      intro t w H locs ls hm ht9 hcl htc ha hE hT hG hS hl
      refine lv_iload_n hx hb dX9_ready_20 rfl (lv_at hl 0 rfl) ?_
      refine z_bipush hx hb dX9_ready_21 (by decide) ?_
      refine z_icmp_ge (tgt := 126) hx hb dX9_ready_23 (by decide) (by omega) (by omega) (by omega) (by omega) (fun c_4 => ?_) (fun c_4 => ?_)
      · exact W.vret hx hb hr (fun t9 ht9_ hW => ⟨⟨w, rfl, (by unfold cReady; rw [hT, cRdL]; (repeat (first | rw [if_pos (by omega)] | rw [if_neg (by omega)]))), gB.mk' hG hC hS ht9_ hW⟩, hS.F ht9_⟩) hS.2.2 dX9_ready_126
      · refine lv_aload_n hx hb dX9_ready_26 rfl (lv_at hl 1 rfl) ?_
        refine g_get (C := RX9) (T := TX9) (N := 9) (ci := 8) hx hb hts (fun _ h => (List.mem_cons_of_mem _ (List.mem_append_right _ h))) hown hC.1 hG 2 (by decide) rfl rfl 8 (by decide) (hts (.fieldLink RX9 37 "StraitSwim$Swim" "tooCold" "Z") (List.mem_cons_of_mem _ (List.mem_append_left _ (List.mem_append_left _ (List.mem_append_left _ (List.mem_append_left _ (List.mem_append_left _ (List.mem_append_left _ (List.mem_of_getElem? (i := 3) rfl))))))))) (fun _ h9 => h9) rfl dX9_ready_27 ?_
        refine z_if_ne (tgt := 126) hx hb dX9_ready_30 (by decide) (by omega) (by omega) (fun c_5 => ?_) (fun c_5 => ?_)
        · exact W.vret hx hb hr (fun t9 ht9_ hW => ⟨⟨w, rfl, (by unfold cReady; rw [hT, cRdL]; (repeat (first | rw [if_pos (by omega)] | rw [if_neg (by omega)]))), gB.mk' hG hC hS ht9_ hW⟩, hS.F ht9_⟩) hS.2.2 dX9_ready_126
        · refine lv_aload_n hx hb dX9_ready_33 rfl (lv_at hl 1 rfl) ?_
          refine g_get (C := RX9) (T := TX9) (N := 9) (ci := 8) hx hb hts (fun _ h => (List.mem_cons_of_mem _ (List.mem_append_right _ h))) hown hC.1 hG 2 (by decide) rfl rfl 5 (by decide) (hts (.fieldLink RX9 28 "StraitSwim$Swim" "strides" "[I") (List.mem_cons_of_mem _ (List.mem_append_left _ (List.mem_append_left _ (List.mem_append_left _ (List.mem_append_left _ (List.mem_append_left _ (List.mem_append_left _ (List.mem_of_getElem? (i := 4) rfl))))))))) (fun _ h9 => h9) rfl dX9_ready_34 ?_
          refine lv_iload_n hx hb dX9_ready_37 rfl (lv_at hl 0 rfl) ?_
          refine lv_aload_n hx hb dX9_ready_38 rfl (lv_at hl 2 rfl) ?_
          refine lv_iload_n hx hb dX9_ready_39 rfl (lv_at hl 0 rfl) ?_
          obtain ⟨k9, hk9⟩ := va_pl_get (X := gFx cy ad jf w) (f := w.2.2.2.2) ha
          refine g_calli (va_runV (As := [.int (zI t)]) (rest := [.int (zI t), .ref (ad 15)]) ⟨hx, hb, hml, hown, hts⟩ (kX3_strideIn_X3 l D cy ad jf A w a nm sp li fd t ha hE (by omega) (by omega) (by omega)) (cwV 1 hts gX9_ready_X3_strideIn rfl rfl rfl (by decide +kernel) ⟨by decide, by decide⟩) (g_preD (C := RX3) hG hC hS (hk9.trans (by rw [hE])) rfl) rfl rfl hl.1 rfl (lv_room (Nat.le_of_ble_eq_true rfl)) dX9_ready_40 ⟨Nat.le_of_ble_eq_true rfl, Nat.le_of_ble_eq_true rfl⟩) hS (fun r6 u7 H locs p_8 hG hS => ?_)
          obtain ⟨rfl, he_⟩ := p_8
          rw [he_] at hG; clear he_
          obtain ⟨z9, hz9⟩ : ∃ z : Int, z = spPace 0 sp fd t := ⟨_, rfl⟩
          rw [← hz9]
          have qz9 : 0 ≤ z9 ∧ z9 ≤ 24 := by rw [hz9]; (first | omega | (unfold spAt1; split <;> omega) | (unfold spAt1; split <;> split <;> omega) | (split <;> first | omega | (unfold spAt1; split <;> omega)) | (unfold spPace spPc spAt1; split <;> (first | omega | (split <;> first | omega | (split <;> omega)))))
          refine g_iast (n := 100) hx hb hC.1 hG hS 15 (by decide) rfl rfl (by omega) (by omega) (by decide) dX9_ready_43 (fun u10 H locs hu10 hG hS => ?_)
          refine lv_aload_n hx hb dX9_ready_44 rfl (lv_at hl 1 rfl) ?_
          refine g_get (C := RX9) (T := TX9) (N := 9) (ci := 8) hx hb hts (fun _ h => (List.mem_cons_of_mem _ (List.mem_append_right _ h))) hown hC.1 hG 2 (by decide) rfl rfl 6 (by decide) (hts (.fieldLink RX9 31 "StraitSwim$Swim" "colds" "[I") (List.mem_cons_of_mem _ (List.mem_append_left _ (List.mem_append_left _ (List.mem_append_left _ (List.mem_append_left _ (List.mem_append_left _ (List.mem_append_left _ (List.mem_of_getElem? (i := 5) rfl))))))))) (fun _ h9 => h9) rfl dX9_ready_45 ?_
          refine lv_iload_n hx hb dX9_ready_48 rfl (lv_at hl 0 rfl) ?_
          refine g_iald (n := 101) hx hb hC.1 hG 16 (by decide) rfl (by omega) (by omega) (by decide) dX9_ready_49 ?_
          have e_11 : u10.2.1 16 = w.2.1 16 := by subst hu10; rfl
          rw [e_11]
          refine lv_aload_n hx hb dX9_ready_50 rfl (lv_at hl 2 rfl) ?_
          refine lv_iload_n hx hb dX9_ready_51 rfl (lv_at hl 0 rfl) ?_
          refine lv_iload_n hx hb dX9_ready_52 rfl (lv_at hl 3 rfl) ?_
          have ha_o12 : a ∈ u10.2.2.2.1 := by subst hu10; exact ha
          have hE_o12 : u10.2.2.2.2 a = .inr (2, [.int (zI nm), .int (zI sp), .int (zI li), .int (zI fd)]) := by subst hu10; exact hE
          obtain ⟨k9, hk9⟩ := va_pl_get (X := gFx cy ad jf u10) (f := u10.2.2.2.2) ha_o12
          refine g_calli (va_runV (As := [.int (zI t), .int (zI p2)]) (rest := [.int (zI (w.2.1 16 t.toNat))]) ⟨hx, hb, hml, hown, hts⟩ (kX3_coldIn_X3 l D cy ad jf A u10 a nm sp li fd t p2 ha_o12 hE_o12 (by omega) (by omega)) (cwV 2 hts gX9_ready_X3_coldIn rfl rfl rfl (by decide +kernel) ⟨by decide, by decide⟩) (g_preD (C := RX3) hG hC hS (hk9.trans (by rw [hE_o12])) rfl) rfl rfl hl.1 rfl (lv_room (Nat.le_of_ble_eq_true rfl)) dX9_ready_53 ⟨Nat.le_of_ble_eq_true rfl, Nat.le_of_ble_eq_true rfl⟩) hS (fun r13 u14 H locs p_15 hG hS => ?_)
          obtain ⟨rfl, he_⟩ := p_15
          rw [he_] at hG; clear he_
          obtain ⟨z16, hz16⟩ : ∃ z : Int, z = p2 + t / 8 := ⟨_, rfl⟩
          rw [← hz16]
          have qz16 : 0 ≤ z16 ∧ z16 ≤ 145 := by rw [hz16]; (first | omega | (unfold spAt1; split <;> omega) | (unfold spAt1; split <;> split <;> omega) | (split <;> first | omega | (unfold spAt1; split <;> omega)) | (unfold spPace spPc spAt1; split <;> (first | omega | (split <;> first | omega | (split <;> omega)))))
          refine z_iadd hx hb dX9_ready_56 ?_
          obtain ⟨mo, hmo⟩ : ∃ z : Int, z = (w.2.1 16 t.toNat) + z16 := ⟨_, rfl⟩
          rw [← hmo]
          refine lv_istore (lv' := [(4, .int (zI mo)), (3, .int (zI t)), (0, .ref (ad 2)), (1, .ref a), (2, .int (zI p2))]) hx hb dX9_ready_57 hl (by decide) rfl (fun ls hl => ?_)
          have e9 : z16 = spCold 0 p2 t := by unfold spCold; (repeat (first | rw [if_pos (by omega)] | rw [if_neg (by omega)])); all_goals (subst_vars; rfl)
          have hmo2 : mo = w.2.1 16 t.toNat + spCold 0 p2 t := by rw [hmo, e9]
          refine lv_aload_n hx hb dX9_ready_59 rfl (lv_at hl 2 rfl) ?_
          refine g_get (C := RX9) (T := TX9) (N := 9) (ci := 8) hx hb hts (fun _ h => (List.mem_cons_of_mem _ (List.mem_append_right _ h))) hown hC.1 hG 2 (by decide) rfl rfl 6 (by decide) (hts (.fieldLink RX9 31 "StraitSwim$Swim" "colds" "[I") (List.mem_cons_of_mem _ (List.mem_append_left _ (List.mem_append_left _ (List.mem_append_left _ (List.mem_append_left _ (List.mem_append_left _ (List.mem_append_left _ (List.mem_of_getElem? (i := 5) rfl))))))))) (fun _ h9 => h9) rfl dX9_ready_60 ?_
          refine lv_iload_n hx hb dX9_ready_63 rfl (lv_at hl 1 rfl) ?_
          refine z_iconst hx hb dX9_ready_64 ?_
          refine z_iadd hx hb dX9_ready_65 ?_
          refine lv_aload_n hx hb dX9_ready_66 rfl (lv_at hl 3 rfl) ?_
          refine lv_iload_n hx hb dX9_ready_67 rfl (lv_at hl 1 rfl) ?_
          have ha_o17 : a ∈ u10.2.2.2.1 := by subst hu10; exact ha
          have hE_o17 : u10.2.2.2.2 a = .inr (2, [.int (zI nm), .int (zI sp), .int (zI li), .int (zI fd)]) := by subst hu10; exact hE
          obtain ⟨k9, hk9⟩ := va_pl_get (X := gFx cy ad jf u10) (f := u10.2.2.2.2) ha_o17
          refine g_calli (va_runV (As := [.int (zI t)]) (rest := [.int (zI (t + 1)), .ref (ad 16)]) ⟨hx, hb, hml, hown, hts⟩ (kX3_feedsIn_X3 l D cy ad jf A u10 a nm sp li fd t ha_o17 hE_o17 (by omega) (by omega)) (cwV 1 hts gX9_ready_X3_feedsIn rfl rfl rfl (by decide +kernel) ⟨by decide, by decide⟩) (g_preD (C := RX3) hG hC hS (hk9.trans (by rw [hE_o17])) rfl) rfl rfl hl.1 rfl (lv_room (Nat.le_of_ble_eq_true rfl)) dX9_ready_68 ⟨Nat.le_of_ble_eq_true rfl, Nat.le_of_ble_eq_true rfl⟩) hS (fun r18 u19 H locs p_20 hG hS => ?_)
          obtain ⟨⟨b21, rfl, q_22⟩, he_⟩ := p_20
          rw [he_] at hG; clear he_
          have hbb21 : 0 ≤ b21 ∧ b21 ≤ 1 := by rcases q_22 with ⟨h, _⟩ | ⟨h, _⟩ <;> omega
          refine z_if_eq (tgt := 85) hx hb dX9_ready_71 (by decide) (by omega) (by omega) (fun c_23 => ?_) (fun c_23 => ?_)
          · refine lv_iload hx hb dX9_ready_85 (lv_at hl 0 rfl) ?_
            refine g_iast (n := 101) hx hb hC.1 hG hS 16 (by decide) rfl rfl (by omega) (by omega) (by decide) dX9_ready_87 (fun u24 H locs hu24 hG hS => ?_)
            have hCC : cRdC w 16 0 fd p2 t = mo := by unfold cRdC; rw [← hmo2]; (repeat (first | rw [if_pos (by omega)] | rw [if_neg (by omega)])); all_goals (first | rfl | (subst_vars; rfl) | assumption | (symm; assumption))
            refine lv_aload_n hx hb dX9_ready_88 rfl (lv_at hl 2 rfl) ?_
            refine lv_iload_n hx hb dX9_ready_89 rfl (lv_at hl 1 rfl) ?_
            refine z_iconst hx hb dX9_ready_90 ?_
            refine z_iadd hx hb dX9_ready_91 ?_
            refine g_put (C := RX9) (T := TX9) (N := 9) (ci := 8) (ty := .int) hx hb hts (fun _ h => (List.mem_cons_of_mem _ (List.mem_append_right _ h))) tyX9 tyX9_ok nmX9 hown hC.1 hG hS 2 (by decide) rfl rfl 7 8 (by decide) (hts (.fieldLink RX9 34 "StraitSwim$Swim" "reach" "I") (List.mem_cons_of_mem _ (List.mem_append_left _ (List.mem_append_left _ (List.mem_append_left _ (List.mem_append_left _ (List.mem_append_left _ (List.mem_append_left _ (List.mem_of_getElem? (i := 2) rfl))))))))) (fun _ h9 => h9) rfl (by decide +kernel) rfl rfl (Nat.le_of_ble_eq_true rfl) rfl (gO_8 ad _ _) dX9_ready_92 (fun u25 H locs hu25 hG hS => ?_)
            refine lv_aload_n hx hb dX9_ready_95 rfl (lv_at hl 2 rfl) ?_
            refine lv_aload_n hx hb dX9_ready_96 rfl (lv_at hl 2 rfl) ?_
            refine g_get (C := RX9) (T := TX9) (N := 9) (ci := 8) hx hb hts (fun _ h => (List.mem_cons_of_mem _ (List.mem_append_right _ h))) hown hC.1 hG 2 (by decide) rfl rfl 6 (by decide) (hts (.fieldLink RX9 31 "StraitSwim$Swim" "colds" "[I") (List.mem_cons_of_mem _ (List.mem_append_left _ (List.mem_append_left _ (List.mem_append_left _ (List.mem_append_left _ (List.mem_append_left _ (List.mem_append_left _ (List.mem_of_getElem? (i := 5) rfl))))))))) (fun _ h9 => h9) rfl dX9_ready_97 ?_
            refine lv_aload_n hx hb dX9_ready_100 rfl (lv_at hl 2 rfl) ?_
            refine g_get (C := RX9) (T := TX9) (N := 9) (ci := 8) hx hb hts (fun _ h => (List.mem_cons_of_mem _ (List.mem_append_right _ h))) hown hC.1 hG 2 (by decide) rfl rfl 7 (by decide) (hts (.fieldLink RX9 34 "StraitSwim$Swim" "reach" "I") (List.mem_cons_of_mem _ (List.mem_append_left _ (List.mem_append_left _ (List.mem_append_left _ (List.mem_append_left _ (List.mem_append_left _ (List.mem_append_left _ (List.mem_of_getElem? (i := 2) rfl))))))))) (fun _ h9 => h9) rfl dX9_ready_101 ?_
            have e_26 : u25.1 8 = t + 1 := by subst hu25; subst hu24; subst hu10; rfl
            rw [e_26]
            refine g_iald (n := 101) hx hb hC.1 hG 16 (by decide) rfl (by omega) (by omega) (by decide) dX9_ready_104 ?_
            have e_27 : u25.2.1 16 = va_up (w.2.1 16) (t + 1).toNat mo := by subst hu25; subst hu24; subst hu10; rfl
            rw [e_27]
            rw [up_s]
            refine lv_aload_n hx hb dX9_ready_105 rfl (lv_at hl 3 rfl) ?_
            have ha_o28 : a ∈ u25.2.2.2.1 := by subst hu25; subst hu24; subst hu10; exact ha
            have hE_o28 : u25.2.2.2.2 a = .inr (2, [.int (zI nm), .int (zI sp), .int (zI li), .int (zI fd)]) := by subst hu25; subst hu24; subst hu10; exact hE
            obtain ⟨k9, hk9⟩ := va_pl_get (X := gFx cy ad jf u25) (f := u25.2.2.2.2) ha_o28
            refine va_get (C := RX3) (T := TX3) (N := 4) (ci := 2) hx hb hts (fun _ h => (List.mem_cons_of_mem _ (List.mem_append_left _ (List.mem_append_left _ (List.mem_append_left _ (List.mem_append_right _ h)))))) hown hC.1 hG.1 k9 (hk9.trans (by rw [hE_o28])) rfl 2 (by decide) (hts (.fieldLink RX9 61 "StraitSwim$Plain" "limit" "I") (List.mem_cons_of_mem _ (List.mem_append_left _ (List.mem_append_left _ (List.mem_append_left _ (List.mem_append_left _ (List.mem_append_left _ (List.mem_append_left _ (List.mem_of_getElem? (i := 10) rfl))))))))) (fun _ h9 => h9) rfl dX9_ready_106 ?_
            refine z_icmp_lt (tgt := 116) hx hb dX9_ready_109 (by decide) (by omega) (by omega) (by omega) (by omega) (fun c_29 => ?_) (fun c_29 => ?_)
            · refine z_iconst hx hb dX9_ready_116 ?_
              refine g_put (C := RX9) (T := TX9) (N := 9) (ci := 8) (ty := .boolean) hx hb hts (fun _ h => (List.mem_cons_of_mem _ (List.mem_append_right _ h))) tyX9 tyX9_ok nmX9 hown hC.1 hG hS 2 (by decide) rfl rfl 8 9 (by decide) (hts (.fieldLink RX9 37 "StraitSwim$Swim" "tooCold" "Z") (List.mem_cons_of_mem _ (List.mem_append_left _ (List.mem_append_left _ (List.mem_append_left _ (List.mem_append_left _ (List.mem_append_left _ (List.mem_append_left _ (List.mem_of_getElem? (i := 3) rfl))))))))) (fun _ h9 => h9) rfl (by decide +kernel) (nar_b (by omega)) rfl (Nat.le_of_ble_eq_true rfl) rfl (gO_9 ad _ _) dX9_ready_117 (fun u30 H locs hu30 hG hS => ?_)
              refine z_iinc (lv' := [(3, .int (zI (t + 1))), (4, .int (zI mo)), (0, .ref (ad 2)), (1, .ref a), (2, .int (zI p2))]) hx hb dX9_ready_120 hl (k := 1) rfl (by decide) rfl (fun ls hl => ?_)
              refine lv_goto (tgt := 20) hx hb dX9_ready_123 (by decide) ?_
              exact ih20 (t + 1) u30 _ _ _ (by omega) (by omega) (by have e9 : u30.2.1 16 (t + 1).toNat = mo := (by subst hu30; subst hu25; subst hu24; subst hu10; exact up_s _ _ _); rw [e9]; omega) (by subst hu30; subst hu25; subst hu24; subst hu10; first | exact Or.inl rfl | exact Or.inr rfl) (by subst hu30; subst hu25; subst hu24; subst hu10; exact ha) (by subst hu30; subst hu25; subst hu24; subst hu10; exact hE) (by rw [hT, cRdL, if_pos (by omega), if_pos (by omega), hCC]; (repeat (first | rw [if_pos (by omega)] | rw [if_neg (by omega)])); unfold cRd1; subst hu30; subst hu25; subst hu24; subst hu10; subst_vars; rfl) hG hS (lv_sub hl [0, 2, 3, 4] rfl)
            · refine z_iconst hx hb dX9_ready_112 ?_
              refine lv_goto (tgt := 117) hx hb dX9_ready_113 (by decide) ?_
              refine g_put (C := RX9) (T := TX9) (N := 9) (ci := 8) (ty := .boolean) hx hb hts (fun _ h => (List.mem_cons_of_mem _ (List.mem_append_right _ h))) tyX9 tyX9_ok nmX9 hown hC.1 hG hS 2 (by decide) rfl rfl 8 9 (by decide) (hts (.fieldLink RX9 37 "StraitSwim$Swim" "tooCold" "Z") (List.mem_cons_of_mem _ (List.mem_append_left _ (List.mem_append_left _ (List.mem_append_left _ (List.mem_append_left _ (List.mem_append_left _ (List.mem_append_left _ (List.mem_of_getElem? (i := 3) rfl))))))))) (fun _ h9 => h9) rfl (by decide +kernel) (nar_b (by omega)) rfl (Nat.le_of_ble_eq_true rfl) rfl (gO_9 ad _ _) dX9_ready_117 (fun u31 H locs hu31 hG hS => ?_)
              refine z_iinc (lv' := [(3, .int (zI (t + 1))), (4, .int (zI mo)), (0, .ref (ad 2)), (1, .ref a), (2, .int (zI p2))]) hx hb dX9_ready_120 hl (k := 1) rfl (by decide) rfl (fun ls hl => ?_)
              refine lv_goto (tgt := 20) hx hb dX9_ready_123 (by decide) ?_
              exact ih20 (t + 1) u31 _ _ _ (by omega) (by omega) (by have e9 : u31.2.1 16 (t + 1).toNat = mo := (by subst hu31; subst hu25; subst hu24; subst hu10; exact up_s _ _ _); rw [e9]; omega) (by subst hu31; subst hu25; subst hu24; subst hu10; first | exact Or.inl rfl | exact Or.inr rfl) (by subst hu31; subst hu25; subst hu24; subst hu10; exact ha) (by subst hu31; subst hu25; subst hu24; subst hu10; exact hE) (by rw [hT, cRdL, if_pos (by omega), if_pos (by omega), hCC]; (repeat (first | rw [if_pos (by omega)] | rw [if_neg (by omega)])); unfold cRd1; subst hu31; subst hu25; subst hu24; subst hu10; subst_vars; rfl) hG hS (lv_sub hl [0, 2, 3, 4] rfl)
          · refine z_iconst hx hb dX9_ready_74 ?_
            refine lv_iload hx hb dX9_ready_75 (lv_at hl 0 rfl) ?_
            refine z_iconst hx hb dX9_ready_77 ?_
            refine z_isub hx hb dX9_ready_78 ?_
            refine va_mmax hx hb (hml.trans hl.1.symm) hown (hts (.methodLink RX9 56 Lib.Math.max.name) (List.mem_cons_of_mem _ (List.mem_append_left _ (List.mem_append_left _ (List.mem_append_left _ (List.mem_append_left _ (List.mem_append_left _ (List.mem_append_left _ (List.mem_of_getElem? (i := 6) rfl))))))))) (hts (.static Lib.Math.max.name) (List.mem_cons_of_mem _ (List.mem_append_left _ (List.mem_append_left _ (List.mem_append_left _ (List.mem_append_left _ (List.mem_append_left _ (List.mem_append_left _ (List.mem_of_getElem? (i := 7) rfl))))))))) (hts (.initialized "java/lang/Math") (List.mem_cons_of_mem _ (List.mem_append_left _ (List.mem_append_left _ (List.mem_append_left _ (List.mem_append_left _ (List.mem_append_left _ (List.mem_append_left _ (List.mem_of_getElem? (i := 8) rfl))))))))) (hts (.code Lib.Math.max.name Lib.Math.max.code 2 (some .int)) (List.mem_cons_of_mem _ (List.mem_append_left _ (List.mem_append_left _ (List.mem_append_left _ (List.mem_append_left _ (List.mem_append_left _ (List.mem_append_left _ (List.mem_of_getElem? (i := 9) rfl))))))))) (Nat.le_of_ble_eq_true rfl) (Nat.le_of_ble_eq_true rfl) (Nat.le_of_ble_eq_true rfl) (Nat.le_of_ble_eq_true rfl) dX9_ready_79 ?_
            rw [z_max (a := 0) (b := mo - 3) (by omega) (by omega) (by omega) (by omega)]
            obtain ⟨x32, hx32⟩ : ∃ z : Int, z = (if 0 < (mo - 3) then (mo - 3) else 0) := ⟨_, rfl⟩
            rw [← hx32]
            refine lv_goto (tgt := 87) hx hb dX9_ready_82 (by decide) ?_
            refine g_iast (n := 101) hx hb hC.1 hG hS 16 (by decide) rfl rfl (by omega) (by omega) (by decide) dX9_ready_87 (fun u33 H locs hu33 hG hS => ?_)
            have hCC : cRdC w 16 0 fd p2 t = x32 := by unfold cRdC; rw [← hmo2]; (repeat (first | rw [if_pos (by omega)] | rw [if_neg (by omega)])); all_goals (first | rfl | (subst_vars; rfl) | assumption | (symm; assumption))
            refine lv_aload_n hx hb dX9_ready_88 rfl (lv_at hl 2 rfl) ?_
            refine lv_iload_n hx hb dX9_ready_89 rfl (lv_at hl 1 rfl) ?_
            refine z_iconst hx hb dX9_ready_90 ?_
            refine z_iadd hx hb dX9_ready_91 ?_
            refine g_put (C := RX9) (T := TX9) (N := 9) (ci := 8) (ty := .int) hx hb hts (fun _ h => (List.mem_cons_of_mem _ (List.mem_append_right _ h))) tyX9 tyX9_ok nmX9 hown hC.1 hG hS 2 (by decide) rfl rfl 7 8 (by decide) (hts (.fieldLink RX9 34 "StraitSwim$Swim" "reach" "I") (List.mem_cons_of_mem _ (List.mem_append_left _ (List.mem_append_left _ (List.mem_append_left _ (List.mem_append_left _ (List.mem_append_left _ (List.mem_append_left _ (List.mem_of_getElem? (i := 2) rfl))))))))) (fun _ h9 => h9) rfl (by decide +kernel) rfl rfl (Nat.le_of_ble_eq_true rfl) rfl (gO_8 ad _ _) dX9_ready_92 (fun u34 H locs hu34 hG hS => ?_)
            refine lv_aload_n hx hb dX9_ready_95 rfl (lv_at hl 2 rfl) ?_
            refine lv_aload_n hx hb dX9_ready_96 rfl (lv_at hl 2 rfl) ?_
            refine g_get (C := RX9) (T := TX9) (N := 9) (ci := 8) hx hb hts (fun _ h => (List.mem_cons_of_mem _ (List.mem_append_right _ h))) hown hC.1 hG 2 (by decide) rfl rfl 6 (by decide) (hts (.fieldLink RX9 31 "StraitSwim$Swim" "colds" "[I") (List.mem_cons_of_mem _ (List.mem_append_left _ (List.mem_append_left _ (List.mem_append_left _ (List.mem_append_left _ (List.mem_append_left _ (List.mem_append_left _ (List.mem_of_getElem? (i := 5) rfl))))))))) (fun _ h9 => h9) rfl dX9_ready_97 ?_
            refine lv_aload_n hx hb dX9_ready_100 rfl (lv_at hl 2 rfl) ?_
            refine g_get (C := RX9) (T := TX9) (N := 9) (ci := 8) hx hb hts (fun _ h => (List.mem_cons_of_mem _ (List.mem_append_right _ h))) hown hC.1 hG 2 (by decide) rfl rfl 7 (by decide) (hts (.fieldLink RX9 34 "StraitSwim$Swim" "reach" "I") (List.mem_cons_of_mem _ (List.mem_append_left _ (List.mem_append_left _ (List.mem_append_left _ (List.mem_append_left _ (List.mem_append_left _ (List.mem_append_left _ (List.mem_of_getElem? (i := 2) rfl))))))))) (fun _ h9 => h9) rfl dX9_ready_101 ?_
            have e_35 : u34.1 8 = t + 1 := by subst hu34; subst hu33; subst hu10; rfl
            rw [e_35]
            refine g_iald (n := 101) hx hb hC.1 hG 16 (by decide) rfl (by omega) (by omega) (by decide) dX9_ready_104 ?_
            have e_36 : u34.2.1 16 = va_up (w.2.1 16) (t + 1).toNat x32 := by subst hu34; subst hu33; subst hu10; rfl
            rw [e_36]
            rw [up_s]
            refine lv_aload_n hx hb dX9_ready_105 rfl (lv_at hl 3 rfl) ?_
            have ha_o37 : a ∈ u34.2.2.2.1 := by subst hu34; subst hu33; subst hu10; exact ha
            have hE_o37 : u34.2.2.2.2 a = .inr (2, [.int (zI nm), .int (zI sp), .int (zI li), .int (zI fd)]) := by subst hu34; subst hu33; subst hu10; exact hE
            obtain ⟨k9, hk9⟩ := va_pl_get (X := gFx cy ad jf u34) (f := u34.2.2.2.2) ha_o37
            refine va_get (C := RX3) (T := TX3) (N := 4) (ci := 2) hx hb hts (fun _ h => (List.mem_cons_of_mem _ (List.mem_append_left _ (List.mem_append_left _ (List.mem_append_left _ (List.mem_append_right _ h)))))) hown hC.1 hG.1 k9 (hk9.trans (by rw [hE_o37])) rfl 2 (by decide) (hts (.fieldLink RX9 61 "StraitSwim$Plain" "limit" "I") (List.mem_cons_of_mem _ (List.mem_append_left _ (List.mem_append_left _ (List.mem_append_left _ (List.mem_append_left _ (List.mem_append_left _ (List.mem_append_left _ (List.mem_of_getElem? (i := 10) rfl))))))))) (fun _ h9 => h9) rfl dX9_ready_106 ?_
            refine z_icmp_lt (tgt := 116) hx hb dX9_ready_109 (by decide) (by omega) (by omega) (by omega) (by omega) (fun c_38 => ?_) (fun c_38 => ?_)
            · refine z_iconst hx hb dX9_ready_116 ?_
              refine g_put (C := RX9) (T := TX9) (N := 9) (ci := 8) (ty := .boolean) hx hb hts (fun _ h => (List.mem_cons_of_mem _ (List.mem_append_right _ h))) tyX9 tyX9_ok nmX9 hown hC.1 hG hS 2 (by decide) rfl rfl 8 9 (by decide) (hts (.fieldLink RX9 37 "StraitSwim$Swim" "tooCold" "Z") (List.mem_cons_of_mem _ (List.mem_append_left _ (List.mem_append_left _ (List.mem_append_left _ (List.mem_append_left _ (List.mem_append_left _ (List.mem_append_left _ (List.mem_of_getElem? (i := 3) rfl))))))))) (fun _ h9 => h9) rfl (by decide +kernel) (nar_b (by omega)) rfl (Nat.le_of_ble_eq_true rfl) rfl (gO_9 ad _ _) dX9_ready_117 (fun u39 H locs hu39 hG hS => ?_)
              refine z_iinc (lv' := [(3, .int (zI (t + 1))), (4, .int (zI mo)), (0, .ref (ad 2)), (1, .ref a), (2, .int (zI p2))]) hx hb dX9_ready_120 hl (k := 1) rfl (by decide) rfl (fun ls hl => ?_)
              refine lv_goto (tgt := 20) hx hb dX9_ready_123 (by decide) ?_
              exact ih20 (t + 1) u39 _ _ _ (by omega) (by omega) (by have e9 : u39.2.1 16 (t + 1).toNat = x32 := (by subst hu39; subst hu34; subst hu33; subst hu10; exact up_s _ _ _); rw [e9]; omega) (by subst hu39; subst hu34; subst hu33; subst hu10; first | exact Or.inl rfl | exact Or.inr rfl) (by subst hu39; subst hu34; subst hu33; subst hu10; exact ha) (by subst hu39; subst hu34; subst hu33; subst hu10; exact hE) (by rw [hT, cRdL, if_pos (by omega), if_pos (by omega), hCC]; (repeat (first | rw [if_pos (by omega)] | rw [if_neg (by omega)])); unfold cRd1; subst hu39; subst hu34; subst hu33; subst hu10; subst_vars; rfl) hG hS (lv_sub hl [0, 2, 3, 4] rfl)
            · refine z_iconst hx hb dX9_ready_112 ?_
              refine lv_goto (tgt := 117) hx hb dX9_ready_113 (by decide) ?_
              refine g_put (C := RX9) (T := TX9) (N := 9) (ci := 8) (ty := .boolean) hx hb hts (fun _ h => (List.mem_cons_of_mem _ (List.mem_append_right _ h))) tyX9 tyX9_ok nmX9 hown hC.1 hG hS 2 (by decide) rfl rfl 8 9 (by decide) (hts (.fieldLink RX9 37 "StraitSwim$Swim" "tooCold" "Z") (List.mem_cons_of_mem _ (List.mem_append_left _ (List.mem_append_left _ (List.mem_append_left _ (List.mem_append_left _ (List.mem_append_left _ (List.mem_append_left _ (List.mem_of_getElem? (i := 3) rfl))))))))) (fun _ h9 => h9) rfl (by decide +kernel) (nar_b (by omega)) rfl (Nat.le_of_ble_eq_true rfl) rfl (gO_9 ad _ _) dX9_ready_117 (fun u40 H locs hu40 hG hS => ?_)
              refine z_iinc (lv' := [(3, .int (zI (t + 1))), (4, .int (zI mo)), (0, .ref (ad 2)), (1, .ref a), (2, .int (zI p2))]) hx hb dX9_ready_120 hl (k := 1) rfl (by decide) rfl (fun ls hl => ?_)
              refine lv_goto (tgt := 20) hx hb dX9_ready_123 (by decide) ?_
              exact ih20 (t + 1) u40 _ _ _ (by omega) (by omega) (by have e9 : u40.2.1 16 (t + 1).toNat = x32 := (by subst hu40; subst hu34; subst hu33; subst hu10; exact up_s _ _ _); rw [e9]; omega) (by subst hu40; subst hu34; subst hu33; subst hu10; first | exact Or.inl rfl | exact Or.inr rfl) (by subst hu40; subst hu34; subst hu33; subst hu10; exact ha) (by subst hu40; subst hu34; subst hu33; subst hu10; exact hE) (by rw [hT, cRdL, if_pos (by omega), if_pos (by omega), hCC]; (repeat (first | rw [if_pos (by omega)] | rw [if_neg (by omega)])); unfold cRd1; subst hu40; subst hu34; subst hu33; subst hu10; subst_vars; rfl) hG hS (lv_sub hl [0, 2, 3, 4] rfl)
  exact loop20 101 0 u3 _ _ _ (by omega) (by omega) (by have e9 : u3.2.1 16 (Int.toNat 0) = 0 := (by subst hu3; subst hu2; subst hu1; exact hc0); rw [e9]; omega) (by subst hu3; subst hu2; subst hu1; exact Or.inl rfl) (by subst hu3; subst hu2; subst hu1; exact ha) (by subst hu3; subst hu2; subst hu1; exact hE) (by subst hu3; subst hu2; subst hu1; rfl) hG hS (lv_sub hl [0, 1, 2, 3] rfl)
set_option maxHeartbeats 4000000 in
set_option maxRecDepth 100000 in
theorem kX9_ready_2_X0 (l : Launch) (D : va_G) (cy : Nat → ClassId) (ad : Nat → Nat) (jf : Nat → Int64) (A : Nat → Prop) (u : gS) (a : Nat) (nm sp li fd : Int) (p2 : Int) (ha : a ∈ u.2.2.2.1) (hE : u.2.2.2.2 a = .inr (0, [.int (zI nm), .int (zI sp), .int (zI li), .int (zI fd)])) (j_c : 0 ≤ p2 ∧ p2 ≤ 20) (j_s : 0 ≤ sp ∧ sp ≤ 20) (j_l : 0 ≤ li ∧ li ≤ 400) (j_f : 0 ≤ fd ∧ fd ≤ 40) (hc0 : u.2.1 16 0 = 0) : Met l yX9_ready wsX9_ready ({ frames := 4, cells := 0, slots := 0, locals := 96 }) (va_Pc [.ref (ad 2), .ref a, .int (zI p2)] (gB D cy ad jf A u)) (va_Qv (fun (v : gS) => v = cReady u 15 16 5 8 9 1 nm sp li fd p2) (gB D cy ad jf A) A) 0 0 A := by
  refine Met.ofW (cc := cX9_ready) (maxL := 5) (ret := none) (by decide) rfl ?_
  intro p e s m args below meth c s₁ B hml hv
  obtain ⟨rfl, hG, hC⟩ := hv
  have hx := B.exec
  have hb := B.bytes
  have hr := B.returns
  have hts := atoms_spec (ws := wsX9_ready) B.pre
  have hown : s.vm.findClass RX9 = some m.cls := findClass_of_methodNamed B.named
  have hlocks := B.notSynchronized
  have hS : va_S A s.heap s.heap [] := va_S.rf
  have hl := lv_entry ([.ref (ad 2), .ref a, .int (zI p2)]) (n := 5) (Nat.le_of_ble_eq_true rfl)
  rw [lg_entry_eq]
  generalize (lg_sl ([.ref (ad 2), .ref a, .int (zI p2)]) ++ List.replicate (5 - (lg_sl ([.ref (ad 2), .ref a, .int (zI p2)])).length) Slot.unset).toArray = ls at hl ⊢
  have hl : lv_has ls 5 [(0, .ref (ad 2)), (1, .ref a), (2, .int (zI p2))] := hl
  refine lv_aload_n hx hb dX9_ready_0 rfl (lv_at hl 0 rfl) ?_
  refine lv_aload_n hx hb dX9_ready_1 rfl (lv_at hl 1 rfl) ?_
  obtain ⟨k9, hk9⟩ := va_pl_get (X := gFx cy ad jf u) (f := u.2.2.2.2) ha
  refine va_get (C := RX0) (T := TX0) (N := 4) (ci := 0) hx hb hts (fun _ h => (List.mem_cons_of_mem _ (List.mem_append_left _ (List.mem_append_left _ (List.mem_append_left _ (List.mem_append_left _ (List.mem_append_right _ h))))))) hown hC.1 hG.1 k9 (hk9.trans (by rw [hE])) rfl 0 (by decide) (hts (.fieldLink RX9 41 "StraitSwim$Plain" "number" "I") (List.mem_cons_of_mem _ (List.mem_append_left _ (List.mem_append_left _ (List.mem_append_left _ (List.mem_append_left _ (List.mem_append_left _ (List.mem_append_left _ (List.mem_of_getElem? (i := 0) rfl))))))))) (fun _ h9 => h9) rfl dX9_ready_2 ?_
  refine g_put (C := RX9) (T := TX9) (N := 9) (ci := 8) (ty := .int) hx hb hts (fun _ h => (List.mem_cons_of_mem _ (List.mem_append_right _ h))) tyX9 tyX9_ok nmX9 hown hC.1 hG hS 2 (by decide) rfl rfl 0 5 (by decide) (hts (.fieldLink RX9 9 "StraitSwim$Swim" "number" "I") (List.mem_cons_of_mem _ (List.mem_append_left _ (List.mem_append_left _ (List.mem_append_left _ (List.mem_append_left _ (List.mem_append_left _ (List.mem_append_left _ (List.mem_of_getElem? (i := 1) rfl))))))))) (fun _ h9 => h9) rfl (by decide +kernel) rfl rfl (Nat.le_of_ble_eq_true rfl) rfl (gO_5 ad _ _) dX9_ready_5 (fun u1 H locs hu1 hG hS => ?_)
  refine lv_aload_n hx hb dX9_ready_8 rfl (lv_at hl 0 rfl) ?_
  refine z_iconst hx hb dX9_ready_9 ?_
  refine g_put (C := RX9) (T := TX9) (N := 9) (ci := 8) (ty := .int) hx hb hts (fun _ h => (List.mem_cons_of_mem _ (List.mem_append_right _ h))) tyX9 tyX9_ok nmX9 hown hC.1 hG hS 2 (by decide) rfl rfl 7 8 (by decide) (hts (.fieldLink RX9 34 "StraitSwim$Swim" "reach" "I") (List.mem_cons_of_mem _ (List.mem_append_left _ (List.mem_append_left _ (List.mem_append_left _ (List.mem_append_left _ (List.mem_append_left _ (List.mem_append_left _ (List.mem_of_getElem? (i := 2) rfl))))))))) (fun _ h9 => h9) rfl (by decide +kernel) rfl rfl (Nat.le_of_ble_eq_true rfl) rfl (gO_8 ad _ _) dX9_ready_10 (fun u2 H locs hu2 hG hS => ?_)
  refine lv_aload_n hx hb dX9_ready_13 rfl (lv_at hl 0 rfl) ?_
  refine z_iconst hx hb dX9_ready_14 ?_
  refine g_put (C := RX9) (T := TX9) (N := 9) (ci := 8) (ty := .boolean) hx hb hts (fun _ h => (List.mem_cons_of_mem _ (List.mem_append_right _ h))) tyX9 tyX9_ok nmX9 hown hC.1 hG hS 2 (by decide) rfl rfl 8 9 (by decide) (hts (.fieldLink RX9 37 "StraitSwim$Swim" "tooCold" "Z") (List.mem_cons_of_mem _ (List.mem_append_left _ (List.mem_append_left _ (List.mem_append_left _ (List.mem_append_left _ (List.mem_append_left _ (List.mem_append_left _ (List.mem_of_getElem? (i := 3) rfl))))))))) (fun _ h9 => h9) rfl (by decide +kernel) (nar_b (by omega)) rfl (Nat.le_of_ble_eq_true rfl) rfl (gO_9 ad _ _) dX9_ready_15 (fun u3 H locs hu3 hG hS => ?_)
  refine z_iconst hx hb dX9_ready_18 ?_
  refine lv_istore_n (lv' := [(3, .int (zI 0)), (0, .ref (ad 2)), (1, .ref a), (2, .int (zI p2))]) hx hb dX9_ready_19 rfl hl (by decide) rfl (fun ls hl => ?_)
  have loop20 : ∀ (n : Nat) (t : Int) (w : gS) (H : Heap) (locs : List Loc) (ls : Array Slot), (100 - t).toNat < n → (0 ≤ t ∧ t ≤ 100) → (0 ≤ w.2.1 16 t.toNat ∧ w.2.1 16 t.toNat ≤ 200 * t) → (w.1 9 = 0 ∨ w.1 9 = 1) → (a ∈ w.2.2.2.1) → (w.2.2.2.2 a = .inr (0, [.int (zI nm), .int (zI sp), .int (zI li), .int (zI fd)])) → (cRdL 15 16 8 9 1 sp li fd p2 101 0 (sI (sI (sI u 5 nm) 8 0) 9 0) = cRdL 15 16 8 9 1 sp li fd p2 n t w) → gH D cy ad jf A w H → va_S A s.heap H locs → lv_has ls 5 [(3, .int (zI t)), (0, .ref (ad 2)), (1, .ref a), (2, .int (zI p2))] → W p l e (headSpec wsX9_ready ({ frames := 4, cells := 0, slots := 0, locals := 96 })).room s m ([.ref (ad 2), .ref a, .int (zI p2)]).toArray below meth c H locs 0 0 (MQ below (va_Qv (fun (v : gS) => v = cReady u 15 16 5 8 9 1 nm sp li fd p2) (gB D cy ad jf A) A) ([.ref (ad 2), .ref a, .int (zI p2)]).toArray s 0 0 A) (F0 m 20 ls []) := by
    intro n
    induction n with
    | zero => intro t w H locs ls hm; exact absurd hm (Nat.not_lt_zero _)
    | succ n ih20 =>
      intro t w H locs ls hm ht9 hcl htc ha hE hT hG hS hl
      refine lv_iload_n hx hb dX9_ready_20 rfl (lv_at hl 0 rfl) ?_
      refine z_bipush hx hb dX9_ready_21 (by decide) ?_
      refine z_icmp_ge (tgt := 126) hx hb dX9_ready_23 (by decide) (by omega) (by omega) (by omega) (by omega) (fun c_4 => ?_) (fun c_4 => ?_)
      · exact W.vret hx hb hr (fun t9 ht9_ hW => ⟨⟨w, rfl, (by unfold cReady; rw [hT, cRdL]; (repeat (first | rw [if_pos (by omega)] | rw [if_neg (by omega)]))), gB.mk' hG hC hS ht9_ hW⟩, hS.F ht9_⟩) hS.2.2 dX9_ready_126
      · refine lv_aload_n hx hb dX9_ready_26 rfl (lv_at hl 1 rfl) ?_
        refine g_get (C := RX9) (T := TX9) (N := 9) (ci := 8) hx hb hts (fun _ h => (List.mem_cons_of_mem _ (List.mem_append_right _ h))) hown hC.1 hG 2 (by decide) rfl rfl 8 (by decide) (hts (.fieldLink RX9 37 "StraitSwim$Swim" "tooCold" "Z") (List.mem_cons_of_mem _ (List.mem_append_left _ (List.mem_append_left _ (List.mem_append_left _ (List.mem_append_left _ (List.mem_append_left _ (List.mem_append_left _ (List.mem_of_getElem? (i := 3) rfl))))))))) (fun _ h9 => h9) rfl dX9_ready_27 ?_
        refine z_if_ne (tgt := 126) hx hb dX9_ready_30 (by decide) (by omega) (by omega) (fun c_5 => ?_) (fun c_5 => ?_)
        · exact W.vret hx hb hr (fun t9 ht9_ hW => ⟨⟨w, rfl, (by unfold cReady; rw [hT, cRdL]; (repeat (first | rw [if_pos (by omega)] | rw [if_neg (by omega)]))), gB.mk' hG hC hS ht9_ hW⟩, hS.F ht9_⟩) hS.2.2 dX9_ready_126
        · refine lv_aload_n hx hb dX9_ready_33 rfl (lv_at hl 1 rfl) ?_
          refine g_get (C := RX9) (T := TX9) (N := 9) (ci := 8) hx hb hts (fun _ h => (List.mem_cons_of_mem _ (List.mem_append_right _ h))) hown hC.1 hG 2 (by decide) rfl rfl 5 (by decide) (hts (.fieldLink RX9 28 "StraitSwim$Swim" "strides" "[I") (List.mem_cons_of_mem _ (List.mem_append_left _ (List.mem_append_left _ (List.mem_append_left _ (List.mem_append_left _ (List.mem_append_left _ (List.mem_append_left _ (List.mem_of_getElem? (i := 4) rfl))))))))) (fun _ h9 => h9) rfl dX9_ready_34 ?_
          refine lv_iload_n hx hb dX9_ready_37 rfl (lv_at hl 0 rfl) ?_
          refine lv_aload_n hx hb dX9_ready_38 rfl (lv_at hl 2 rfl) ?_
          refine lv_iload_n hx hb dX9_ready_39 rfl (lv_at hl 0 rfl) ?_
          obtain ⟨k9, hk9⟩ := va_pl_get (X := gFx cy ad jf w) (f := w.2.2.2.2) ha
          refine g_calli (va_runU (As := [.int (zI t)]) (rest := [.int (zI t), .ref (ad 15)]) ⟨hx, hb, hml, hown, hts⟩ (kX3_strideIn_X0 l D cy ad jf A w a nm sp li fd t ha hE (by omega) (by omega) (by omega)) (va_cwU 1 hts gX9_ready_X3_strideIn_u44X0 rfl rfl rfl rfl (by decide +kernel) ⟨by decide, by decide⟩) (g_preD (C := RX0) hG hC hS (hk9.trans (by rw [hE])) rfl) rfl rfl hl.1 rfl (lv_room (Nat.le_of_ble_eq_true rfl)) dX9_ready_40 ⟨Nat.le_of_ble_eq_true rfl, Nat.le_of_ble_eq_true rfl⟩) hS (fun r6 u7 H locs p_8 hG hS => ?_)
          obtain ⟨rfl, he_⟩ := p_8
          rw [he_] at hG; clear he_
          obtain ⟨z9, hz9⟩ : ∃ z : Int, z = spPace 1 sp fd t := ⟨_, rfl⟩
          rw [← hz9]
          have qz9 : 0 ≤ z9 ∧ z9 ≤ 24 := by rw [hz9]; (first | omega | (unfold spAt1; split <;> omega) | (unfold spAt1; split <;> split <;> omega) | (split <;> first | omega | (unfold spAt1; split <;> omega)) | (unfold spPace spPc spAt1; split <;> (first | omega | (split <;> first | omega | (split <;> omega)))))
          refine g_iast (n := 100) hx hb hC.1 hG hS 15 (by decide) rfl rfl (by omega) (by omega) (by decide) dX9_ready_43 (fun u10 H locs hu10 hG hS => ?_)
          refine lv_aload_n hx hb dX9_ready_44 rfl (lv_at hl 1 rfl) ?_
          refine g_get (C := RX9) (T := TX9) (N := 9) (ci := 8) hx hb hts (fun _ h => (List.mem_cons_of_mem _ (List.mem_append_right _ h))) hown hC.1 hG 2 (by decide) rfl rfl 6 (by decide) (hts (.fieldLink RX9 31 "StraitSwim$Swim" "colds" "[I") (List.mem_cons_of_mem _ (List.mem_append_left _ (List.mem_append_left _ (List.mem_append_left _ (List.mem_append_left _ (List.mem_append_left _ (List.mem_append_left _ (List.mem_of_getElem? (i := 5) rfl))))))))) (fun _ h9 => h9) rfl dX9_ready_45 ?_
          refine lv_iload_n hx hb dX9_ready_48 rfl (lv_at hl 0 rfl) ?_
          refine g_iald (n := 101) hx hb hC.1 hG 16 (by decide) rfl (by omega) (by omega) (by decide) dX9_ready_49 ?_
          have e_11 : u10.2.1 16 = w.2.1 16 := by subst hu10; rfl
          rw [e_11]
          refine lv_aload_n hx hb dX9_ready_50 rfl (lv_at hl 2 rfl) ?_
          refine lv_iload_n hx hb dX9_ready_51 rfl (lv_at hl 0 rfl) ?_
          refine lv_iload_n hx hb dX9_ready_52 rfl (lv_at hl 3 rfl) ?_
          have ha_o12 : a ∈ u10.2.2.2.1 := by subst hu10; exact ha
          have hE_o12 : u10.2.2.2.2 a = .inr (0, [.int (zI nm), .int (zI sp), .int (zI li), .int (zI fd)]) := by subst hu10; exact hE
          obtain ⟨k9, hk9⟩ := va_pl_get (X := gFx cy ad jf u10) (f := u10.2.2.2.2) ha_o12
          refine g_calli (va_runU (As := [.int (zI t), .int (zI p2)]) (rest := [.int (zI (w.2.1 16 t.toNat))]) ⟨hx, hb, hml, hown, hts⟩ (kX0_coldIn_X0 l D cy ad jf A u10 a nm sp li fd t p2 ha_o12 hE_o12 (by omega) (by omega)) (va_cwO 2 hts gX9_ready_X0_coldIn_u48X0 rfl rfl rfl (List.mem_cons_of_mem _ (List.mem_append_left _ (List.mem_append_left _ (List.mem_append_left _ (List.mem_append_left _ (List.mem_append_left _ (List.mem_append_right _ (List.mem_append_right _ (List.mem_append_left _ (List.mem_of_getElem? (i := 12) rfl)))))))))) (by decide +kernel) ⟨by decide, by decide⟩) (g_preD (C := RX0) hG hC hS (hk9.trans (by rw [hE_o12])) rfl) rfl rfl hl.1 rfl (lv_room (Nat.le_of_ble_eq_true rfl)) dX9_ready_53 ⟨Nat.le_of_ble_eq_true rfl, Nat.le_of_ble_eq_true rfl⟩) hS (fun r13 u14 H locs p_15 hG hS => ?_)
          obtain ⟨rfl, he_⟩ := p_15
          rw [he_] at hG; clear he_
          obtain ⟨z16, hz16⟩ : ∃ z : Int, z = spAt1 (p2 + t / 8 - 2) := ⟨_, rfl⟩
          rw [← hz16]
          have qz16 : 1 ≤ z16 ∧ z16 ≤ 145 := by rw [hz16]; (first | omega | (unfold spAt1; split <;> omega) | (unfold spAt1; split <;> split <;> omega) | (split <;> first | omega | (unfold spAt1; split <;> omega)) | (unfold spPace spPc spAt1; split <;> (first | omega | (split <;> first | omega | (split <;> omega)))))
          refine z_iadd hx hb dX9_ready_56 ?_
          obtain ⟨mo, hmo⟩ : ∃ z : Int, z = (w.2.1 16 t.toNat) + z16 := ⟨_, rfl⟩
          rw [← hmo]
          refine lv_istore (lv' := [(4, .int (zI mo)), (3, .int (zI t)), (0, .ref (ad 2)), (1, .ref a), (2, .int (zI p2))]) hx hb dX9_ready_57 hl (by decide) rfl (fun ls hl => ?_)
          have e9 : z16 = spCold 1 p2 t := by unfold spCold; (repeat (first | rw [if_pos (by omega)] | rw [if_neg (by omega)])); all_goals (subst_vars; rfl)
          have hmo2 : mo = w.2.1 16 t.toNat + spCold 1 p2 t := by rw [hmo, e9]
          refine lv_aload_n hx hb dX9_ready_59 rfl (lv_at hl 2 rfl) ?_
          refine g_get (C := RX9) (T := TX9) (N := 9) (ci := 8) hx hb hts (fun _ h => (List.mem_cons_of_mem _ (List.mem_append_right _ h))) hown hC.1 hG 2 (by decide) rfl rfl 6 (by decide) (hts (.fieldLink RX9 31 "StraitSwim$Swim" "colds" "[I") (List.mem_cons_of_mem _ (List.mem_append_left _ (List.mem_append_left _ (List.mem_append_left _ (List.mem_append_left _ (List.mem_append_left _ (List.mem_append_left _ (List.mem_of_getElem? (i := 5) rfl))))))))) (fun _ h9 => h9) rfl dX9_ready_60 ?_
          refine lv_iload_n hx hb dX9_ready_63 rfl (lv_at hl 1 rfl) ?_
          refine z_iconst hx hb dX9_ready_64 ?_
          refine z_iadd hx hb dX9_ready_65 ?_
          refine lv_aload_n hx hb dX9_ready_66 rfl (lv_at hl 3 rfl) ?_
          refine lv_iload_n hx hb dX9_ready_67 rfl (lv_at hl 1 rfl) ?_
          have ha_o17 : a ∈ u10.2.2.2.1 := by subst hu10; exact ha
          have hE_o17 : u10.2.2.2.2 a = .inr (0, [.int (zI nm), .int (zI sp), .int (zI li), .int (zI fd)]) := by subst hu10; exact hE
          obtain ⟨k9, hk9⟩ := va_pl_get (X := gFx cy ad jf u10) (f := u10.2.2.2.2) ha_o17
          refine g_calli (va_runU (As := [.int (zI t)]) (rest := [.int (zI (t + 1)), .ref (ad 16)]) ⟨hx, hb, hml, hown, hts⟩ (kX3_feedsIn_X0 l D cy ad jf A u10 a nm sp li fd t ha_o17 hE_o17 (by omega) (by omega)) (va_cwU 1 hts gX9_ready_X3_feedsIn_u52X0 rfl rfl rfl rfl (by decide +kernel) ⟨by decide, by decide⟩) (g_preD (C := RX0) hG hC hS (hk9.trans (by rw [hE_o17])) rfl) rfl rfl hl.1 rfl (lv_room (Nat.le_of_ble_eq_true rfl)) dX9_ready_68 ⟨Nat.le_of_ble_eq_true rfl, Nat.le_of_ble_eq_true rfl⟩) hS (fun r18 u19 H locs p_20 hG hS => ?_)
          obtain ⟨⟨b21, rfl, q_22⟩, he_⟩ := p_20
          rw [he_] at hG; clear he_
          have hbb21 : 0 ≤ b21 ∧ b21 ≤ 1 := by rcases q_22 with ⟨h, _⟩ | ⟨h, _⟩ <;> omega
          refine z_if_eq (tgt := 85) hx hb dX9_ready_71 (by decide) (by omega) (by omega) (fun c_23 => ?_) (fun c_23 => ?_)
          · refine lv_iload hx hb dX9_ready_85 (lv_at hl 0 rfl) ?_
            refine g_iast (n := 101) hx hb hC.1 hG hS 16 (by decide) rfl rfl (by omega) (by omega) (by decide) dX9_ready_87 (fun u24 H locs hu24 hG hS => ?_)
            have hCC : cRdC w 16 1 fd p2 t = mo := by unfold cRdC; rw [← hmo2]; (repeat (first | rw [if_pos (by omega)] | rw [if_neg (by omega)])); all_goals (first | rfl | (subst_vars; rfl) | assumption | (symm; assumption))
            refine lv_aload_n hx hb dX9_ready_88 rfl (lv_at hl 2 rfl) ?_
            refine lv_iload_n hx hb dX9_ready_89 rfl (lv_at hl 1 rfl) ?_
            refine z_iconst hx hb dX9_ready_90 ?_
            refine z_iadd hx hb dX9_ready_91 ?_
            refine g_put (C := RX9) (T := TX9) (N := 9) (ci := 8) (ty := .int) hx hb hts (fun _ h => (List.mem_cons_of_mem _ (List.mem_append_right _ h))) tyX9 tyX9_ok nmX9 hown hC.1 hG hS 2 (by decide) rfl rfl 7 8 (by decide) (hts (.fieldLink RX9 34 "StraitSwim$Swim" "reach" "I") (List.mem_cons_of_mem _ (List.mem_append_left _ (List.mem_append_left _ (List.mem_append_left _ (List.mem_append_left _ (List.mem_append_left _ (List.mem_append_left _ (List.mem_of_getElem? (i := 2) rfl))))))))) (fun _ h9 => h9) rfl (by decide +kernel) rfl rfl (Nat.le_of_ble_eq_true rfl) rfl (gO_8 ad _ _) dX9_ready_92 (fun u25 H locs hu25 hG hS => ?_)
            refine lv_aload_n hx hb dX9_ready_95 rfl (lv_at hl 2 rfl) ?_
            refine lv_aload_n hx hb dX9_ready_96 rfl (lv_at hl 2 rfl) ?_
            refine g_get (C := RX9) (T := TX9) (N := 9) (ci := 8) hx hb hts (fun _ h => (List.mem_cons_of_mem _ (List.mem_append_right _ h))) hown hC.1 hG 2 (by decide) rfl rfl 6 (by decide) (hts (.fieldLink RX9 31 "StraitSwim$Swim" "colds" "[I") (List.mem_cons_of_mem _ (List.mem_append_left _ (List.mem_append_left _ (List.mem_append_left _ (List.mem_append_left _ (List.mem_append_left _ (List.mem_append_left _ (List.mem_of_getElem? (i := 5) rfl))))))))) (fun _ h9 => h9) rfl dX9_ready_97 ?_
            refine lv_aload_n hx hb dX9_ready_100 rfl (lv_at hl 2 rfl) ?_
            refine g_get (C := RX9) (T := TX9) (N := 9) (ci := 8) hx hb hts (fun _ h => (List.mem_cons_of_mem _ (List.mem_append_right _ h))) hown hC.1 hG 2 (by decide) rfl rfl 7 (by decide) (hts (.fieldLink RX9 34 "StraitSwim$Swim" "reach" "I") (List.mem_cons_of_mem _ (List.mem_append_left _ (List.mem_append_left _ (List.mem_append_left _ (List.mem_append_left _ (List.mem_append_left _ (List.mem_append_left _ (List.mem_of_getElem? (i := 2) rfl))))))))) (fun _ h9 => h9) rfl dX9_ready_101 ?_
            have e_26 : u25.1 8 = t + 1 := by subst hu25; subst hu24; subst hu10; rfl
            rw [e_26]
            refine g_iald (n := 101) hx hb hC.1 hG 16 (by decide) rfl (by omega) (by omega) (by decide) dX9_ready_104 ?_
            have e_27 : u25.2.1 16 = va_up (w.2.1 16) (t + 1).toNat mo := by subst hu25; subst hu24; subst hu10; rfl
            rw [e_27]
            rw [up_s]
            refine lv_aload_n hx hb dX9_ready_105 rfl (lv_at hl 3 rfl) ?_
            have ha_o28 : a ∈ u25.2.2.2.1 := by subst hu25; subst hu24; subst hu10; exact ha
            have hE_o28 : u25.2.2.2.2 a = .inr (0, [.int (zI nm), .int (zI sp), .int (zI li), .int (zI fd)]) := by subst hu25; subst hu24; subst hu10; exact hE
            obtain ⟨k9, hk9⟩ := va_pl_get (X := gFx cy ad jf u25) (f := u25.2.2.2.2) ha_o28
            refine va_get (C := RX0) (T := TX0) (N := 4) (ci := 0) hx hb hts (fun _ h => (List.mem_cons_of_mem _ (List.mem_append_left _ (List.mem_append_left _ (List.mem_append_left _ (List.mem_append_left _ (List.mem_append_right _ h))))))) hown hC.1 hG.1 k9 (hk9.trans (by rw [hE_o28])) rfl 2 (by decide) (hts (.fieldLink RX9 61 "StraitSwim$Plain" "limit" "I") (List.mem_cons_of_mem _ (List.mem_append_left _ (List.mem_append_left _ (List.mem_append_left _ (List.mem_append_left _ (List.mem_append_left _ (List.mem_append_left _ (List.mem_of_getElem? (i := 10) rfl))))))))) (fun _ h9 => h9) rfl dX9_ready_106 ?_
            refine z_icmp_lt (tgt := 116) hx hb dX9_ready_109 (by decide) (by omega) (by omega) (by omega) (by omega) (fun c_29 => ?_) (fun c_29 => ?_)
            · refine z_iconst hx hb dX9_ready_116 ?_
              refine g_put (C := RX9) (T := TX9) (N := 9) (ci := 8) (ty := .boolean) hx hb hts (fun _ h => (List.mem_cons_of_mem _ (List.mem_append_right _ h))) tyX9 tyX9_ok nmX9 hown hC.1 hG hS 2 (by decide) rfl rfl 8 9 (by decide) (hts (.fieldLink RX9 37 "StraitSwim$Swim" "tooCold" "Z") (List.mem_cons_of_mem _ (List.mem_append_left _ (List.mem_append_left _ (List.mem_append_left _ (List.mem_append_left _ (List.mem_append_left _ (List.mem_append_left _ (List.mem_of_getElem? (i := 3) rfl))))))))) (fun _ h9 => h9) rfl (by decide +kernel) (nar_b (by omega)) rfl (Nat.le_of_ble_eq_true rfl) rfl (gO_9 ad _ _) dX9_ready_117 (fun u30 H locs hu30 hG hS => ?_)
              refine z_iinc (lv' := [(3, .int (zI (t + 1))), (4, .int (zI mo)), (0, .ref (ad 2)), (1, .ref a), (2, .int (zI p2))]) hx hb dX9_ready_120 hl (k := 1) rfl (by decide) rfl (fun ls hl => ?_)
              refine lv_goto (tgt := 20) hx hb dX9_ready_123 (by decide) ?_
              exact ih20 (t + 1) u30 _ _ _ (by omega) (by omega) (by have e9 : u30.2.1 16 (t + 1).toNat = mo := (by subst hu30; subst hu25; subst hu24; subst hu10; exact up_s _ _ _); rw [e9]; omega) (by subst hu30; subst hu25; subst hu24; subst hu10; first | exact Or.inl rfl | exact Or.inr rfl) (by subst hu30; subst hu25; subst hu24; subst hu10; exact ha) (by subst hu30; subst hu25; subst hu24; subst hu10; exact hE) (by rw [hT, cRdL, if_pos (by omega), if_pos (by omega), hCC]; (repeat (first | rw [if_pos (by omega)] | rw [if_neg (by omega)])); unfold cRd1; subst hu30; subst hu25; subst hu24; subst hu10; subst_vars; rfl) hG hS (lv_sub hl [0, 2, 3, 4] rfl)
            · refine z_iconst hx hb dX9_ready_112 ?_
              refine lv_goto (tgt := 117) hx hb dX9_ready_113 (by decide) ?_
              refine g_put (C := RX9) (T := TX9) (N := 9) (ci := 8) (ty := .boolean) hx hb hts (fun _ h => (List.mem_cons_of_mem _ (List.mem_append_right _ h))) tyX9 tyX9_ok nmX9 hown hC.1 hG hS 2 (by decide) rfl rfl 8 9 (by decide) (hts (.fieldLink RX9 37 "StraitSwim$Swim" "tooCold" "Z") (List.mem_cons_of_mem _ (List.mem_append_left _ (List.mem_append_left _ (List.mem_append_left _ (List.mem_append_left _ (List.mem_append_left _ (List.mem_append_left _ (List.mem_of_getElem? (i := 3) rfl))))))))) (fun _ h9 => h9) rfl (by decide +kernel) (nar_b (by omega)) rfl (Nat.le_of_ble_eq_true rfl) rfl (gO_9 ad _ _) dX9_ready_117 (fun u31 H locs hu31 hG hS => ?_)
              refine z_iinc (lv' := [(3, .int (zI (t + 1))), (4, .int (zI mo)), (0, .ref (ad 2)), (1, .ref a), (2, .int (zI p2))]) hx hb dX9_ready_120 hl (k := 1) rfl (by decide) rfl (fun ls hl => ?_)
              refine lv_goto (tgt := 20) hx hb dX9_ready_123 (by decide) ?_
              exact ih20 (t + 1) u31 _ _ _ (by omega) (by omega) (by have e9 : u31.2.1 16 (t + 1).toNat = mo := (by subst hu31; subst hu25; subst hu24; subst hu10; exact up_s _ _ _); rw [e9]; omega) (by subst hu31; subst hu25; subst hu24; subst hu10; first | exact Or.inl rfl | exact Or.inr rfl) (by subst hu31; subst hu25; subst hu24; subst hu10; exact ha) (by subst hu31; subst hu25; subst hu24; subst hu10; exact hE) (by rw [hT, cRdL, if_pos (by omega), if_pos (by omega), hCC]; (repeat (first | rw [if_pos (by omega)] | rw [if_neg (by omega)])); unfold cRd1; subst hu31; subst hu25; subst hu24; subst hu10; subst_vars; rfl) hG hS (lv_sub hl [0, 2, 3, 4] rfl)
          · refine z_iconst hx hb dX9_ready_74 ?_
            refine lv_iload hx hb dX9_ready_75 (lv_at hl 0 rfl) ?_
            refine z_iconst hx hb dX9_ready_77 ?_
            refine z_isub hx hb dX9_ready_78 ?_
            refine va_mmax hx hb (hml.trans hl.1.symm) hown (hts (.methodLink RX9 56 Lib.Math.max.name) (List.mem_cons_of_mem _ (List.mem_append_left _ (List.mem_append_left _ (List.mem_append_left _ (List.mem_append_left _ (List.mem_append_left _ (List.mem_append_left _ (List.mem_of_getElem? (i := 6) rfl))))))))) (hts (.static Lib.Math.max.name) (List.mem_cons_of_mem _ (List.mem_append_left _ (List.mem_append_left _ (List.mem_append_left _ (List.mem_append_left _ (List.mem_append_left _ (List.mem_append_left _ (List.mem_of_getElem? (i := 7) rfl))))))))) (hts (.initialized "java/lang/Math") (List.mem_cons_of_mem _ (List.mem_append_left _ (List.mem_append_left _ (List.mem_append_left _ (List.mem_append_left _ (List.mem_append_left _ (List.mem_append_left _ (List.mem_of_getElem? (i := 8) rfl))))))))) (hts (.code Lib.Math.max.name Lib.Math.max.code 2 (some .int)) (List.mem_cons_of_mem _ (List.mem_append_left _ (List.mem_append_left _ (List.mem_append_left _ (List.mem_append_left _ (List.mem_append_left _ (List.mem_append_left _ (List.mem_of_getElem? (i := 9) rfl))))))))) (Nat.le_of_ble_eq_true rfl) (Nat.le_of_ble_eq_true rfl) (Nat.le_of_ble_eq_true rfl) (Nat.le_of_ble_eq_true rfl) dX9_ready_79 ?_
            rw [z_max (a := 0) (b := mo - 3) (by omega) (by omega) (by omega) (by omega)]
            obtain ⟨x32, hx32⟩ : ∃ z : Int, z = (if 0 < (mo - 3) then (mo - 3) else 0) := ⟨_, rfl⟩
            rw [← hx32]
            refine lv_goto (tgt := 87) hx hb dX9_ready_82 (by decide) ?_
            refine g_iast (n := 101) hx hb hC.1 hG hS 16 (by decide) rfl rfl (by omega) (by omega) (by decide) dX9_ready_87 (fun u33 H locs hu33 hG hS => ?_)
            have hCC : cRdC w 16 1 fd p2 t = x32 := by unfold cRdC; rw [← hmo2]; (repeat (first | rw [if_pos (by omega)] | rw [if_neg (by omega)])); all_goals (first | rfl | (subst_vars; rfl) | assumption | (symm; assumption))
            refine lv_aload_n hx hb dX9_ready_88 rfl (lv_at hl 2 rfl) ?_
            refine lv_iload_n hx hb dX9_ready_89 rfl (lv_at hl 1 rfl) ?_
            refine z_iconst hx hb dX9_ready_90 ?_
            refine z_iadd hx hb dX9_ready_91 ?_
            refine g_put (C := RX9) (T := TX9) (N := 9) (ci := 8) (ty := .int) hx hb hts (fun _ h => (List.mem_cons_of_mem _ (List.mem_append_right _ h))) tyX9 tyX9_ok nmX9 hown hC.1 hG hS 2 (by decide) rfl rfl 7 8 (by decide) (hts (.fieldLink RX9 34 "StraitSwim$Swim" "reach" "I") (List.mem_cons_of_mem _ (List.mem_append_left _ (List.mem_append_left _ (List.mem_append_left _ (List.mem_append_left _ (List.mem_append_left _ (List.mem_append_left _ (List.mem_of_getElem? (i := 2) rfl))))))))) (fun _ h9 => h9) rfl (by decide +kernel) rfl rfl (Nat.le_of_ble_eq_true rfl) rfl (gO_8 ad _ _) dX9_ready_92 (fun u34 H locs hu34 hG hS => ?_)
            refine lv_aload_n hx hb dX9_ready_95 rfl (lv_at hl 2 rfl) ?_
            refine lv_aload_n hx hb dX9_ready_96 rfl (lv_at hl 2 rfl) ?_
            refine g_get (C := RX9) (T := TX9) (N := 9) (ci := 8) hx hb hts (fun _ h => (List.mem_cons_of_mem _ (List.mem_append_right _ h))) hown hC.1 hG 2 (by decide) rfl rfl 6 (by decide) (hts (.fieldLink RX9 31 "StraitSwim$Swim" "colds" "[I") (List.mem_cons_of_mem _ (List.mem_append_left _ (List.mem_append_left _ (List.mem_append_left _ (List.mem_append_left _ (List.mem_append_left _ (List.mem_append_left _ (List.mem_of_getElem? (i := 5) rfl))))))))) (fun _ h9 => h9) rfl dX9_ready_97 ?_
            refine lv_aload_n hx hb dX9_ready_100 rfl (lv_at hl 2 rfl) ?_
            refine g_get (C := RX9) (T := TX9) (N := 9) (ci := 8) hx hb hts (fun _ h => (List.mem_cons_of_mem _ (List.mem_append_right _ h))) hown hC.1 hG 2 (by decide) rfl rfl 7 (by decide) (hts (.fieldLink RX9 34 "StraitSwim$Swim" "reach" "I") (List.mem_cons_of_mem _ (List.mem_append_left _ (List.mem_append_left _ (List.mem_append_left _ (List.mem_append_left _ (List.mem_append_left _ (List.mem_append_left _ (List.mem_of_getElem? (i := 2) rfl))))))))) (fun _ h9 => h9) rfl dX9_ready_101 ?_
            have e_35 : u34.1 8 = t + 1 := by subst hu34; subst hu33; subst hu10; rfl
            rw [e_35]
            refine g_iald (n := 101) hx hb hC.1 hG 16 (by decide) rfl (by omega) (by omega) (by decide) dX9_ready_104 ?_
            have e_36 : u34.2.1 16 = va_up (w.2.1 16) (t + 1).toNat x32 := by subst hu34; subst hu33; subst hu10; rfl
            rw [e_36]
            rw [up_s]
            refine lv_aload_n hx hb dX9_ready_105 rfl (lv_at hl 3 rfl) ?_
            have ha_o37 : a ∈ u34.2.2.2.1 := by subst hu34; subst hu33; subst hu10; exact ha
            have hE_o37 : u34.2.2.2.2 a = .inr (0, [.int (zI nm), .int (zI sp), .int (zI li), .int (zI fd)]) := by subst hu34; subst hu33; subst hu10; exact hE
            obtain ⟨k9, hk9⟩ := va_pl_get (X := gFx cy ad jf u34) (f := u34.2.2.2.2) ha_o37
            refine va_get (C := RX0) (T := TX0) (N := 4) (ci := 0) hx hb hts (fun _ h => (List.mem_cons_of_mem _ (List.mem_append_left _ (List.mem_append_left _ (List.mem_append_left _ (List.mem_append_left _ (List.mem_append_right _ h))))))) hown hC.1 hG.1 k9 (hk9.trans (by rw [hE_o37])) rfl 2 (by decide) (hts (.fieldLink RX9 61 "StraitSwim$Plain" "limit" "I") (List.mem_cons_of_mem _ (List.mem_append_left _ (List.mem_append_left _ (List.mem_append_left _ (List.mem_append_left _ (List.mem_append_left _ (List.mem_append_left _ (List.mem_of_getElem? (i := 10) rfl))))))))) (fun _ h9 => h9) rfl dX9_ready_106 ?_
            refine z_icmp_lt (tgt := 116) hx hb dX9_ready_109 (by decide) (by omega) (by omega) (by omega) (by omega) (fun c_38 => ?_) (fun c_38 => ?_)
            · refine z_iconst hx hb dX9_ready_116 ?_
              refine g_put (C := RX9) (T := TX9) (N := 9) (ci := 8) (ty := .boolean) hx hb hts (fun _ h => (List.mem_cons_of_mem _ (List.mem_append_right _ h))) tyX9 tyX9_ok nmX9 hown hC.1 hG hS 2 (by decide) rfl rfl 8 9 (by decide) (hts (.fieldLink RX9 37 "StraitSwim$Swim" "tooCold" "Z") (List.mem_cons_of_mem _ (List.mem_append_left _ (List.mem_append_left _ (List.mem_append_left _ (List.mem_append_left _ (List.mem_append_left _ (List.mem_append_left _ (List.mem_of_getElem? (i := 3) rfl))))))))) (fun _ h9 => h9) rfl (by decide +kernel) (nar_b (by omega)) rfl (Nat.le_of_ble_eq_true rfl) rfl (gO_9 ad _ _) dX9_ready_117 (fun u39 H locs hu39 hG hS => ?_)
              refine z_iinc (lv' := [(3, .int (zI (t + 1))), (4, .int (zI mo)), (0, .ref (ad 2)), (1, .ref a), (2, .int (zI p2))]) hx hb dX9_ready_120 hl (k := 1) rfl (by decide) rfl (fun ls hl => ?_)
              refine lv_goto (tgt := 20) hx hb dX9_ready_123 (by decide) ?_
              exact ih20 (t + 1) u39 _ _ _ (by omega) (by omega) (by have e9 : u39.2.1 16 (t + 1).toNat = x32 := (by subst hu39; subst hu34; subst hu33; subst hu10; exact up_s _ _ _); rw [e9]; omega) (by subst hu39; subst hu34; subst hu33; subst hu10; first | exact Or.inl rfl | exact Or.inr rfl) (by subst hu39; subst hu34; subst hu33; subst hu10; exact ha) (by subst hu39; subst hu34; subst hu33; subst hu10; exact hE) (by rw [hT, cRdL, if_pos (by omega), if_pos (by omega), hCC]; (repeat (first | rw [if_pos (by omega)] | rw [if_neg (by omega)])); unfold cRd1; subst hu39; subst hu34; subst hu33; subst hu10; subst_vars; rfl) hG hS (lv_sub hl [0, 2, 3, 4] rfl)
            · refine z_iconst hx hb dX9_ready_112 ?_
              refine lv_goto (tgt := 117) hx hb dX9_ready_113 (by decide) ?_
              refine g_put (C := RX9) (T := TX9) (N := 9) (ci := 8) (ty := .boolean) hx hb hts (fun _ h => (List.mem_cons_of_mem _ (List.mem_append_right _ h))) tyX9 tyX9_ok nmX9 hown hC.1 hG hS 2 (by decide) rfl rfl 8 9 (by decide) (hts (.fieldLink RX9 37 "StraitSwim$Swim" "tooCold" "Z") (List.mem_cons_of_mem _ (List.mem_append_left _ (List.mem_append_left _ (List.mem_append_left _ (List.mem_append_left _ (List.mem_append_left _ (List.mem_append_left _ (List.mem_of_getElem? (i := 3) rfl))))))))) (fun _ h9 => h9) rfl (by decide +kernel) (nar_b (by omega)) rfl (Nat.le_of_ble_eq_true rfl) rfl (gO_9 ad _ _) dX9_ready_117 (fun u40 H locs hu40 hG hS => ?_)
              refine z_iinc (lv' := [(3, .int (zI (t + 1))), (4, .int (zI mo)), (0, .ref (ad 2)), (1, .ref a), (2, .int (zI p2))]) hx hb dX9_ready_120 hl (k := 1) rfl (by decide) rfl (fun ls hl => ?_)
              refine lv_goto (tgt := 20) hx hb dX9_ready_123 (by decide) ?_
              exact ih20 (t + 1) u40 _ _ _ (by omega) (by omega) (by have e9 : u40.2.1 16 (t + 1).toNat = x32 := (by subst hu40; subst hu34; subst hu33; subst hu10; exact up_s _ _ _); rw [e9]; omega) (by subst hu40; subst hu34; subst hu33; subst hu10; first | exact Or.inl rfl | exact Or.inr rfl) (by subst hu40; subst hu34; subst hu33; subst hu10; exact ha) (by subst hu40; subst hu34; subst hu33; subst hu10; exact hE) (by rw [hT, cRdL, if_pos (by omega), if_pos (by omega), hCC]; (repeat (first | rw [if_pos (by omega)] | rw [if_neg (by omega)])); unfold cRd1; subst hu40; subst hu34; subst hu33; subst hu10; subst_vars; rfl) hG hS (lv_sub hl [0, 2, 3, 4] rfl)
  exact loop20 101 0 u3 _ _ _ (by omega) (by omega) (by have e9 : u3.2.1 16 (Int.toNat 0) = 0 := (by subst hu3; subst hu2; subst hu1; exact hc0); rw [e9]; omega) (by subst hu3; subst hu2; subst hu1; exact Or.inl rfl) (by subst hu3; subst hu2; subst hu1; exact ha) (by subst hu3; subst hu2; subst hu1; exact hE) (by subst hu3; subst hu2; subst hu1; rfl) hG hS (lv_sub hl [0, 1, 2, 3] rfl)
set_option maxHeartbeats 4000000 in
set_option maxRecDepth 100000 in
theorem kX9_ready_2_X4 (l : Launch) (D : va_G) (cy : Nat → ClassId) (ad : Nat → Nat) (jf : Nat → Int64) (A : Nat → Prop) (u : gS) (a : Nat) (nm sp li fd : Int) (p2 : Int) (ha : a ∈ u.2.2.2.1) (hE : u.2.2.2.2 a = .inr (3, [.int (zI nm), .int (zI sp), .int (zI li), .int (zI fd)])) (j_c : 0 ≤ p2 ∧ p2 ≤ 20) (j_s : 0 ≤ sp ∧ sp ≤ 20) (j_l : 0 ≤ li ∧ li ≤ 400) (j_f : 0 ≤ fd ∧ fd ≤ 40) (hc0 : u.2.1 16 0 = 0) : Met l yX9_ready wsX9_ready ({ frames := 4, cells := 0, slots := 0, locals := 96 }) (va_Pc [.ref (ad 2), .ref a, .int (zI p2)] (gB D cy ad jf A u)) (va_Qv (fun (v : gS) => v = cReady u 15 16 5 8 9 2 nm sp li fd p2) (gB D cy ad jf A) A) 0 0 A := by
  refine Met.ofW (cc := cX9_ready) (maxL := 5) (ret := none) (by decide) rfl ?_
  intro p e s m args below meth c s₁ B hml hv
  obtain ⟨rfl, hG, hC⟩ := hv
  have hx := B.exec
  have hb := B.bytes
  have hr := B.returns
  have hts := atoms_spec (ws := wsX9_ready) B.pre
  have hown : s.vm.findClass RX9 = some m.cls := findClass_of_methodNamed B.named
  have hlocks := B.notSynchronized
  have hS : va_S A s.heap s.heap [] := va_S.rf
  have hl := lv_entry ([.ref (ad 2), .ref a, .int (zI p2)]) (n := 5) (Nat.le_of_ble_eq_true rfl)
  rw [lg_entry_eq]
  generalize (lg_sl ([.ref (ad 2), .ref a, .int (zI p2)]) ++ List.replicate (5 - (lg_sl ([.ref (ad 2), .ref a, .int (zI p2)])).length) Slot.unset).toArray = ls at hl ⊢
  have hl : lv_has ls 5 [(0, .ref (ad 2)), (1, .ref a), (2, .int (zI p2))] := hl
  refine lv_aload_n hx hb dX9_ready_0 rfl (lv_at hl 0 rfl) ?_
  refine lv_aload_n hx hb dX9_ready_1 rfl (lv_at hl 1 rfl) ?_
  obtain ⟨k9, hk9⟩ := va_pl_get (X := gFx cy ad jf u) (f := u.2.2.2.2) ha
  refine va_get (C := RX4) (T := TX4) (N := 4) (ci := 3) hx hb hts (fun _ h => (List.mem_cons_of_mem _ (List.mem_append_left _ (List.mem_append_left _ (List.mem_append_right _ h))))) hown hC.1 hG.1 k9 (hk9.trans (by rw [hE])) rfl 0 (by decide) (hts (.fieldLink RX9 41 "StraitSwim$Plain" "number" "I") (List.mem_cons_of_mem _ (List.mem_append_left _ (List.mem_append_left _ (List.mem_append_left _ (List.mem_append_left _ (List.mem_append_left _ (List.mem_append_left _ (List.mem_of_getElem? (i := 0) rfl))))))))) (fun _ h9 => h9) rfl dX9_ready_2 ?_
  refine g_put (C := RX9) (T := TX9) (N := 9) (ci := 8) (ty := .int) hx hb hts (fun _ h => (List.mem_cons_of_mem _ (List.mem_append_right _ h))) tyX9 tyX9_ok nmX9 hown hC.1 hG hS 2 (by decide) rfl rfl 0 5 (by decide) (hts (.fieldLink RX9 9 "StraitSwim$Swim" "number" "I") (List.mem_cons_of_mem _ (List.mem_append_left _ (List.mem_append_left _ (List.mem_append_left _ (List.mem_append_left _ (List.mem_append_left _ (List.mem_append_left _ (List.mem_of_getElem? (i := 1) rfl))))))))) (fun _ h9 => h9) rfl (by decide +kernel) rfl rfl (Nat.le_of_ble_eq_true rfl) rfl (gO_5 ad _ _) dX9_ready_5 (fun u1 H locs hu1 hG hS => ?_)
  refine lv_aload_n hx hb dX9_ready_8 rfl (lv_at hl 0 rfl) ?_
  refine z_iconst hx hb dX9_ready_9 ?_
  refine g_put (C := RX9) (T := TX9) (N := 9) (ci := 8) (ty := .int) hx hb hts (fun _ h => (List.mem_cons_of_mem _ (List.mem_append_right _ h))) tyX9 tyX9_ok nmX9 hown hC.1 hG hS 2 (by decide) rfl rfl 7 8 (by decide) (hts (.fieldLink RX9 34 "StraitSwim$Swim" "reach" "I") (List.mem_cons_of_mem _ (List.mem_append_left _ (List.mem_append_left _ (List.mem_append_left _ (List.mem_append_left _ (List.mem_append_left _ (List.mem_append_left _ (List.mem_of_getElem? (i := 2) rfl))))))))) (fun _ h9 => h9) rfl (by decide +kernel) rfl rfl (Nat.le_of_ble_eq_true rfl) rfl (gO_8 ad _ _) dX9_ready_10 (fun u2 H locs hu2 hG hS => ?_)
  refine lv_aload_n hx hb dX9_ready_13 rfl (lv_at hl 0 rfl) ?_
  refine z_iconst hx hb dX9_ready_14 ?_
  refine g_put (C := RX9) (T := TX9) (N := 9) (ci := 8) (ty := .boolean) hx hb hts (fun _ h => (List.mem_cons_of_mem _ (List.mem_append_right _ h))) tyX9 tyX9_ok nmX9 hown hC.1 hG hS 2 (by decide) rfl rfl 8 9 (by decide) (hts (.fieldLink RX9 37 "StraitSwim$Swim" "tooCold" "Z") (List.mem_cons_of_mem _ (List.mem_append_left _ (List.mem_append_left _ (List.mem_append_left _ (List.mem_append_left _ (List.mem_append_left _ (List.mem_append_left _ (List.mem_of_getElem? (i := 3) rfl))))))))) (fun _ h9 => h9) rfl (by decide +kernel) (nar_b (by omega)) rfl (Nat.le_of_ble_eq_true rfl) rfl (gO_9 ad _ _) dX9_ready_15 (fun u3 H locs hu3 hG hS => ?_)
  refine z_iconst hx hb dX9_ready_18 ?_
  refine lv_istore_n (lv' := [(3, .int (zI 0)), (0, .ref (ad 2)), (1, .ref a), (2, .int (zI p2))]) hx hb dX9_ready_19 rfl hl (by decide) rfl (fun ls hl => ?_)
  have loop20 : ∀ (n : Nat) (t : Int) (w : gS) (H : Heap) (locs : List Loc) (ls : Array Slot), (100 - t).toNat < n → (0 ≤ t ∧ t ≤ 100) → (0 ≤ w.2.1 16 t.toNat ∧ w.2.1 16 t.toNat ≤ 200 * t) → (w.1 9 = 0 ∨ w.1 9 = 1) → (a ∈ w.2.2.2.1) → (w.2.2.2.2 a = .inr (3, [.int (zI nm), .int (zI sp), .int (zI li), .int (zI fd)])) → (cRdL 15 16 8 9 2 sp li fd p2 101 0 (sI (sI (sI u 5 nm) 8 0) 9 0) = cRdL 15 16 8 9 2 sp li fd p2 n t w) → gH D cy ad jf A w H → va_S A s.heap H locs → lv_has ls 5 [(3, .int (zI t)), (0, .ref (ad 2)), (1, .ref a), (2, .int (zI p2))] → W p l e (headSpec wsX9_ready ({ frames := 4, cells := 0, slots := 0, locals := 96 })).room s m ([.ref (ad 2), .ref a, .int (zI p2)]).toArray below meth c H locs 0 0 (MQ below (va_Qv (fun (v : gS) => v = cReady u 15 16 5 8 9 2 nm sp li fd p2) (gB D cy ad jf A) A) ([.ref (ad 2), .ref a, .int (zI p2)]).toArray s 0 0 A) (F0 m 20 ls []) := by
    intro n
    induction n with
    | zero => intro t w H locs ls hm; exact absurd hm (Nat.not_lt_zero _)
    | succ n ih20 =>
      intro t w H locs ls hm ht9 hcl htc ha hE hT hG hS hl
      refine lv_iload_n hx hb dX9_ready_20 rfl (lv_at hl 0 rfl) ?_
      refine z_bipush hx hb dX9_ready_21 (by decide) ?_
      refine z_icmp_ge (tgt := 126) hx hb dX9_ready_23 (by decide) (by omega) (by omega) (by omega) (by omega) (fun c_4 => ?_) (fun c_4 => ?_)
      · exact W.vret hx hb hr (fun t9 ht9_ hW => ⟨⟨w, rfl, (by unfold cReady; rw [hT, cRdL]; (repeat (first | rw [if_pos (by omega)] | rw [if_neg (by omega)]))), gB.mk' hG hC hS ht9_ hW⟩, hS.F ht9_⟩) hS.2.2 dX9_ready_126
      · refine lv_aload_n hx hb dX9_ready_26 rfl (lv_at hl 1 rfl) ?_
        refine g_get (C := RX9) (T := TX9) (N := 9) (ci := 8) hx hb hts (fun _ h => (List.mem_cons_of_mem _ (List.mem_append_right _ h))) hown hC.1 hG 2 (by decide) rfl rfl 8 (by decide) (hts (.fieldLink RX9 37 "StraitSwim$Swim" "tooCold" "Z") (List.mem_cons_of_mem _ (List.mem_append_left _ (List.mem_append_left _ (List.mem_append_left _ (List.mem_append_left _ (List.mem_append_left _ (List.mem_append_left _ (List.mem_of_getElem? (i := 3) rfl))))))))) (fun _ h9 => h9) rfl dX9_ready_27 ?_
        refine z_if_ne (tgt := 126) hx hb dX9_ready_30 (by decide) (by omega) (by omega) (fun c_5 => ?_) (fun c_5 => ?_)
        · exact W.vret hx hb hr (fun t9 ht9_ hW => ⟨⟨w, rfl, (by unfold cReady; rw [hT, cRdL]; (repeat (first | rw [if_pos (by omega)] | rw [if_neg (by omega)]))), gB.mk' hG hC hS ht9_ hW⟩, hS.F ht9_⟩) hS.2.2 dX9_ready_126
        · refine lv_aload_n hx hb dX9_ready_33 rfl (lv_at hl 1 rfl) ?_
          refine g_get (C := RX9) (T := TX9) (N := 9) (ci := 8) hx hb hts (fun _ h => (List.mem_cons_of_mem _ (List.mem_append_right _ h))) hown hC.1 hG 2 (by decide) rfl rfl 5 (by decide) (hts (.fieldLink RX9 28 "StraitSwim$Swim" "strides" "[I") (List.mem_cons_of_mem _ (List.mem_append_left _ (List.mem_append_left _ (List.mem_append_left _ (List.mem_append_left _ (List.mem_append_left _ (List.mem_append_left _ (List.mem_of_getElem? (i := 4) rfl))))))))) (fun _ h9 => h9) rfl dX9_ready_34 ?_
          refine lv_iload_n hx hb dX9_ready_37 rfl (lv_at hl 0 rfl) ?_
          refine lv_aload_n hx hb dX9_ready_38 rfl (lv_at hl 2 rfl) ?_
          refine lv_iload_n hx hb dX9_ready_39 rfl (lv_at hl 0 rfl) ?_
          obtain ⟨k9, hk9⟩ := va_pl_get (X := gFx cy ad jf w) (f := w.2.2.2.2) ha
          refine g_calli (va_runU (As := [.int (zI t)]) (rest := [.int (zI t), .ref (ad 15)]) ⟨hx, hb, hml, hown, hts⟩ (kX3_strideIn_X4 l D cy ad jf A w a nm sp li fd t ha hE (by omega) (by omega) (by omega)) (va_cwU 1 hts gX9_ready_X3_strideIn_u44X4 rfl rfl rfl rfl (by decide +kernel) ⟨by decide, by decide⟩) (g_preD (C := RX4) hG hC hS (hk9.trans (by rw [hE])) rfl) rfl rfl hl.1 rfl (lv_room (Nat.le_of_ble_eq_true rfl)) dX9_ready_40 ⟨Nat.le_of_ble_eq_true rfl, Nat.le_of_ble_eq_true rfl⟩) hS (fun r6 u7 H locs p_8 hG hS => ?_)
          obtain ⟨rfl, he_⟩ := p_8
          rw [he_] at hG; clear he_
          obtain ⟨z9, hz9⟩ : ∃ z : Int, z = spPace 2 sp fd t := ⟨_, rfl⟩
          rw [← hz9]
          have qz9 : 0 ≤ z9 ∧ z9 ≤ 24 := by rw [hz9]; (first | omega | (unfold spAt1; split <;> omega) | (unfold spAt1; split <;> split <;> omega) | (split <;> first | omega | (unfold spAt1; split <;> omega)) | (unfold spPace spPc spAt1; split <;> (first | omega | (split <;> first | omega | (split <;> omega)))))
          refine g_iast (n := 100) hx hb hC.1 hG hS 15 (by decide) rfl rfl (by omega) (by omega) (by decide) dX9_ready_43 (fun u10 H locs hu10 hG hS => ?_)
          refine lv_aload_n hx hb dX9_ready_44 rfl (lv_at hl 1 rfl) ?_
          refine g_get (C := RX9) (T := TX9) (N := 9) (ci := 8) hx hb hts (fun _ h => (List.mem_cons_of_mem _ (List.mem_append_right _ h))) hown hC.1 hG 2 (by decide) rfl rfl 6 (by decide) (hts (.fieldLink RX9 31 "StraitSwim$Swim" "colds" "[I") (List.mem_cons_of_mem _ (List.mem_append_left _ (List.mem_append_left _ (List.mem_append_left _ (List.mem_append_left _ (List.mem_append_left _ (List.mem_append_left _ (List.mem_of_getElem? (i := 5) rfl))))))))) (fun _ h9 => h9) rfl dX9_ready_45 ?_
          refine lv_iload_n hx hb dX9_ready_48 rfl (lv_at hl 0 rfl) ?_
          refine g_iald (n := 101) hx hb hC.1 hG 16 (by decide) rfl (by omega) (by omega) (by decide) dX9_ready_49 ?_
          have e_11 : u10.2.1 16 = w.2.1 16 := by subst hu10; rfl
          rw [e_11]
          refine lv_aload_n hx hb dX9_ready_50 rfl (lv_at hl 2 rfl) ?_
          refine lv_iload_n hx hb dX9_ready_51 rfl (lv_at hl 0 rfl) ?_
          refine lv_iload_n hx hb dX9_ready_52 rfl (lv_at hl 3 rfl) ?_
          have ha_o12 : a ∈ u10.2.2.2.1 := by subst hu10; exact ha
          have hE_o12 : u10.2.2.2.2 a = .inr (3, [.int (zI nm), .int (zI sp), .int (zI li), .int (zI fd)]) := by subst hu10; exact hE
          obtain ⟨k9, hk9⟩ := va_pl_get (X := gFx cy ad jf u10) (f := u10.2.2.2.2) ha_o12
          refine g_calli (va_runU (As := [.int (zI t), .int (zI p2)]) (rest := [.int (zI (w.2.1 16 t.toNat))]) ⟨hx, hb, hml, hown, hts⟩ (kX3_coldIn_X4 l D cy ad jf A u10 a nm sp li fd t p2 ha_o12 hE_o12 (by omega) (by omega)) (va_cwU 2 hts gX9_ready_X3_coldIn_u48X4 rfl rfl rfl rfl (by decide +kernel) ⟨by decide, by decide⟩) (g_preD (C := RX4) hG hC hS (hk9.trans (by rw [hE_o12])) rfl) rfl rfl hl.1 rfl (lv_room (Nat.le_of_ble_eq_true rfl)) dX9_ready_53 ⟨Nat.le_of_ble_eq_true rfl, Nat.le_of_ble_eq_true rfl⟩) hS (fun r13 u14 H locs p_15 hG hS => ?_)
          obtain ⟨rfl, he_⟩ := p_15
          rw [he_] at hG; clear he_
          obtain ⟨z16, hz16⟩ : ∃ z : Int, z = p2 + t / 8 := ⟨_, rfl⟩
          rw [← hz16]
          have qz16 : 0 ≤ z16 ∧ z16 ≤ 145 := by rw [hz16]; (first | omega | (unfold spAt1; split <;> omega) | (unfold spAt1; split <;> split <;> omega) | (split <;> first | omega | (unfold spAt1; split <;> omega)) | (unfold spPace spPc spAt1; split <;> (first | omega | (split <;> first | omega | (split <;> omega)))))
          refine z_iadd hx hb dX9_ready_56 ?_
          obtain ⟨mo, hmo⟩ : ∃ z : Int, z = (w.2.1 16 t.toNat) + z16 := ⟨_, rfl⟩
          rw [← hmo]
          refine lv_istore (lv' := [(4, .int (zI mo)), (3, .int (zI t)), (0, .ref (ad 2)), (1, .ref a), (2, .int (zI p2))]) hx hb dX9_ready_57 hl (by decide) rfl (fun ls hl => ?_)
          have e9 : z16 = spCold 2 p2 t := by unfold spCold; (repeat (first | rw [if_pos (by omega)] | rw [if_neg (by omega)])); all_goals (subst_vars; rfl)
          have hmo2 : mo = w.2.1 16 t.toNat + spCold 2 p2 t := by rw [hmo, e9]
          refine lv_aload_n hx hb dX9_ready_59 rfl (lv_at hl 2 rfl) ?_
          refine g_get (C := RX9) (T := TX9) (N := 9) (ci := 8) hx hb hts (fun _ h => (List.mem_cons_of_mem _ (List.mem_append_right _ h))) hown hC.1 hG 2 (by decide) rfl rfl 6 (by decide) (hts (.fieldLink RX9 31 "StraitSwim$Swim" "colds" "[I") (List.mem_cons_of_mem _ (List.mem_append_left _ (List.mem_append_left _ (List.mem_append_left _ (List.mem_append_left _ (List.mem_append_left _ (List.mem_append_left _ (List.mem_of_getElem? (i := 5) rfl))))))))) (fun _ h9 => h9) rfl dX9_ready_60 ?_
          refine lv_iload_n hx hb dX9_ready_63 rfl (lv_at hl 1 rfl) ?_
          refine z_iconst hx hb dX9_ready_64 ?_
          refine z_iadd hx hb dX9_ready_65 ?_
          refine lv_aload_n hx hb dX9_ready_66 rfl (lv_at hl 3 rfl) ?_
          refine lv_iload_n hx hb dX9_ready_67 rfl (lv_at hl 1 rfl) ?_
          have ha_o17 : a ∈ u10.2.2.2.1 := by subst hu10; exact ha
          have hE_o17 : u10.2.2.2.2 a = .inr (3, [.int (zI nm), .int (zI sp), .int (zI li), .int (zI fd)]) := by subst hu10; exact hE
          obtain ⟨k9, hk9⟩ := va_pl_get (X := gFx cy ad jf u10) (f := u10.2.2.2.2) ha_o17
          refine g_calli (va_runU (As := [.int (zI t)]) (rest := [.int (zI (t + 1)), .ref (ad 16)]) ⟨hx, hb, hml, hown, hts⟩ (kX3_feedsIn_X4 l D cy ad jf A u10 a nm sp li fd t ha_o17 hE_o17 (by omega) (by omega)) (va_cwU 1 hts gX9_ready_X3_feedsIn_u52X4 rfl rfl rfl rfl (by decide +kernel) ⟨by decide, by decide⟩) (g_preD (C := RX4) hG hC hS (hk9.trans (by rw [hE_o17])) rfl) rfl rfl hl.1 rfl (lv_room (Nat.le_of_ble_eq_true rfl)) dX9_ready_68 ⟨Nat.le_of_ble_eq_true rfl, Nat.le_of_ble_eq_true rfl⟩) hS (fun r18 u19 H locs p_20 hG hS => ?_)
          obtain ⟨⟨b21, rfl, q_22⟩, he_⟩ := p_20
          rw [he_] at hG; clear he_
          have hbb21 : 0 ≤ b21 ∧ b21 ≤ 1 := by rcases q_22 with ⟨h, _⟩ | ⟨h, _⟩ <;> omega
          refine z_if_eq (tgt := 85) hx hb dX9_ready_71 (by decide) (by omega) (by omega) (fun c_23 => ?_) (fun c_23 => ?_)
          · refine lv_iload hx hb dX9_ready_85 (lv_at hl 0 rfl) ?_
            refine g_iast (n := 101) hx hb hC.1 hG hS 16 (by decide) rfl rfl (by omega) (by omega) (by decide) dX9_ready_87 (fun u24 H locs hu24 hG hS => ?_)
            have hCC : cRdC w 16 2 fd p2 t = mo := by unfold cRdC; rw [← hmo2]; (repeat (first | rw [if_pos (by omega)] | rw [if_neg (by omega)])); all_goals (first | rfl | (subst_vars; rfl) | assumption | (symm; assumption))
            refine lv_aload_n hx hb dX9_ready_88 rfl (lv_at hl 2 rfl) ?_
            refine lv_iload_n hx hb dX9_ready_89 rfl (lv_at hl 1 rfl) ?_
            refine z_iconst hx hb dX9_ready_90 ?_
            refine z_iadd hx hb dX9_ready_91 ?_
            refine g_put (C := RX9) (T := TX9) (N := 9) (ci := 8) (ty := .int) hx hb hts (fun _ h => (List.mem_cons_of_mem _ (List.mem_append_right _ h))) tyX9 tyX9_ok nmX9 hown hC.1 hG hS 2 (by decide) rfl rfl 7 8 (by decide) (hts (.fieldLink RX9 34 "StraitSwim$Swim" "reach" "I") (List.mem_cons_of_mem _ (List.mem_append_left _ (List.mem_append_left _ (List.mem_append_left _ (List.mem_append_left _ (List.mem_append_left _ (List.mem_append_left _ (List.mem_of_getElem? (i := 2) rfl))))))))) (fun _ h9 => h9) rfl (by decide +kernel) rfl rfl (Nat.le_of_ble_eq_true rfl) rfl (gO_8 ad _ _) dX9_ready_92 (fun u25 H locs hu25 hG hS => ?_)
            refine lv_aload_n hx hb dX9_ready_95 rfl (lv_at hl 2 rfl) ?_
            refine lv_aload_n hx hb dX9_ready_96 rfl (lv_at hl 2 rfl) ?_
            refine g_get (C := RX9) (T := TX9) (N := 9) (ci := 8) hx hb hts (fun _ h => (List.mem_cons_of_mem _ (List.mem_append_right _ h))) hown hC.1 hG 2 (by decide) rfl rfl 6 (by decide) (hts (.fieldLink RX9 31 "StraitSwim$Swim" "colds" "[I") (List.mem_cons_of_mem _ (List.mem_append_left _ (List.mem_append_left _ (List.mem_append_left _ (List.mem_append_left _ (List.mem_append_left _ (List.mem_append_left _ (List.mem_of_getElem? (i := 5) rfl))))))))) (fun _ h9 => h9) rfl dX9_ready_97 ?_
            refine lv_aload_n hx hb dX9_ready_100 rfl (lv_at hl 2 rfl) ?_
            refine g_get (C := RX9) (T := TX9) (N := 9) (ci := 8) hx hb hts (fun _ h => (List.mem_cons_of_mem _ (List.mem_append_right _ h))) hown hC.1 hG 2 (by decide) rfl rfl 7 (by decide) (hts (.fieldLink RX9 34 "StraitSwim$Swim" "reach" "I") (List.mem_cons_of_mem _ (List.mem_append_left _ (List.mem_append_left _ (List.mem_append_left _ (List.mem_append_left _ (List.mem_append_left _ (List.mem_append_left _ (List.mem_of_getElem? (i := 2) rfl))))))))) (fun _ h9 => h9) rfl dX9_ready_101 ?_
            have e_26 : u25.1 8 = t + 1 := by subst hu25; subst hu24; subst hu10; rfl
            rw [e_26]
            refine g_iald (n := 101) hx hb hC.1 hG 16 (by decide) rfl (by omega) (by omega) (by decide) dX9_ready_104 ?_
            have e_27 : u25.2.1 16 = va_up (w.2.1 16) (t + 1).toNat mo := by subst hu25; subst hu24; subst hu10; rfl
            rw [e_27]
            rw [up_s]
            refine lv_aload_n hx hb dX9_ready_105 rfl (lv_at hl 3 rfl) ?_
            have ha_o28 : a ∈ u25.2.2.2.1 := by subst hu25; subst hu24; subst hu10; exact ha
            have hE_o28 : u25.2.2.2.2 a = .inr (3, [.int (zI nm), .int (zI sp), .int (zI li), .int (zI fd)]) := by subst hu25; subst hu24; subst hu10; exact hE
            obtain ⟨k9, hk9⟩ := va_pl_get (X := gFx cy ad jf u25) (f := u25.2.2.2.2) ha_o28
            refine va_get (C := RX4) (T := TX4) (N := 4) (ci := 3) hx hb hts (fun _ h => (List.mem_cons_of_mem _ (List.mem_append_left _ (List.mem_append_left _ (List.mem_append_right _ h))))) hown hC.1 hG.1 k9 (hk9.trans (by rw [hE_o28])) rfl 2 (by decide) (hts (.fieldLink RX9 61 "StraitSwim$Plain" "limit" "I") (List.mem_cons_of_mem _ (List.mem_append_left _ (List.mem_append_left _ (List.mem_append_left _ (List.mem_append_left _ (List.mem_append_left _ (List.mem_append_left _ (List.mem_of_getElem? (i := 10) rfl))))))))) (fun _ h9 => h9) rfl dX9_ready_106 ?_
            refine z_icmp_lt (tgt := 116) hx hb dX9_ready_109 (by decide) (by omega) (by omega) (by omega) (by omega) (fun c_29 => ?_) (fun c_29 => ?_)
            · refine z_iconst hx hb dX9_ready_116 ?_
              refine g_put (C := RX9) (T := TX9) (N := 9) (ci := 8) (ty := .boolean) hx hb hts (fun _ h => (List.mem_cons_of_mem _ (List.mem_append_right _ h))) tyX9 tyX9_ok nmX9 hown hC.1 hG hS 2 (by decide) rfl rfl 8 9 (by decide) (hts (.fieldLink RX9 37 "StraitSwim$Swim" "tooCold" "Z") (List.mem_cons_of_mem _ (List.mem_append_left _ (List.mem_append_left _ (List.mem_append_left _ (List.mem_append_left _ (List.mem_append_left _ (List.mem_append_left _ (List.mem_of_getElem? (i := 3) rfl))))))))) (fun _ h9 => h9) rfl (by decide +kernel) (nar_b (by omega)) rfl (Nat.le_of_ble_eq_true rfl) rfl (gO_9 ad _ _) dX9_ready_117 (fun u30 H locs hu30 hG hS => ?_)
              refine z_iinc (lv' := [(3, .int (zI (t + 1))), (4, .int (zI mo)), (0, .ref (ad 2)), (1, .ref a), (2, .int (zI p2))]) hx hb dX9_ready_120 hl (k := 1) rfl (by decide) rfl (fun ls hl => ?_)
              refine lv_goto (tgt := 20) hx hb dX9_ready_123 (by decide) ?_
              exact ih20 (t + 1) u30 _ _ _ (by omega) (by omega) (by have e9 : u30.2.1 16 (t + 1).toNat = mo := (by subst hu30; subst hu25; subst hu24; subst hu10; exact up_s _ _ _); rw [e9]; omega) (by subst hu30; subst hu25; subst hu24; subst hu10; first | exact Or.inl rfl | exact Or.inr rfl) (by subst hu30; subst hu25; subst hu24; subst hu10; exact ha) (by subst hu30; subst hu25; subst hu24; subst hu10; exact hE) (by rw [hT, cRdL, if_pos (by omega), if_pos (by omega), hCC]; (repeat (first | rw [if_pos (by omega)] | rw [if_neg (by omega)])); unfold cRd1; subst hu30; subst hu25; subst hu24; subst hu10; subst_vars; rfl) hG hS (lv_sub hl [0, 2, 3, 4] rfl)
            · refine z_iconst hx hb dX9_ready_112 ?_
              refine lv_goto (tgt := 117) hx hb dX9_ready_113 (by decide) ?_
              refine g_put (C := RX9) (T := TX9) (N := 9) (ci := 8) (ty := .boolean) hx hb hts (fun _ h => (List.mem_cons_of_mem _ (List.mem_append_right _ h))) tyX9 tyX9_ok nmX9 hown hC.1 hG hS 2 (by decide) rfl rfl 8 9 (by decide) (hts (.fieldLink RX9 37 "StraitSwim$Swim" "tooCold" "Z") (List.mem_cons_of_mem _ (List.mem_append_left _ (List.mem_append_left _ (List.mem_append_left _ (List.mem_append_left _ (List.mem_append_left _ (List.mem_append_left _ (List.mem_of_getElem? (i := 3) rfl))))))))) (fun _ h9 => h9) rfl (by decide +kernel) (nar_b (by omega)) rfl (Nat.le_of_ble_eq_true rfl) rfl (gO_9 ad _ _) dX9_ready_117 (fun u31 H locs hu31 hG hS => ?_)
              refine z_iinc (lv' := [(3, .int (zI (t + 1))), (4, .int (zI mo)), (0, .ref (ad 2)), (1, .ref a), (2, .int (zI p2))]) hx hb dX9_ready_120 hl (k := 1) rfl (by decide) rfl (fun ls hl => ?_)
              refine lv_goto (tgt := 20) hx hb dX9_ready_123 (by decide) ?_
              exact ih20 (t + 1) u31 _ _ _ (by omega) (by omega) (by have e9 : u31.2.1 16 (t + 1).toNat = mo := (by subst hu31; subst hu25; subst hu24; subst hu10; exact up_s _ _ _); rw [e9]; omega) (by subst hu31; subst hu25; subst hu24; subst hu10; first | exact Or.inl rfl | exact Or.inr rfl) (by subst hu31; subst hu25; subst hu24; subst hu10; exact ha) (by subst hu31; subst hu25; subst hu24; subst hu10; exact hE) (by rw [hT, cRdL, if_pos (by omega), if_pos (by omega), hCC]; (repeat (first | rw [if_pos (by omega)] | rw [if_neg (by omega)])); unfold cRd1; subst hu31; subst hu25; subst hu24; subst hu10; subst_vars; rfl) hG hS (lv_sub hl [0, 2, 3, 4] rfl)
          · refine z_iconst hx hb dX9_ready_74 ?_
            refine lv_iload hx hb dX9_ready_75 (lv_at hl 0 rfl) ?_
            refine z_iconst hx hb dX9_ready_77 ?_
            refine z_isub hx hb dX9_ready_78 ?_
            refine va_mmax hx hb (hml.trans hl.1.symm) hown (hts (.methodLink RX9 56 Lib.Math.max.name) (List.mem_cons_of_mem _ (List.mem_append_left _ (List.mem_append_left _ (List.mem_append_left _ (List.mem_append_left _ (List.mem_append_left _ (List.mem_append_left _ (List.mem_of_getElem? (i := 6) rfl))))))))) (hts (.static Lib.Math.max.name) (List.mem_cons_of_mem _ (List.mem_append_left _ (List.mem_append_left _ (List.mem_append_left _ (List.mem_append_left _ (List.mem_append_left _ (List.mem_append_left _ (List.mem_of_getElem? (i := 7) rfl))))))))) (hts (.initialized "java/lang/Math") (List.mem_cons_of_mem _ (List.mem_append_left _ (List.mem_append_left _ (List.mem_append_left _ (List.mem_append_left _ (List.mem_append_left _ (List.mem_append_left _ (List.mem_of_getElem? (i := 8) rfl))))))))) (hts (.code Lib.Math.max.name Lib.Math.max.code 2 (some .int)) (List.mem_cons_of_mem _ (List.mem_append_left _ (List.mem_append_left _ (List.mem_append_left _ (List.mem_append_left _ (List.mem_append_left _ (List.mem_append_left _ (List.mem_of_getElem? (i := 9) rfl))))))))) (Nat.le_of_ble_eq_true rfl) (Nat.le_of_ble_eq_true rfl) (Nat.le_of_ble_eq_true rfl) (Nat.le_of_ble_eq_true rfl) dX9_ready_79 ?_
            rw [z_max (a := 0) (b := mo - 3) (by omega) (by omega) (by omega) (by omega)]
            obtain ⟨x32, hx32⟩ : ∃ z : Int, z = (if 0 < (mo - 3) then (mo - 3) else 0) := ⟨_, rfl⟩
            rw [← hx32]
            refine lv_goto (tgt := 87) hx hb dX9_ready_82 (by decide) ?_
            refine g_iast (n := 101) hx hb hC.1 hG hS 16 (by decide) rfl rfl (by omega) (by omega) (by decide) dX9_ready_87 (fun u33 H locs hu33 hG hS => ?_)
            have hCC : cRdC w 16 2 fd p2 t = x32 := by unfold cRdC; rw [← hmo2]; (repeat (first | rw [if_pos (by omega)] | rw [if_neg (by omega)])); all_goals (first | rfl | (subst_vars; rfl) | assumption | (symm; assumption))
            refine lv_aload_n hx hb dX9_ready_88 rfl (lv_at hl 2 rfl) ?_
            refine lv_iload_n hx hb dX9_ready_89 rfl (lv_at hl 1 rfl) ?_
            refine z_iconst hx hb dX9_ready_90 ?_
            refine z_iadd hx hb dX9_ready_91 ?_
            refine g_put (C := RX9) (T := TX9) (N := 9) (ci := 8) (ty := .int) hx hb hts (fun _ h => (List.mem_cons_of_mem _ (List.mem_append_right _ h))) tyX9 tyX9_ok nmX9 hown hC.1 hG hS 2 (by decide) rfl rfl 7 8 (by decide) (hts (.fieldLink RX9 34 "StraitSwim$Swim" "reach" "I") (List.mem_cons_of_mem _ (List.mem_append_left _ (List.mem_append_left _ (List.mem_append_left _ (List.mem_append_left _ (List.mem_append_left _ (List.mem_append_left _ (List.mem_of_getElem? (i := 2) rfl))))))))) (fun _ h9 => h9) rfl (by decide +kernel) rfl rfl (Nat.le_of_ble_eq_true rfl) rfl (gO_8 ad _ _) dX9_ready_92 (fun u34 H locs hu34 hG hS => ?_)
            refine lv_aload_n hx hb dX9_ready_95 rfl (lv_at hl 2 rfl) ?_
            refine lv_aload_n hx hb dX9_ready_96 rfl (lv_at hl 2 rfl) ?_
            refine g_get (C := RX9) (T := TX9) (N := 9) (ci := 8) hx hb hts (fun _ h => (List.mem_cons_of_mem _ (List.mem_append_right _ h))) hown hC.1 hG 2 (by decide) rfl rfl 6 (by decide) (hts (.fieldLink RX9 31 "StraitSwim$Swim" "colds" "[I") (List.mem_cons_of_mem _ (List.mem_append_left _ (List.mem_append_left _ (List.mem_append_left _ (List.mem_append_left _ (List.mem_append_left _ (List.mem_append_left _ (List.mem_of_getElem? (i := 5) rfl))))))))) (fun _ h9 => h9) rfl dX9_ready_97 ?_
            refine lv_aload_n hx hb dX9_ready_100 rfl (lv_at hl 2 rfl) ?_
            refine g_get (C := RX9) (T := TX9) (N := 9) (ci := 8) hx hb hts (fun _ h => (List.mem_cons_of_mem _ (List.mem_append_right _ h))) hown hC.1 hG 2 (by decide) rfl rfl 7 (by decide) (hts (.fieldLink RX9 34 "StraitSwim$Swim" "reach" "I") (List.mem_cons_of_mem _ (List.mem_append_left _ (List.mem_append_left _ (List.mem_append_left _ (List.mem_append_left _ (List.mem_append_left _ (List.mem_append_left _ (List.mem_of_getElem? (i := 2) rfl))))))))) (fun _ h9 => h9) rfl dX9_ready_101 ?_
            have e_35 : u34.1 8 = t + 1 := by subst hu34; subst hu33; subst hu10; rfl
            rw [e_35]
            refine g_iald (n := 101) hx hb hC.1 hG 16 (by decide) rfl (by omega) (by omega) (by decide) dX9_ready_104 ?_
            have e_36 : u34.2.1 16 = va_up (w.2.1 16) (t + 1).toNat x32 := by subst hu34; subst hu33; subst hu10; rfl
            rw [e_36]
            rw [up_s]
            refine lv_aload_n hx hb dX9_ready_105 rfl (lv_at hl 3 rfl) ?_
            have ha_o37 : a ∈ u34.2.2.2.1 := by subst hu34; subst hu33; subst hu10; exact ha
            have hE_o37 : u34.2.2.2.2 a = .inr (3, [.int (zI nm), .int (zI sp), .int (zI li), .int (zI fd)]) := by subst hu34; subst hu33; subst hu10; exact hE
            obtain ⟨k9, hk9⟩ := va_pl_get (X := gFx cy ad jf u34) (f := u34.2.2.2.2) ha_o37
            refine va_get (C := RX4) (T := TX4) (N := 4) (ci := 3) hx hb hts (fun _ h => (List.mem_cons_of_mem _ (List.mem_append_left _ (List.mem_append_left _ (List.mem_append_right _ h))))) hown hC.1 hG.1 k9 (hk9.trans (by rw [hE_o37])) rfl 2 (by decide) (hts (.fieldLink RX9 61 "StraitSwim$Plain" "limit" "I") (List.mem_cons_of_mem _ (List.mem_append_left _ (List.mem_append_left _ (List.mem_append_left _ (List.mem_append_left _ (List.mem_append_left _ (List.mem_append_left _ (List.mem_of_getElem? (i := 10) rfl))))))))) (fun _ h9 => h9) rfl dX9_ready_106 ?_
            refine z_icmp_lt (tgt := 116) hx hb dX9_ready_109 (by decide) (by omega) (by omega) (by omega) (by omega) (fun c_38 => ?_) (fun c_38 => ?_)
            · refine z_iconst hx hb dX9_ready_116 ?_
              refine g_put (C := RX9) (T := TX9) (N := 9) (ci := 8) (ty := .boolean) hx hb hts (fun _ h => (List.mem_cons_of_mem _ (List.mem_append_right _ h))) tyX9 tyX9_ok nmX9 hown hC.1 hG hS 2 (by decide) rfl rfl 8 9 (by decide) (hts (.fieldLink RX9 37 "StraitSwim$Swim" "tooCold" "Z") (List.mem_cons_of_mem _ (List.mem_append_left _ (List.mem_append_left _ (List.mem_append_left _ (List.mem_append_left _ (List.mem_append_left _ (List.mem_append_left _ (List.mem_of_getElem? (i := 3) rfl))))))))) (fun _ h9 => h9) rfl (by decide +kernel) (nar_b (by omega)) rfl (Nat.le_of_ble_eq_true rfl) rfl (gO_9 ad _ _) dX9_ready_117 (fun u39 H locs hu39 hG hS => ?_)
              refine z_iinc (lv' := [(3, .int (zI (t + 1))), (4, .int (zI mo)), (0, .ref (ad 2)), (1, .ref a), (2, .int (zI p2))]) hx hb dX9_ready_120 hl (k := 1) rfl (by decide) rfl (fun ls hl => ?_)
              refine lv_goto (tgt := 20) hx hb dX9_ready_123 (by decide) ?_
              exact ih20 (t + 1) u39 _ _ _ (by omega) (by omega) (by have e9 : u39.2.1 16 (t + 1).toNat = x32 := (by subst hu39; subst hu34; subst hu33; subst hu10; exact up_s _ _ _); rw [e9]; omega) (by subst hu39; subst hu34; subst hu33; subst hu10; first | exact Or.inl rfl | exact Or.inr rfl) (by subst hu39; subst hu34; subst hu33; subst hu10; exact ha) (by subst hu39; subst hu34; subst hu33; subst hu10; exact hE) (by rw [hT, cRdL, if_pos (by omega), if_pos (by omega), hCC]; (repeat (first | rw [if_pos (by omega)] | rw [if_neg (by omega)])); unfold cRd1; subst hu39; subst hu34; subst hu33; subst hu10; subst_vars; rfl) hG hS (lv_sub hl [0, 2, 3, 4] rfl)
            · refine z_iconst hx hb dX9_ready_112 ?_
              refine lv_goto (tgt := 117) hx hb dX9_ready_113 (by decide) ?_
              refine g_put (C := RX9) (T := TX9) (N := 9) (ci := 8) (ty := .boolean) hx hb hts (fun _ h => (List.mem_cons_of_mem _ (List.mem_append_right _ h))) tyX9 tyX9_ok nmX9 hown hC.1 hG hS 2 (by decide) rfl rfl 8 9 (by decide) (hts (.fieldLink RX9 37 "StraitSwim$Swim" "tooCold" "Z") (List.mem_cons_of_mem _ (List.mem_append_left _ (List.mem_append_left _ (List.mem_append_left _ (List.mem_append_left _ (List.mem_append_left _ (List.mem_append_left _ (List.mem_of_getElem? (i := 3) rfl))))))))) (fun _ h9 => h9) rfl (by decide +kernel) (nar_b (by omega)) rfl (Nat.le_of_ble_eq_true rfl) rfl (gO_9 ad _ _) dX9_ready_117 (fun u40 H locs hu40 hG hS => ?_)
              refine z_iinc (lv' := [(3, .int (zI (t + 1))), (4, .int (zI mo)), (0, .ref (ad 2)), (1, .ref a), (2, .int (zI p2))]) hx hb dX9_ready_120 hl (k := 1) rfl (by decide) rfl (fun ls hl => ?_)
              refine lv_goto (tgt := 20) hx hb dX9_ready_123 (by decide) ?_
              exact ih20 (t + 1) u40 _ _ _ (by omega) (by omega) (by have e9 : u40.2.1 16 (t + 1).toNat = x32 := (by subst hu40; subst hu34; subst hu33; subst hu10; exact up_s _ _ _); rw [e9]; omega) (by subst hu40; subst hu34; subst hu33; subst hu10; first | exact Or.inl rfl | exact Or.inr rfl) (by subst hu40; subst hu34; subst hu33; subst hu10; exact ha) (by subst hu40; subst hu34; subst hu33; subst hu10; exact hE) (by rw [hT, cRdL, if_pos (by omega), if_pos (by omega), hCC]; (repeat (first | rw [if_pos (by omega)] | rw [if_neg (by omega)])); unfold cRd1; subst hu40; subst hu34; subst hu33; subst hu10; subst_vars; rfl) hG hS (lv_sub hl [0, 2, 3, 4] rfl)
  exact loop20 101 0 u3 _ _ _ (by omega) (by omega) (by have e9 : u3.2.1 16 (Int.toNat 0) = 0 := (by subst hu3; subst hu2; subst hu1; exact hc0); rw [e9]; omega) (by subst hu3; subst hu2; subst hu1; exact Or.inl rfl) (by subst hu3; subst hu2; subst hu1; exact ha) (by subst hu3; subst hu2; subst hu1; exact hE) (by subst hu3; subst hu2; subst hu1; rfl) hG hS (lv_sub hl [0, 1, 2, 3] rfl)
set_option maxHeartbeats 4000000 in
set_option maxRecDepth 100000 in
theorem kX9_ready_2_X6 (l : Launch) (D : va_G) (cy : Nat → ClassId) (ad : Nat → Nat) (jf : Nat → Int64) (A : Nat → Prop) (u : gS) (a : Nat) (nm sp li fd : Int) (p2 : Int) (ha : a ∈ u.2.2.2.1) (hE : u.2.2.2.2 a = .inr (5, [.int (zI nm), .int (zI sp), .int (zI li), .int (zI fd)])) (j_c : 0 ≤ p2 ∧ p2 ≤ 20) (j_s : 0 ≤ sp ∧ sp ≤ 20) (j_l : 0 ≤ li ∧ li ≤ 400) (j_f : 0 ≤ fd ∧ fd ≤ 40) (hc0 : u.2.1 16 0 = 0) : Met l yX9_ready wsX9_ready ({ frames := 4, cells := 0, slots := 0, locals := 96 }) (va_Pc [.ref (ad 2), .ref a, .int (zI p2)] (gB D cy ad jf A u)) (va_Qv (fun (v : gS) => v = cReady u 15 16 5 8 9 3 nm sp li fd p2) (gB D cy ad jf A) A) 0 0 A := by
  refine Met.ofW (cc := cX9_ready) (maxL := 5) (ret := none) (by decide) rfl ?_
  intro p e s m args below meth c s₁ B hml hv
  obtain ⟨rfl, hG, hC⟩ := hv
  have hx := B.exec
  have hb := B.bytes
  have hr := B.returns
  have hts := atoms_spec (ws := wsX9_ready) B.pre
  have hown : s.vm.findClass RX9 = some m.cls := findClass_of_methodNamed B.named
  have hlocks := B.notSynchronized
  have hS : va_S A s.heap s.heap [] := va_S.rf
  have hl := lv_entry ([.ref (ad 2), .ref a, .int (zI p2)]) (n := 5) (Nat.le_of_ble_eq_true rfl)
  rw [lg_entry_eq]
  generalize (lg_sl ([.ref (ad 2), .ref a, .int (zI p2)]) ++ List.replicate (5 - (lg_sl ([.ref (ad 2), .ref a, .int (zI p2)])).length) Slot.unset).toArray = ls at hl ⊢
  have hl : lv_has ls 5 [(0, .ref (ad 2)), (1, .ref a), (2, .int (zI p2))] := hl
  refine lv_aload_n hx hb dX9_ready_0 rfl (lv_at hl 0 rfl) ?_
  refine lv_aload_n hx hb dX9_ready_1 rfl (lv_at hl 1 rfl) ?_
  obtain ⟨k9, hk9⟩ := va_pl_get (X := gFx cy ad jf u) (f := u.2.2.2.2) ha
  refine va_get (C := RX6) (T := TX6) (N := 4) (ci := 5) hx hb hts (fun _ h => (List.mem_cons_of_mem _ (List.mem_append_left _ (List.mem_append_right _ h)))) hown hC.1 hG.1 k9 (hk9.trans (by rw [hE])) rfl 0 (by decide) (hts (.fieldLink RX9 41 "StraitSwim$Plain" "number" "I") (List.mem_cons_of_mem _ (List.mem_append_left _ (List.mem_append_left _ (List.mem_append_left _ (List.mem_append_left _ (List.mem_append_left _ (List.mem_append_left _ (List.mem_of_getElem? (i := 0) rfl))))))))) (fun _ h9 => h9) rfl dX9_ready_2 ?_
  refine g_put (C := RX9) (T := TX9) (N := 9) (ci := 8) (ty := .int) hx hb hts (fun _ h => (List.mem_cons_of_mem _ (List.mem_append_right _ h))) tyX9 tyX9_ok nmX9 hown hC.1 hG hS 2 (by decide) rfl rfl 0 5 (by decide) (hts (.fieldLink RX9 9 "StraitSwim$Swim" "number" "I") (List.mem_cons_of_mem _ (List.mem_append_left _ (List.mem_append_left _ (List.mem_append_left _ (List.mem_append_left _ (List.mem_append_left _ (List.mem_append_left _ (List.mem_of_getElem? (i := 1) rfl))))))))) (fun _ h9 => h9) rfl (by decide +kernel) rfl rfl (Nat.le_of_ble_eq_true rfl) rfl (gO_5 ad _ _) dX9_ready_5 (fun u1 H locs hu1 hG hS => ?_)
  refine lv_aload_n hx hb dX9_ready_8 rfl (lv_at hl 0 rfl) ?_
  refine z_iconst hx hb dX9_ready_9 ?_
  refine g_put (C := RX9) (T := TX9) (N := 9) (ci := 8) (ty := .int) hx hb hts (fun _ h => (List.mem_cons_of_mem _ (List.mem_append_right _ h))) tyX9 tyX9_ok nmX9 hown hC.1 hG hS 2 (by decide) rfl rfl 7 8 (by decide) (hts (.fieldLink RX9 34 "StraitSwim$Swim" "reach" "I") (List.mem_cons_of_mem _ (List.mem_append_left _ (List.mem_append_left _ (List.mem_append_left _ (List.mem_append_left _ (List.mem_append_left _ (List.mem_append_left _ (List.mem_of_getElem? (i := 2) rfl))))))))) (fun _ h9 => h9) rfl (by decide +kernel) rfl rfl (Nat.le_of_ble_eq_true rfl) rfl (gO_8 ad _ _) dX9_ready_10 (fun u2 H locs hu2 hG hS => ?_)
  refine lv_aload_n hx hb dX9_ready_13 rfl (lv_at hl 0 rfl) ?_
  refine z_iconst hx hb dX9_ready_14 ?_
  refine g_put (C := RX9) (T := TX9) (N := 9) (ci := 8) (ty := .boolean) hx hb hts (fun _ h => (List.mem_cons_of_mem _ (List.mem_append_right _ h))) tyX9 tyX9_ok nmX9 hown hC.1 hG hS 2 (by decide) rfl rfl 8 9 (by decide) (hts (.fieldLink RX9 37 "StraitSwim$Swim" "tooCold" "Z") (List.mem_cons_of_mem _ (List.mem_append_left _ (List.mem_append_left _ (List.mem_append_left _ (List.mem_append_left _ (List.mem_append_left _ (List.mem_append_left _ (List.mem_of_getElem? (i := 3) rfl))))))))) (fun _ h9 => h9) rfl (by decide +kernel) (nar_b (by omega)) rfl (Nat.le_of_ble_eq_true rfl) rfl (gO_9 ad _ _) dX9_ready_15 (fun u3 H locs hu3 hG hS => ?_)
  refine z_iconst hx hb dX9_ready_18 ?_
  refine lv_istore_n (lv' := [(3, .int (zI 0)), (0, .ref (ad 2)), (1, .ref a), (2, .int (zI p2))]) hx hb dX9_ready_19 rfl hl (by decide) rfl (fun ls hl => ?_)
  have loop20 : ∀ (n : Nat) (t : Int) (w : gS) (H : Heap) (locs : List Loc) (ls : Array Slot), (100 - t).toNat < n → (0 ≤ t ∧ t ≤ 100) → (0 ≤ w.2.1 16 t.toNat ∧ w.2.1 16 t.toNat ≤ 200 * t) → (w.1 9 = 0 ∨ w.1 9 = 1) → (a ∈ w.2.2.2.1) → (w.2.2.2.2 a = .inr (5, [.int (zI nm), .int (zI sp), .int (zI li), .int (zI fd)])) → (cRdL 15 16 8 9 3 sp li fd p2 101 0 (sI (sI (sI u 5 nm) 8 0) 9 0) = cRdL 15 16 8 9 3 sp li fd p2 n t w) → gH D cy ad jf A w H → va_S A s.heap H locs → lv_has ls 5 [(3, .int (zI t)), (0, .ref (ad 2)), (1, .ref a), (2, .int (zI p2))] → W p l e (headSpec wsX9_ready ({ frames := 4, cells := 0, slots := 0, locals := 96 })).room s m ([.ref (ad 2), .ref a, .int (zI p2)]).toArray below meth c H locs 0 0 (MQ below (va_Qv (fun (v : gS) => v = cReady u 15 16 5 8 9 3 nm sp li fd p2) (gB D cy ad jf A) A) ([.ref (ad 2), .ref a, .int (zI p2)]).toArray s 0 0 A) (F0 m 20 ls []) := by
    intro n
    induction n with
    | zero => intro t w H locs ls hm; exact absurd hm (Nat.not_lt_zero _)
    | succ n ih20 =>
      intro t w H locs ls hm ht9 hcl htc ha hE hT hG hS hl
      refine lv_iload_n hx hb dX9_ready_20 rfl (lv_at hl 0 rfl) ?_
      refine z_bipush hx hb dX9_ready_21 (by decide) ?_
      refine z_icmp_ge (tgt := 126) hx hb dX9_ready_23 (by decide) (by omega) (by omega) (by omega) (by omega) (fun c_4 => ?_) (fun c_4 => ?_)
      · exact W.vret hx hb hr (fun t9 ht9_ hW => ⟨⟨w, rfl, (by unfold cReady; rw [hT, cRdL]; (repeat (first | rw [if_pos (by omega)] | rw [if_neg (by omega)]))), gB.mk' hG hC hS ht9_ hW⟩, hS.F ht9_⟩) hS.2.2 dX9_ready_126
      · refine lv_aload_n hx hb dX9_ready_26 rfl (lv_at hl 1 rfl) ?_
        refine g_get (C := RX9) (T := TX9) (N := 9) (ci := 8) hx hb hts (fun _ h => (List.mem_cons_of_mem _ (List.mem_append_right _ h))) hown hC.1 hG 2 (by decide) rfl rfl 8 (by decide) (hts (.fieldLink RX9 37 "StraitSwim$Swim" "tooCold" "Z") (List.mem_cons_of_mem _ (List.mem_append_left _ (List.mem_append_left _ (List.mem_append_left _ (List.mem_append_left _ (List.mem_append_left _ (List.mem_append_left _ (List.mem_of_getElem? (i := 3) rfl))))))))) (fun _ h9 => h9) rfl dX9_ready_27 ?_
        refine z_if_ne (tgt := 126) hx hb dX9_ready_30 (by decide) (by omega) (by omega) (fun c_5 => ?_) (fun c_5 => ?_)
        · exact W.vret hx hb hr (fun t9 ht9_ hW => ⟨⟨w, rfl, (by unfold cReady; rw [hT, cRdL]; (repeat (first | rw [if_pos (by omega)] | rw [if_neg (by omega)]))), gB.mk' hG hC hS ht9_ hW⟩, hS.F ht9_⟩) hS.2.2 dX9_ready_126
        · refine lv_aload_n hx hb dX9_ready_33 rfl (lv_at hl 1 rfl) ?_
          refine g_get (C := RX9) (T := TX9) (N := 9) (ci := 8) hx hb hts (fun _ h => (List.mem_cons_of_mem _ (List.mem_append_right _ h))) hown hC.1 hG 2 (by decide) rfl rfl 5 (by decide) (hts (.fieldLink RX9 28 "StraitSwim$Swim" "strides" "[I") (List.mem_cons_of_mem _ (List.mem_append_left _ (List.mem_append_left _ (List.mem_append_left _ (List.mem_append_left _ (List.mem_append_left _ (List.mem_append_left _ (List.mem_of_getElem? (i := 4) rfl))))))))) (fun _ h9 => h9) rfl dX9_ready_34 ?_
          refine lv_iload_n hx hb dX9_ready_37 rfl (lv_at hl 0 rfl) ?_
          refine lv_aload_n hx hb dX9_ready_38 rfl (lv_at hl 2 rfl) ?_
          refine lv_iload_n hx hb dX9_ready_39 rfl (lv_at hl 0 rfl) ?_
          obtain ⟨k9, hk9⟩ := va_pl_get (X := gFx cy ad jf w) (f := w.2.2.2.2) ha
          refine g_calli (va_runU (As := [.int (zI t)]) (rest := [.int (zI t), .ref (ad 15)]) ⟨hx, hb, hml, hown, hts⟩ (kX3_strideIn_X6 l D cy ad jf A w a nm sp li fd t ha hE (by omega) (by omega) (by omega)) (va_cwU 1 hts gX9_ready_X3_strideIn_u44X6 rfl rfl rfl rfl (by decide +kernel) ⟨by decide, by decide⟩) (g_preD (C := RX6) hG hC hS (hk9.trans (by rw [hE])) rfl) rfl rfl hl.1 rfl (lv_room (Nat.le_of_ble_eq_true rfl)) dX9_ready_40 ⟨Nat.le_of_ble_eq_true rfl, Nat.le_of_ble_eq_true rfl⟩) hS (fun r6 u7 H locs p_8 hG hS => ?_)
          obtain ⟨rfl, he_⟩ := p_8
          rw [he_] at hG; clear he_
          obtain ⟨z9, hz9⟩ : ∃ z : Int, z = spPace 3 sp fd t := ⟨_, rfl⟩
          rw [← hz9]
          have qz9 : 0 ≤ z9 ∧ z9 ≤ 24 := by rw [hz9]; (first | omega | (unfold spAt1; split <;> omega) | (unfold spAt1; split <;> split <;> omega) | (split <;> first | omega | (unfold spAt1; split <;> omega)) | (unfold spPace spPc spAt1; split <;> (first | omega | (split <;> first | omega | (split <;> omega)))))
          refine g_iast (n := 100) hx hb hC.1 hG hS 15 (by decide) rfl rfl (by omega) (by omega) (by decide) dX9_ready_43 (fun u10 H locs hu10 hG hS => ?_)
          refine lv_aload_n hx hb dX9_ready_44 rfl (lv_at hl 1 rfl) ?_
          refine g_get (C := RX9) (T := TX9) (N := 9) (ci := 8) hx hb hts (fun _ h => (List.mem_cons_of_mem _ (List.mem_append_right _ h))) hown hC.1 hG 2 (by decide) rfl rfl 6 (by decide) (hts (.fieldLink RX9 31 "StraitSwim$Swim" "colds" "[I") (List.mem_cons_of_mem _ (List.mem_append_left _ (List.mem_append_left _ (List.mem_append_left _ (List.mem_append_left _ (List.mem_append_left _ (List.mem_append_left _ (List.mem_of_getElem? (i := 5) rfl))))))))) (fun _ h9 => h9) rfl dX9_ready_45 ?_
          refine lv_iload_n hx hb dX9_ready_48 rfl (lv_at hl 0 rfl) ?_
          refine g_iald (n := 101) hx hb hC.1 hG 16 (by decide) rfl (by omega) (by omega) (by decide) dX9_ready_49 ?_
          have e_11 : u10.2.1 16 = w.2.1 16 := by subst hu10; rfl
          rw [e_11]
          refine lv_aload_n hx hb dX9_ready_50 rfl (lv_at hl 2 rfl) ?_
          refine lv_iload_n hx hb dX9_ready_51 rfl (lv_at hl 0 rfl) ?_
          refine lv_iload_n hx hb dX9_ready_52 rfl (lv_at hl 3 rfl) ?_
          have ha_o12 : a ∈ u10.2.2.2.1 := by subst hu10; exact ha
          have hE_o12 : u10.2.2.2.2 a = .inr (5, [.int (zI nm), .int (zI sp), .int (zI li), .int (zI fd)]) := by subst hu10; exact hE
          obtain ⟨k9, hk9⟩ := va_pl_get (X := gFx cy ad jf u10) (f := u10.2.2.2.2) ha_o12
          refine g_calli (va_runU (As := [.int (zI t), .int (zI p2)]) (rest := [.int (zI (w.2.1 16 t.toNat))]) ⟨hx, hb, hml, hown, hts⟩ (kX6_coldIn_X6 l D cy ad jf A u10 a nm sp li fd t p2 ha_o12 hE_o12 (by omega) (by omega)) (va_cwO 2 hts gX9_ready_X6_coldIn_u48X6 rfl rfl rfl (List.mem_cons_of_mem _ (List.mem_append_left _ (List.mem_append_left _ (List.mem_append_left _ (List.mem_append_left _ (List.mem_append_left _ (List.mem_append_right _ (List.mem_append_right _ (List.mem_append_left _ (List.mem_of_getElem? (i := 12) rfl)))))))))) (by decide +kernel) ⟨by decide, by decide⟩) (g_preD (C := RX6) hG hC hS (hk9.trans (by rw [hE_o12])) rfl) rfl rfl hl.1 rfl (lv_room (Nat.le_of_ble_eq_true rfl)) dX9_ready_53 ⟨Nat.le_of_ble_eq_true rfl, Nat.le_of_ble_eq_true rfl⟩) hS (fun r13 u14 H locs p_15 hG hS => ?_)
          obtain ⟨rfl, he_⟩ := p_15
          rw [he_] at hG; clear he_
          obtain ⟨z16, hz16⟩ : ∃ z : Int, z = spAt1 (spAt1 (p2 + t / 8 - 2) / 2) := ⟨_, rfl⟩
          rw [← hz16]
          have qz16 : 1 ≤ z16 ∧ z16 ≤ 145 := by rw [hz16]; (first | omega | (unfold spAt1; split <;> omega) | (unfold spAt1; split <;> split <;> omega) | (split <;> first | omega | (unfold spAt1; split <;> omega)) | (unfold spPace spPc spAt1; split <;> (first | omega | (split <;> first | omega | (split <;> omega)))))
          refine z_iadd hx hb dX9_ready_56 ?_
          obtain ⟨mo, hmo⟩ : ∃ z : Int, z = (w.2.1 16 t.toNat) + z16 := ⟨_, rfl⟩
          rw [← hmo]
          refine lv_istore (lv' := [(4, .int (zI mo)), (3, .int (zI t)), (0, .ref (ad 2)), (1, .ref a), (2, .int (zI p2))]) hx hb dX9_ready_57 hl (by decide) rfl (fun ls hl => ?_)
          have e9 : z16 = spCold 3 p2 t := by unfold spCold; (repeat (first | rw [if_pos (by omega)] | rw [if_neg (by omega)])); all_goals (subst_vars; rfl)
          have hmo2 : mo = w.2.1 16 t.toNat + spCold 3 p2 t := by rw [hmo, e9]
          refine lv_aload_n hx hb dX9_ready_59 rfl (lv_at hl 2 rfl) ?_
          refine g_get (C := RX9) (T := TX9) (N := 9) (ci := 8) hx hb hts (fun _ h => (List.mem_cons_of_mem _ (List.mem_append_right _ h))) hown hC.1 hG 2 (by decide) rfl rfl 6 (by decide) (hts (.fieldLink RX9 31 "StraitSwim$Swim" "colds" "[I") (List.mem_cons_of_mem _ (List.mem_append_left _ (List.mem_append_left _ (List.mem_append_left _ (List.mem_append_left _ (List.mem_append_left _ (List.mem_append_left _ (List.mem_of_getElem? (i := 5) rfl))))))))) (fun _ h9 => h9) rfl dX9_ready_60 ?_
          refine lv_iload_n hx hb dX9_ready_63 rfl (lv_at hl 1 rfl) ?_
          refine z_iconst hx hb dX9_ready_64 ?_
          refine z_iadd hx hb dX9_ready_65 ?_
          refine lv_aload_n hx hb dX9_ready_66 rfl (lv_at hl 3 rfl) ?_
          refine lv_iload_n hx hb dX9_ready_67 rfl (lv_at hl 1 rfl) ?_
          have ha_o17 : a ∈ u10.2.2.2.1 := by subst hu10; exact ha
          have hE_o17 : u10.2.2.2.2 a = .inr (5, [.int (zI nm), .int (zI sp), .int (zI li), .int (zI fd)]) := by subst hu10; exact hE
          obtain ⟨k9, hk9⟩ := va_pl_get (X := gFx cy ad jf u10) (f := u10.2.2.2.2) ha_o17
          refine g_calli (va_runU (As := [.int (zI t)]) (rest := [.int (zI (t + 1)), .ref (ad 16)]) ⟨hx, hb, hml, hown, hts⟩ (kX3_feedsIn_X6 l D cy ad jf A u10 a nm sp li fd t ha_o17 hE_o17 (by omega) (by omega)) (va_cwU 1 hts gX9_ready_X3_feedsIn_u52X6 rfl rfl rfl rfl (by decide +kernel) ⟨by decide, by decide⟩) (g_preD (C := RX6) hG hC hS (hk9.trans (by rw [hE_o17])) rfl) rfl rfl hl.1 rfl (lv_room (Nat.le_of_ble_eq_true rfl)) dX9_ready_68 ⟨Nat.le_of_ble_eq_true rfl, Nat.le_of_ble_eq_true rfl⟩) hS (fun r18 u19 H locs p_20 hG hS => ?_)
          obtain ⟨⟨b21, rfl, q_22⟩, he_⟩ := p_20
          rw [he_] at hG; clear he_
          have hbb21 : 0 ≤ b21 ∧ b21 ≤ 1 := by rcases q_22 with ⟨h, _⟩ | ⟨h, _⟩ <;> omega
          refine z_if_eq (tgt := 85) hx hb dX9_ready_71 (by decide) (by omega) (by omega) (fun c_23 => ?_) (fun c_23 => ?_)
          · refine lv_iload hx hb dX9_ready_85 (lv_at hl 0 rfl) ?_
            refine g_iast (n := 101) hx hb hC.1 hG hS 16 (by decide) rfl rfl (by omega) (by omega) (by decide) dX9_ready_87 (fun u24 H locs hu24 hG hS => ?_)
            have hCC : cRdC w 16 3 fd p2 t = mo := by unfold cRdC; rw [← hmo2]; (repeat (first | rw [if_pos (by omega)] | rw [if_neg (by omega)])); all_goals (first | rfl | (subst_vars; rfl) | assumption | (symm; assumption))
            refine lv_aload_n hx hb dX9_ready_88 rfl (lv_at hl 2 rfl) ?_
            refine lv_iload_n hx hb dX9_ready_89 rfl (lv_at hl 1 rfl) ?_
            refine z_iconst hx hb dX9_ready_90 ?_
            refine z_iadd hx hb dX9_ready_91 ?_
            refine g_put (C := RX9) (T := TX9) (N := 9) (ci := 8) (ty := .int) hx hb hts (fun _ h => (List.mem_cons_of_mem _ (List.mem_append_right _ h))) tyX9 tyX9_ok nmX9 hown hC.1 hG hS 2 (by decide) rfl rfl 7 8 (by decide) (hts (.fieldLink RX9 34 "StraitSwim$Swim" "reach" "I") (List.mem_cons_of_mem _ (List.mem_append_left _ (List.mem_append_left _ (List.mem_append_left _ (List.mem_append_left _ (List.mem_append_left _ (List.mem_append_left _ (List.mem_of_getElem? (i := 2) rfl))))))))) (fun _ h9 => h9) rfl (by decide +kernel) rfl rfl (Nat.le_of_ble_eq_true rfl) rfl (gO_8 ad _ _) dX9_ready_92 (fun u25 H locs hu25 hG hS => ?_)
            refine lv_aload_n hx hb dX9_ready_95 rfl (lv_at hl 2 rfl) ?_
            refine lv_aload_n hx hb dX9_ready_96 rfl (lv_at hl 2 rfl) ?_
            refine g_get (C := RX9) (T := TX9) (N := 9) (ci := 8) hx hb hts (fun _ h => (List.mem_cons_of_mem _ (List.mem_append_right _ h))) hown hC.1 hG 2 (by decide) rfl rfl 6 (by decide) (hts (.fieldLink RX9 31 "StraitSwim$Swim" "colds" "[I") (List.mem_cons_of_mem _ (List.mem_append_left _ (List.mem_append_left _ (List.mem_append_left _ (List.mem_append_left _ (List.mem_append_left _ (List.mem_append_left _ (List.mem_of_getElem? (i := 5) rfl))))))))) (fun _ h9 => h9) rfl dX9_ready_97 ?_
            refine lv_aload_n hx hb dX9_ready_100 rfl (lv_at hl 2 rfl) ?_
            refine g_get (C := RX9) (T := TX9) (N := 9) (ci := 8) hx hb hts (fun _ h => (List.mem_cons_of_mem _ (List.mem_append_right _ h))) hown hC.1 hG 2 (by decide) rfl rfl 7 (by decide) (hts (.fieldLink RX9 34 "StraitSwim$Swim" "reach" "I") (List.mem_cons_of_mem _ (List.mem_append_left _ (List.mem_append_left _ (List.mem_append_left _ (List.mem_append_left _ (List.mem_append_left _ (List.mem_append_left _ (List.mem_of_getElem? (i := 2) rfl))))))))) (fun _ h9 => h9) rfl dX9_ready_101 ?_
            have e_26 : u25.1 8 = t + 1 := by subst hu25; subst hu24; subst hu10; rfl
            rw [e_26]
            refine g_iald (n := 101) hx hb hC.1 hG 16 (by decide) rfl (by omega) (by omega) (by decide) dX9_ready_104 ?_
            have e_27 : u25.2.1 16 = va_up (w.2.1 16) (t + 1).toNat mo := by subst hu25; subst hu24; subst hu10; rfl
            rw [e_27]
            rw [up_s]
            refine lv_aload_n hx hb dX9_ready_105 rfl (lv_at hl 3 rfl) ?_
            have ha_o28 : a ∈ u25.2.2.2.1 := by subst hu25; subst hu24; subst hu10; exact ha
            have hE_o28 : u25.2.2.2.2 a = .inr (5, [.int (zI nm), .int (zI sp), .int (zI li), .int (zI fd)]) := by subst hu25; subst hu24; subst hu10; exact hE
            obtain ⟨k9, hk9⟩ := va_pl_get (X := gFx cy ad jf u25) (f := u25.2.2.2.2) ha_o28
            refine va_get (C := RX6) (T := TX6) (N := 4) (ci := 5) hx hb hts (fun _ h => (List.mem_cons_of_mem _ (List.mem_append_left _ (List.mem_append_right _ h)))) hown hC.1 hG.1 k9 (hk9.trans (by rw [hE_o28])) rfl 2 (by decide) (hts (.fieldLink RX9 61 "StraitSwim$Plain" "limit" "I") (List.mem_cons_of_mem _ (List.mem_append_left _ (List.mem_append_left _ (List.mem_append_left _ (List.mem_append_left _ (List.mem_append_left _ (List.mem_append_left _ (List.mem_of_getElem? (i := 10) rfl))))))))) (fun _ h9 => h9) rfl dX9_ready_106 ?_
            refine z_icmp_lt (tgt := 116) hx hb dX9_ready_109 (by decide) (by omega) (by omega) (by omega) (by omega) (fun c_29 => ?_) (fun c_29 => ?_)
            · refine z_iconst hx hb dX9_ready_116 ?_
              refine g_put (C := RX9) (T := TX9) (N := 9) (ci := 8) (ty := .boolean) hx hb hts (fun _ h => (List.mem_cons_of_mem _ (List.mem_append_right _ h))) tyX9 tyX9_ok nmX9 hown hC.1 hG hS 2 (by decide) rfl rfl 8 9 (by decide) (hts (.fieldLink RX9 37 "StraitSwim$Swim" "tooCold" "Z") (List.mem_cons_of_mem _ (List.mem_append_left _ (List.mem_append_left _ (List.mem_append_left _ (List.mem_append_left _ (List.mem_append_left _ (List.mem_append_left _ (List.mem_of_getElem? (i := 3) rfl))))))))) (fun _ h9 => h9) rfl (by decide +kernel) (nar_b (by omega)) rfl (Nat.le_of_ble_eq_true rfl) rfl (gO_9 ad _ _) dX9_ready_117 (fun u30 H locs hu30 hG hS => ?_)
              refine z_iinc (lv' := [(3, .int (zI (t + 1))), (4, .int (zI mo)), (0, .ref (ad 2)), (1, .ref a), (2, .int (zI p2))]) hx hb dX9_ready_120 hl (k := 1) rfl (by decide) rfl (fun ls hl => ?_)
              refine lv_goto (tgt := 20) hx hb dX9_ready_123 (by decide) ?_
              exact ih20 (t + 1) u30 _ _ _ (by omega) (by omega) (by have e9 : u30.2.1 16 (t + 1).toNat = mo := (by subst hu30; subst hu25; subst hu24; subst hu10; exact up_s _ _ _); rw [e9]; omega) (by subst hu30; subst hu25; subst hu24; subst hu10; first | exact Or.inl rfl | exact Or.inr rfl) (by subst hu30; subst hu25; subst hu24; subst hu10; exact ha) (by subst hu30; subst hu25; subst hu24; subst hu10; exact hE) (by rw [hT, cRdL, if_pos (by omega), if_pos (by omega), hCC]; (repeat (first | rw [if_pos (by omega)] | rw [if_neg (by omega)])); unfold cRd1; subst hu30; subst hu25; subst hu24; subst hu10; subst_vars; rfl) hG hS (lv_sub hl [0, 2, 3, 4] rfl)
            · refine z_iconst hx hb dX9_ready_112 ?_
              refine lv_goto (tgt := 117) hx hb dX9_ready_113 (by decide) ?_
              refine g_put (C := RX9) (T := TX9) (N := 9) (ci := 8) (ty := .boolean) hx hb hts (fun _ h => (List.mem_cons_of_mem _ (List.mem_append_right _ h))) tyX9 tyX9_ok nmX9 hown hC.1 hG hS 2 (by decide) rfl rfl 8 9 (by decide) (hts (.fieldLink RX9 37 "StraitSwim$Swim" "tooCold" "Z") (List.mem_cons_of_mem _ (List.mem_append_left _ (List.mem_append_left _ (List.mem_append_left _ (List.mem_append_left _ (List.mem_append_left _ (List.mem_append_left _ (List.mem_of_getElem? (i := 3) rfl))))))))) (fun _ h9 => h9) rfl (by decide +kernel) (nar_b (by omega)) rfl (Nat.le_of_ble_eq_true rfl) rfl (gO_9 ad _ _) dX9_ready_117 (fun u31 H locs hu31 hG hS => ?_)
              refine z_iinc (lv' := [(3, .int (zI (t + 1))), (4, .int (zI mo)), (0, .ref (ad 2)), (1, .ref a), (2, .int (zI p2))]) hx hb dX9_ready_120 hl (k := 1) rfl (by decide) rfl (fun ls hl => ?_)
              refine lv_goto (tgt := 20) hx hb dX9_ready_123 (by decide) ?_
              exact ih20 (t + 1) u31 _ _ _ (by omega) (by omega) (by have e9 : u31.2.1 16 (t + 1).toNat = mo := (by subst hu31; subst hu25; subst hu24; subst hu10; exact up_s _ _ _); rw [e9]; omega) (by subst hu31; subst hu25; subst hu24; subst hu10; first | exact Or.inl rfl | exact Or.inr rfl) (by subst hu31; subst hu25; subst hu24; subst hu10; exact ha) (by subst hu31; subst hu25; subst hu24; subst hu10; exact hE) (by rw [hT, cRdL, if_pos (by omega), if_pos (by omega), hCC]; (repeat (first | rw [if_pos (by omega)] | rw [if_neg (by omega)])); unfold cRd1; subst hu31; subst hu25; subst hu24; subst hu10; subst_vars; rfl) hG hS (lv_sub hl [0, 2, 3, 4] rfl)
          · refine z_iconst hx hb dX9_ready_74 ?_
            refine lv_iload hx hb dX9_ready_75 (lv_at hl 0 rfl) ?_
            refine z_iconst hx hb dX9_ready_77 ?_
            refine z_isub hx hb dX9_ready_78 ?_
            refine va_mmax hx hb (hml.trans hl.1.symm) hown (hts (.methodLink RX9 56 Lib.Math.max.name) (List.mem_cons_of_mem _ (List.mem_append_left _ (List.mem_append_left _ (List.mem_append_left _ (List.mem_append_left _ (List.mem_append_left _ (List.mem_append_left _ (List.mem_of_getElem? (i := 6) rfl))))))))) (hts (.static Lib.Math.max.name) (List.mem_cons_of_mem _ (List.mem_append_left _ (List.mem_append_left _ (List.mem_append_left _ (List.mem_append_left _ (List.mem_append_left _ (List.mem_append_left _ (List.mem_of_getElem? (i := 7) rfl))))))))) (hts (.initialized "java/lang/Math") (List.mem_cons_of_mem _ (List.mem_append_left _ (List.mem_append_left _ (List.mem_append_left _ (List.mem_append_left _ (List.mem_append_left _ (List.mem_append_left _ (List.mem_of_getElem? (i := 8) rfl))))))))) (hts (.code Lib.Math.max.name Lib.Math.max.code 2 (some .int)) (List.mem_cons_of_mem _ (List.mem_append_left _ (List.mem_append_left _ (List.mem_append_left _ (List.mem_append_left _ (List.mem_append_left _ (List.mem_append_left _ (List.mem_of_getElem? (i := 9) rfl))))))))) (Nat.le_of_ble_eq_true rfl) (Nat.le_of_ble_eq_true rfl) (Nat.le_of_ble_eq_true rfl) (Nat.le_of_ble_eq_true rfl) dX9_ready_79 ?_
            rw [z_max (a := 0) (b := mo - 3) (by omega) (by omega) (by omega) (by omega)]
            obtain ⟨x32, hx32⟩ : ∃ z : Int, z = (if 0 < (mo - 3) then (mo - 3) else 0) := ⟨_, rfl⟩
            rw [← hx32]
            refine lv_goto (tgt := 87) hx hb dX9_ready_82 (by decide) ?_
            refine g_iast (n := 101) hx hb hC.1 hG hS 16 (by decide) rfl rfl (by omega) (by omega) (by decide) dX9_ready_87 (fun u33 H locs hu33 hG hS => ?_)
            have hCC : cRdC w 16 3 fd p2 t = x32 := by unfold cRdC; rw [← hmo2]; (repeat (first | rw [if_pos (by omega)] | rw [if_neg (by omega)])); all_goals (first | rfl | (subst_vars; rfl) | assumption | (symm; assumption))
            refine lv_aload_n hx hb dX9_ready_88 rfl (lv_at hl 2 rfl) ?_
            refine lv_iload_n hx hb dX9_ready_89 rfl (lv_at hl 1 rfl) ?_
            refine z_iconst hx hb dX9_ready_90 ?_
            refine z_iadd hx hb dX9_ready_91 ?_
            refine g_put (C := RX9) (T := TX9) (N := 9) (ci := 8) (ty := .int) hx hb hts (fun _ h => (List.mem_cons_of_mem _ (List.mem_append_right _ h))) tyX9 tyX9_ok nmX9 hown hC.1 hG hS 2 (by decide) rfl rfl 7 8 (by decide) (hts (.fieldLink RX9 34 "StraitSwim$Swim" "reach" "I") (List.mem_cons_of_mem _ (List.mem_append_left _ (List.mem_append_left _ (List.mem_append_left _ (List.mem_append_left _ (List.mem_append_left _ (List.mem_append_left _ (List.mem_of_getElem? (i := 2) rfl))))))))) (fun _ h9 => h9) rfl (by decide +kernel) rfl rfl (Nat.le_of_ble_eq_true rfl) rfl (gO_8 ad _ _) dX9_ready_92 (fun u34 H locs hu34 hG hS => ?_)
            refine lv_aload_n hx hb dX9_ready_95 rfl (lv_at hl 2 rfl) ?_
            refine lv_aload_n hx hb dX9_ready_96 rfl (lv_at hl 2 rfl) ?_
            refine g_get (C := RX9) (T := TX9) (N := 9) (ci := 8) hx hb hts (fun _ h => (List.mem_cons_of_mem _ (List.mem_append_right _ h))) hown hC.1 hG 2 (by decide) rfl rfl 6 (by decide) (hts (.fieldLink RX9 31 "StraitSwim$Swim" "colds" "[I") (List.mem_cons_of_mem _ (List.mem_append_left _ (List.mem_append_left _ (List.mem_append_left _ (List.mem_append_left _ (List.mem_append_left _ (List.mem_append_left _ (List.mem_of_getElem? (i := 5) rfl))))))))) (fun _ h9 => h9) rfl dX9_ready_97 ?_
            refine lv_aload_n hx hb dX9_ready_100 rfl (lv_at hl 2 rfl) ?_
            refine g_get (C := RX9) (T := TX9) (N := 9) (ci := 8) hx hb hts (fun _ h => (List.mem_cons_of_mem _ (List.mem_append_right _ h))) hown hC.1 hG 2 (by decide) rfl rfl 7 (by decide) (hts (.fieldLink RX9 34 "StraitSwim$Swim" "reach" "I") (List.mem_cons_of_mem _ (List.mem_append_left _ (List.mem_append_left _ (List.mem_append_left _ (List.mem_append_left _ (List.mem_append_left _ (List.mem_append_left _ (List.mem_of_getElem? (i := 2) rfl))))))))) (fun _ h9 => h9) rfl dX9_ready_101 ?_
            have e_35 : u34.1 8 = t + 1 := by subst hu34; subst hu33; subst hu10; rfl
            rw [e_35]
            refine g_iald (n := 101) hx hb hC.1 hG 16 (by decide) rfl (by omega) (by omega) (by decide) dX9_ready_104 ?_
            have e_36 : u34.2.1 16 = va_up (w.2.1 16) (t + 1).toNat x32 := by subst hu34; subst hu33; subst hu10; rfl
            rw [e_36]
            rw [up_s]
            refine lv_aload_n hx hb dX9_ready_105 rfl (lv_at hl 3 rfl) ?_
            have ha_o37 : a ∈ u34.2.2.2.1 := by subst hu34; subst hu33; subst hu10; exact ha
            have hE_o37 : u34.2.2.2.2 a = .inr (5, [.int (zI nm), .int (zI sp), .int (zI li), .int (zI fd)]) := by subst hu34; subst hu33; subst hu10; exact hE
            obtain ⟨k9, hk9⟩ := va_pl_get (X := gFx cy ad jf u34) (f := u34.2.2.2.2) ha_o37
            refine va_get (C := RX6) (T := TX6) (N := 4) (ci := 5) hx hb hts (fun _ h => (List.mem_cons_of_mem _ (List.mem_append_left _ (List.mem_append_right _ h)))) hown hC.1 hG.1 k9 (hk9.trans (by rw [hE_o37])) rfl 2 (by decide) (hts (.fieldLink RX9 61 "StraitSwim$Plain" "limit" "I") (List.mem_cons_of_mem _ (List.mem_append_left _ (List.mem_append_left _ (List.mem_append_left _ (List.mem_append_left _ (List.mem_append_left _ (List.mem_append_left _ (List.mem_of_getElem? (i := 10) rfl))))))))) (fun _ h9 => h9) rfl dX9_ready_106 ?_
            refine z_icmp_lt (tgt := 116) hx hb dX9_ready_109 (by decide) (by omega) (by omega) (by omega) (by omega) (fun c_38 => ?_) (fun c_38 => ?_)
            · refine z_iconst hx hb dX9_ready_116 ?_
              refine g_put (C := RX9) (T := TX9) (N := 9) (ci := 8) (ty := .boolean) hx hb hts (fun _ h => (List.mem_cons_of_mem _ (List.mem_append_right _ h))) tyX9 tyX9_ok nmX9 hown hC.1 hG hS 2 (by decide) rfl rfl 8 9 (by decide) (hts (.fieldLink RX9 37 "StraitSwim$Swim" "tooCold" "Z") (List.mem_cons_of_mem _ (List.mem_append_left _ (List.mem_append_left _ (List.mem_append_left _ (List.mem_append_left _ (List.mem_append_left _ (List.mem_append_left _ (List.mem_of_getElem? (i := 3) rfl))))))))) (fun _ h9 => h9) rfl (by decide +kernel) (nar_b (by omega)) rfl (Nat.le_of_ble_eq_true rfl) rfl (gO_9 ad _ _) dX9_ready_117 (fun u39 H locs hu39 hG hS => ?_)
              refine z_iinc (lv' := [(3, .int (zI (t + 1))), (4, .int (zI mo)), (0, .ref (ad 2)), (1, .ref a), (2, .int (zI p2))]) hx hb dX9_ready_120 hl (k := 1) rfl (by decide) rfl (fun ls hl => ?_)
              refine lv_goto (tgt := 20) hx hb dX9_ready_123 (by decide) ?_
              exact ih20 (t + 1) u39 _ _ _ (by omega) (by omega) (by have e9 : u39.2.1 16 (t + 1).toNat = x32 := (by subst hu39; subst hu34; subst hu33; subst hu10; exact up_s _ _ _); rw [e9]; omega) (by subst hu39; subst hu34; subst hu33; subst hu10; first | exact Or.inl rfl | exact Or.inr rfl) (by subst hu39; subst hu34; subst hu33; subst hu10; exact ha) (by subst hu39; subst hu34; subst hu33; subst hu10; exact hE) (by rw [hT, cRdL, if_pos (by omega), if_pos (by omega), hCC]; (repeat (first | rw [if_pos (by omega)] | rw [if_neg (by omega)])); unfold cRd1; subst hu39; subst hu34; subst hu33; subst hu10; subst_vars; rfl) hG hS (lv_sub hl [0, 2, 3, 4] rfl)
            · refine z_iconst hx hb dX9_ready_112 ?_
              refine lv_goto (tgt := 117) hx hb dX9_ready_113 (by decide) ?_
              refine g_put (C := RX9) (T := TX9) (N := 9) (ci := 8) (ty := .boolean) hx hb hts (fun _ h => (List.mem_cons_of_mem _ (List.mem_append_right _ h))) tyX9 tyX9_ok nmX9 hown hC.1 hG hS 2 (by decide) rfl rfl 8 9 (by decide) (hts (.fieldLink RX9 37 "StraitSwim$Swim" "tooCold" "Z") (List.mem_cons_of_mem _ (List.mem_append_left _ (List.mem_append_left _ (List.mem_append_left _ (List.mem_append_left _ (List.mem_append_left _ (List.mem_append_left _ (List.mem_of_getElem? (i := 3) rfl))))))))) (fun _ h9 => h9) rfl (by decide +kernel) (nar_b (by omega)) rfl (Nat.le_of_ble_eq_true rfl) rfl (gO_9 ad _ _) dX9_ready_117 (fun u40 H locs hu40 hG hS => ?_)
              refine z_iinc (lv' := [(3, .int (zI (t + 1))), (4, .int (zI mo)), (0, .ref (ad 2)), (1, .ref a), (2, .int (zI p2))]) hx hb dX9_ready_120 hl (k := 1) rfl (by decide) rfl (fun ls hl => ?_)
              refine lv_goto (tgt := 20) hx hb dX9_ready_123 (by decide) ?_
              exact ih20 (t + 1) u40 _ _ _ (by omega) (by omega) (by have e9 : u40.2.1 16 (t + 1).toNat = x32 := (by subst hu40; subst hu34; subst hu33; subst hu10; exact up_s _ _ _); rw [e9]; omega) (by subst hu40; subst hu34; subst hu33; subst hu10; first | exact Or.inl rfl | exact Or.inr rfl) (by subst hu40; subst hu34; subst hu33; subst hu10; exact ha) (by subst hu40; subst hu34; subst hu33; subst hu10; exact hE) (by rw [hT, cRdL, if_pos (by omega), if_pos (by omega), hCC]; (repeat (first | rw [if_pos (by omega)] | rw [if_neg (by omega)])); unfold cRd1; subst hu40; subst hu34; subst hu33; subst hu10; subst_vars; rfl) hG hS (lv_sub hl [0, 2, 3, 4] rfl)
  exact loop20 101 0 u3 _ _ _ (by omega) (by omega) (by have e9 : u3.2.1 16 (Int.toNat 0) = 0 := (by subst hu3; subst hu2; subst hu1; exact hc0); rw [e9]; omega) (by subst hu3; subst hu2; subst hu1; exact Or.inl rfl) (by subst hu3; subst hu2; subst hu1; exact ha) (by subst hu3; subst hu2; subst hu1; exact hE) (by subst hu3; subst hu2; subst hu1; rfl) hG hS (lv_sub hl [0, 1, 2, 3] rfl)
set_option maxHeartbeats 4000000 in
set_option maxRecDepth 100000 in
theorem kX9_ready_3_X3 (l : Launch) (D : va_G) (cy : Nat → ClassId) (ad : Nat → Nat) (jf : Nat → Int64) (A : Nat → Prop) (u : gS) (a : Nat) (nm sp li fd : Int) (p2 : Int) (ha : a ∈ u.2.2.2.1) (hE : u.2.2.2.2 a = .inr (2, [.int (zI nm), .int (zI sp), .int (zI li), .int (zI fd)])) (j_c : 0 ≤ p2 ∧ p2 ≤ 20) (j_s : 0 ≤ sp ∧ sp ≤ 20) (j_l : 0 ≤ li ∧ li ≤ 400) (j_f : 0 ≤ fd ∧ fd ≤ 40) (hc0 : u.2.1 20 0 = 0) : Met l yX9_ready wsX9_ready ({ frames := 4, cells := 0, slots := 0, locals := 96 }) (va_Pc [.ref (ad 3), .ref a, .int (zI p2)] (gB D cy ad jf A u)) (va_Qv (fun (v : gS) => v = cReady u 19 20 10 13 14 0 nm sp li fd p2) (gB D cy ad jf A) A) 0 0 A := by
  refine Met.ofW (cc := cX9_ready) (maxL := 5) (ret := none) (by decide) rfl ?_
  intro p e s m args below meth c s₁ B hml hv
  obtain ⟨rfl, hG, hC⟩ := hv
  have hx := B.exec
  have hb := B.bytes
  have hr := B.returns
  have hts := atoms_spec (ws := wsX9_ready) B.pre
  have hown : s.vm.findClass RX9 = some m.cls := findClass_of_methodNamed B.named
  have hlocks := B.notSynchronized
  have hS : va_S A s.heap s.heap [] := va_S.rf
  have hl := lv_entry ([.ref (ad 3), .ref a, .int (zI p2)]) (n := 5) (Nat.le_of_ble_eq_true rfl)
  rw [lg_entry_eq]
  generalize (lg_sl ([.ref (ad 3), .ref a, .int (zI p2)]) ++ List.replicate (5 - (lg_sl ([.ref (ad 3), .ref a, .int (zI p2)])).length) Slot.unset).toArray = ls at hl ⊢
  have hl : lv_has ls 5 [(0, .ref (ad 3)), (1, .ref a), (2, .int (zI p2))] := hl
  refine lv_aload_n hx hb dX9_ready_0 rfl (lv_at hl 0 rfl) ?_
  refine lv_aload_n hx hb dX9_ready_1 rfl (lv_at hl 1 rfl) ?_
  obtain ⟨k9, hk9⟩ := va_pl_get (X := gFx cy ad jf u) (f := u.2.2.2.2) ha
  refine va_get (C := RX3) (T := TX3) (N := 4) (ci := 2) hx hb hts (fun _ h => (List.mem_cons_of_mem _ (List.mem_append_left _ (List.mem_append_left _ (List.mem_append_left _ (List.mem_append_right _ h)))))) hown hC.1 hG.1 k9 (hk9.trans (by rw [hE])) rfl 0 (by decide) (hts (.fieldLink RX9 41 "StraitSwim$Plain" "number" "I") (List.mem_cons_of_mem _ (List.mem_append_left _ (List.mem_append_left _ (List.mem_append_left _ (List.mem_append_left _ (List.mem_append_left _ (List.mem_append_left _ (List.mem_of_getElem? (i := 0) rfl))))))))) (fun _ h9 => h9) rfl dX9_ready_2 ?_
  refine g_put (C := RX9) (T := TX9) (N := 9) (ci := 8) (ty := .int) hx hb hts (fun _ h => (List.mem_cons_of_mem _ (List.mem_append_right _ h))) tyX9 tyX9_ok nmX9 hown hC.1 hG hS 3 (by decide) rfl rfl 0 10 (by decide) (hts (.fieldLink RX9 9 "StraitSwim$Swim" "number" "I") (List.mem_cons_of_mem _ (List.mem_append_left _ (List.mem_append_left _ (List.mem_append_left _ (List.mem_append_left _ (List.mem_append_left _ (List.mem_append_left _ (List.mem_of_getElem? (i := 1) rfl))))))))) (fun _ h9 => h9) rfl (by decide +kernel) rfl rfl (Nat.le_of_ble_eq_true rfl) rfl (gO_10 ad _ _) dX9_ready_5 (fun u1 H locs hu1 hG hS => ?_)
  refine lv_aload_n hx hb dX9_ready_8 rfl (lv_at hl 0 rfl) ?_
  refine z_iconst hx hb dX9_ready_9 ?_
  refine g_put (C := RX9) (T := TX9) (N := 9) (ci := 8) (ty := .int) hx hb hts (fun _ h => (List.mem_cons_of_mem _ (List.mem_append_right _ h))) tyX9 tyX9_ok nmX9 hown hC.1 hG hS 3 (by decide) rfl rfl 7 13 (by decide) (hts (.fieldLink RX9 34 "StraitSwim$Swim" "reach" "I") (List.mem_cons_of_mem _ (List.mem_append_left _ (List.mem_append_left _ (List.mem_append_left _ (List.mem_append_left _ (List.mem_append_left _ (List.mem_append_left _ (List.mem_of_getElem? (i := 2) rfl))))))))) (fun _ h9 => h9) rfl (by decide +kernel) rfl rfl (Nat.le_of_ble_eq_true rfl) rfl (gO_13 ad _ _) dX9_ready_10 (fun u2 H locs hu2 hG hS => ?_)
  refine lv_aload_n hx hb dX9_ready_13 rfl (lv_at hl 0 rfl) ?_
  refine z_iconst hx hb dX9_ready_14 ?_
  refine g_put (C := RX9) (T := TX9) (N := 9) (ci := 8) (ty := .boolean) hx hb hts (fun _ h => (List.mem_cons_of_mem _ (List.mem_append_right _ h))) tyX9 tyX9_ok nmX9 hown hC.1 hG hS 3 (by decide) rfl rfl 8 14 (by decide) (hts (.fieldLink RX9 37 "StraitSwim$Swim" "tooCold" "Z") (List.mem_cons_of_mem _ (List.mem_append_left _ (List.mem_append_left _ (List.mem_append_left _ (List.mem_append_left _ (List.mem_append_left _ (List.mem_append_left _ (List.mem_of_getElem? (i := 3) rfl))))))))) (fun _ h9 => h9) rfl (by decide +kernel) (nar_b (by omega)) rfl (Nat.le_of_ble_eq_true rfl) rfl (gO_14 ad _ _) dX9_ready_15 (fun u3 H locs hu3 hG hS => ?_)
  refine z_iconst hx hb dX9_ready_18 ?_
  refine lv_istore_n (lv' := [(3, .int (zI 0)), (0, .ref (ad 3)), (1, .ref a), (2, .int (zI p2))]) hx hb dX9_ready_19 rfl hl (by decide) rfl (fun ls hl => ?_)
  have loop20 : ∀ (n : Nat) (t : Int) (w : gS) (H : Heap) (locs : List Loc) (ls : Array Slot), (100 - t).toNat < n → (0 ≤ t ∧ t ≤ 100) → (0 ≤ w.2.1 20 t.toNat ∧ w.2.1 20 t.toNat ≤ 200 * t) → (w.1 14 = 0 ∨ w.1 14 = 1) → (a ∈ w.2.2.2.1) → (w.2.2.2.2 a = .inr (2, [.int (zI nm), .int (zI sp), .int (zI li), .int (zI fd)])) → (cRdL 19 20 13 14 0 sp li fd p2 101 0 (sI (sI (sI u 10 nm) 13 0) 14 0) = cRdL 19 20 13 14 0 sp li fd p2 n t w) → gH D cy ad jf A w H → va_S A s.heap H locs → lv_has ls 5 [(3, .int (zI t)), (0, .ref (ad 3)), (1, .ref a), (2, .int (zI p2))] → W p l e (headSpec wsX9_ready ({ frames := 4, cells := 0, slots := 0, locals := 96 })).room s m ([.ref (ad 3), .ref a, .int (zI p2)]).toArray below meth c H locs 0 0 (MQ below (va_Qv (fun (v : gS) => v = cReady u 19 20 10 13 14 0 nm sp li fd p2) (gB D cy ad jf A) A) ([.ref (ad 3), .ref a, .int (zI p2)]).toArray s 0 0 A) (F0 m 20 ls []) := by
    intro n
    induction n with
    | zero => intro t w H locs ls hm; exact absurd hm (Nat.not_lt_zero _)
    | succ n ih20 =>
      intro t w H locs ls hm ht9 hcl htc ha hE hT hG hS hl
      refine lv_iload_n hx hb dX9_ready_20 rfl (lv_at hl 0 rfl) ?_
      refine z_bipush hx hb dX9_ready_21 (by decide) ?_
      refine z_icmp_ge (tgt := 126) hx hb dX9_ready_23 (by decide) (by omega) (by omega) (by omega) (by omega) (fun c_4 => ?_) (fun c_4 => ?_)
      · exact W.vret hx hb hr (fun t9 ht9_ hW => ⟨⟨w, rfl, (by unfold cReady; rw [hT, cRdL]; (repeat (first | rw [if_pos (by omega)] | rw [if_neg (by omega)]))), gB.mk' hG hC hS ht9_ hW⟩, hS.F ht9_⟩) hS.2.2 dX9_ready_126
      · refine lv_aload_n hx hb dX9_ready_26 rfl (lv_at hl 1 rfl) ?_
        refine g_get (C := RX9) (T := TX9) (N := 9) (ci := 8) hx hb hts (fun _ h => (List.mem_cons_of_mem _ (List.mem_append_right _ h))) hown hC.1 hG 3 (by decide) rfl rfl 8 (by decide) (hts (.fieldLink RX9 37 "StraitSwim$Swim" "tooCold" "Z") (List.mem_cons_of_mem _ (List.mem_append_left _ (List.mem_append_left _ (List.mem_append_left _ (List.mem_append_left _ (List.mem_append_left _ (List.mem_append_left _ (List.mem_of_getElem? (i := 3) rfl))))))))) (fun _ h9 => h9) rfl dX9_ready_27 ?_
        refine z_if_ne (tgt := 126) hx hb dX9_ready_30 (by decide) (by omega) (by omega) (fun c_5 => ?_) (fun c_5 => ?_)
        · exact W.vret hx hb hr (fun t9 ht9_ hW => ⟨⟨w, rfl, (by unfold cReady; rw [hT, cRdL]; (repeat (first | rw [if_pos (by omega)] | rw [if_neg (by omega)]))), gB.mk' hG hC hS ht9_ hW⟩, hS.F ht9_⟩) hS.2.2 dX9_ready_126
        · refine lv_aload_n hx hb dX9_ready_33 rfl (lv_at hl 1 rfl) ?_
          refine g_get (C := RX9) (T := TX9) (N := 9) (ci := 8) hx hb hts (fun _ h => (List.mem_cons_of_mem _ (List.mem_append_right _ h))) hown hC.1 hG 3 (by decide) rfl rfl 5 (by decide) (hts (.fieldLink RX9 28 "StraitSwim$Swim" "strides" "[I") (List.mem_cons_of_mem _ (List.mem_append_left _ (List.mem_append_left _ (List.mem_append_left _ (List.mem_append_left _ (List.mem_append_left _ (List.mem_append_left _ (List.mem_of_getElem? (i := 4) rfl))))))))) (fun _ h9 => h9) rfl dX9_ready_34 ?_
          refine lv_iload_n hx hb dX9_ready_37 rfl (lv_at hl 0 rfl) ?_
          refine lv_aload_n hx hb dX9_ready_38 rfl (lv_at hl 2 rfl) ?_
          refine lv_iload_n hx hb dX9_ready_39 rfl (lv_at hl 0 rfl) ?_
          obtain ⟨k9, hk9⟩ := va_pl_get (X := gFx cy ad jf w) (f := w.2.2.2.2) ha
          refine g_calli (va_runV (As := [.int (zI t)]) (rest := [.int (zI t), .ref (ad 19)]) ⟨hx, hb, hml, hown, hts⟩ (kX3_strideIn_X3 l D cy ad jf A w a nm sp li fd t ha hE (by omega) (by omega) (by omega)) (cwV 1 hts gX9_ready_X3_strideIn rfl rfl rfl (by decide +kernel) ⟨by decide, by decide⟩) (g_preD (C := RX3) hG hC hS (hk9.trans (by rw [hE])) rfl) rfl rfl hl.1 rfl (lv_room (Nat.le_of_ble_eq_true rfl)) dX9_ready_40 ⟨Nat.le_of_ble_eq_true rfl, Nat.le_of_ble_eq_true rfl⟩) hS (fun r6 u7 H locs p_8 hG hS => ?_)
          obtain ⟨rfl, he_⟩ := p_8
          rw [he_] at hG; clear he_
          obtain ⟨z9, hz9⟩ : ∃ z : Int, z = spPace 0 sp fd t := ⟨_, rfl⟩
          rw [← hz9]
          have qz9 : 0 ≤ z9 ∧ z9 ≤ 24 := by rw [hz9]; (first | omega | (unfold spAt1; split <;> omega) | (unfold spAt1; split <;> split <;> omega) | (split <;> first | omega | (unfold spAt1; split <;> omega)) | (unfold spPace spPc spAt1; split <;> (first | omega | (split <;> first | omega | (split <;> omega)))))
          refine g_iast (n := 100) hx hb hC.1 hG hS 19 (by decide) rfl rfl (by omega) (by omega) (by decide) dX9_ready_43 (fun u10 H locs hu10 hG hS => ?_)
          refine lv_aload_n hx hb dX9_ready_44 rfl (lv_at hl 1 rfl) ?_
          refine g_get (C := RX9) (T := TX9) (N := 9) (ci := 8) hx hb hts (fun _ h => (List.mem_cons_of_mem _ (List.mem_append_right _ h))) hown hC.1 hG 3 (by decide) rfl rfl 6 (by decide) (hts (.fieldLink RX9 31 "StraitSwim$Swim" "colds" "[I") (List.mem_cons_of_mem _ (List.mem_append_left _ (List.mem_append_left _ (List.mem_append_left _ (List.mem_append_left _ (List.mem_append_left _ (List.mem_append_left _ (List.mem_of_getElem? (i := 5) rfl))))))))) (fun _ h9 => h9) rfl dX9_ready_45 ?_
          refine lv_iload_n hx hb dX9_ready_48 rfl (lv_at hl 0 rfl) ?_
          refine g_iald (n := 101) hx hb hC.1 hG 20 (by decide) rfl (by omega) (by omega) (by decide) dX9_ready_49 ?_
          have e_11 : u10.2.1 20 = w.2.1 20 := by subst hu10; rfl
          rw [e_11]
          refine lv_aload_n hx hb dX9_ready_50 rfl (lv_at hl 2 rfl) ?_
          refine lv_iload_n hx hb dX9_ready_51 rfl (lv_at hl 0 rfl) ?_
          refine lv_iload_n hx hb dX9_ready_52 rfl (lv_at hl 3 rfl) ?_
          have ha_o12 : a ∈ u10.2.2.2.1 := by subst hu10; exact ha
          have hE_o12 : u10.2.2.2.2 a = .inr (2, [.int (zI nm), .int (zI sp), .int (zI li), .int (zI fd)]) := by subst hu10; exact hE
          obtain ⟨k9, hk9⟩ := va_pl_get (X := gFx cy ad jf u10) (f := u10.2.2.2.2) ha_o12
          refine g_calli (va_runV (As := [.int (zI t), .int (zI p2)]) (rest := [.int (zI (w.2.1 20 t.toNat))]) ⟨hx, hb, hml, hown, hts⟩ (kX3_coldIn_X3 l D cy ad jf A u10 a nm sp li fd t p2 ha_o12 hE_o12 (by omega) (by omega)) (cwV 2 hts gX9_ready_X3_coldIn rfl rfl rfl (by decide +kernel) ⟨by decide, by decide⟩) (g_preD (C := RX3) hG hC hS (hk9.trans (by rw [hE_o12])) rfl) rfl rfl hl.1 rfl (lv_room (Nat.le_of_ble_eq_true rfl)) dX9_ready_53 ⟨Nat.le_of_ble_eq_true rfl, Nat.le_of_ble_eq_true rfl⟩) hS (fun r13 u14 H locs p_15 hG hS => ?_)
          obtain ⟨rfl, he_⟩ := p_15
          rw [he_] at hG; clear he_
          obtain ⟨z16, hz16⟩ : ∃ z : Int, z = p2 + t / 8 := ⟨_, rfl⟩
          rw [← hz16]
          have qz16 : 0 ≤ z16 ∧ z16 ≤ 145 := by rw [hz16]; (first | omega | (unfold spAt1; split <;> omega) | (unfold spAt1; split <;> split <;> omega) | (split <;> first | omega | (unfold spAt1; split <;> omega)) | (unfold spPace spPc spAt1; split <;> (first | omega | (split <;> first | omega | (split <;> omega)))))
          refine z_iadd hx hb dX9_ready_56 ?_
          obtain ⟨mo, hmo⟩ : ∃ z : Int, z = (w.2.1 20 t.toNat) + z16 := ⟨_, rfl⟩
          rw [← hmo]
          refine lv_istore (lv' := [(4, .int (zI mo)), (3, .int (zI t)), (0, .ref (ad 3)), (1, .ref a), (2, .int (zI p2))]) hx hb dX9_ready_57 hl (by decide) rfl (fun ls hl => ?_)
          have e9 : z16 = spCold 0 p2 t := by unfold spCold; (repeat (first | rw [if_pos (by omega)] | rw [if_neg (by omega)])); all_goals (subst_vars; rfl)
          have hmo2 : mo = w.2.1 20 t.toNat + spCold 0 p2 t := by rw [hmo, e9]
          refine lv_aload_n hx hb dX9_ready_59 rfl (lv_at hl 2 rfl) ?_
          refine g_get (C := RX9) (T := TX9) (N := 9) (ci := 8) hx hb hts (fun _ h => (List.mem_cons_of_mem _ (List.mem_append_right _ h))) hown hC.1 hG 3 (by decide) rfl rfl 6 (by decide) (hts (.fieldLink RX9 31 "StraitSwim$Swim" "colds" "[I") (List.mem_cons_of_mem _ (List.mem_append_left _ (List.mem_append_left _ (List.mem_append_left _ (List.mem_append_left _ (List.mem_append_left _ (List.mem_append_left _ (List.mem_of_getElem? (i := 5) rfl))))))))) (fun _ h9 => h9) rfl dX9_ready_60 ?_
          refine lv_iload_n hx hb dX9_ready_63 rfl (lv_at hl 1 rfl) ?_
          refine z_iconst hx hb dX9_ready_64 ?_
          refine z_iadd hx hb dX9_ready_65 ?_
          refine lv_aload_n hx hb dX9_ready_66 rfl (lv_at hl 3 rfl) ?_
          refine lv_iload_n hx hb dX9_ready_67 rfl (lv_at hl 1 rfl) ?_
          have ha_o17 : a ∈ u10.2.2.2.1 := by subst hu10; exact ha
          have hE_o17 : u10.2.2.2.2 a = .inr (2, [.int (zI nm), .int (zI sp), .int (zI li), .int (zI fd)]) := by subst hu10; exact hE
          obtain ⟨k9, hk9⟩ := va_pl_get (X := gFx cy ad jf u10) (f := u10.2.2.2.2) ha_o17
          refine g_calli (va_runV (As := [.int (zI t)]) (rest := [.int (zI (t + 1)), .ref (ad 20)]) ⟨hx, hb, hml, hown, hts⟩ (kX3_feedsIn_X3 l D cy ad jf A u10 a nm sp li fd t ha_o17 hE_o17 (by omega) (by omega)) (cwV 1 hts gX9_ready_X3_feedsIn rfl rfl rfl (by decide +kernel) ⟨by decide, by decide⟩) (g_preD (C := RX3) hG hC hS (hk9.trans (by rw [hE_o17])) rfl) rfl rfl hl.1 rfl (lv_room (Nat.le_of_ble_eq_true rfl)) dX9_ready_68 ⟨Nat.le_of_ble_eq_true rfl, Nat.le_of_ble_eq_true rfl⟩) hS (fun r18 u19 H locs p_20 hG hS => ?_)
          obtain ⟨⟨b21, rfl, q_22⟩, he_⟩ := p_20
          rw [he_] at hG; clear he_
          have hbb21 : 0 ≤ b21 ∧ b21 ≤ 1 := by rcases q_22 with ⟨h, _⟩ | ⟨h, _⟩ <;> omega
          refine z_if_eq (tgt := 85) hx hb dX9_ready_71 (by decide) (by omega) (by omega) (fun c_23 => ?_) (fun c_23 => ?_)
          · refine lv_iload hx hb dX9_ready_85 (lv_at hl 0 rfl) ?_
            refine g_iast (n := 101) hx hb hC.1 hG hS 20 (by decide) rfl rfl (by omega) (by omega) (by decide) dX9_ready_87 (fun u24 H locs hu24 hG hS => ?_)
            have hCC : cRdC w 20 0 fd p2 t = mo := by unfold cRdC; rw [← hmo2]; (repeat (first | rw [if_pos (by omega)] | rw [if_neg (by omega)])); all_goals (first | rfl | (subst_vars; rfl) | assumption | (symm; assumption))
            refine lv_aload_n hx hb dX9_ready_88 rfl (lv_at hl 2 rfl) ?_
            refine lv_iload_n hx hb dX9_ready_89 rfl (lv_at hl 1 rfl) ?_
            refine z_iconst hx hb dX9_ready_90 ?_
            refine z_iadd hx hb dX9_ready_91 ?_
            refine g_put (C := RX9) (T := TX9) (N := 9) (ci := 8) (ty := .int) hx hb hts (fun _ h => (List.mem_cons_of_mem _ (List.mem_append_right _ h))) tyX9 tyX9_ok nmX9 hown hC.1 hG hS 3 (by decide) rfl rfl 7 13 (by decide) (hts (.fieldLink RX9 34 "StraitSwim$Swim" "reach" "I") (List.mem_cons_of_mem _ (List.mem_append_left _ (List.mem_append_left _ (List.mem_append_left _ (List.mem_append_left _ (List.mem_append_left _ (List.mem_append_left _ (List.mem_of_getElem? (i := 2) rfl))))))))) (fun _ h9 => h9) rfl (by decide +kernel) rfl rfl (Nat.le_of_ble_eq_true rfl) rfl (gO_13 ad _ _) dX9_ready_92 (fun u25 H locs hu25 hG hS => ?_)
            refine lv_aload_n hx hb dX9_ready_95 rfl (lv_at hl 2 rfl) ?_
            refine lv_aload_n hx hb dX9_ready_96 rfl (lv_at hl 2 rfl) ?_
            refine g_get (C := RX9) (T := TX9) (N := 9) (ci := 8) hx hb hts (fun _ h => (List.mem_cons_of_mem _ (List.mem_append_right _ h))) hown hC.1 hG 3 (by decide) rfl rfl 6 (by decide) (hts (.fieldLink RX9 31 "StraitSwim$Swim" "colds" "[I") (List.mem_cons_of_mem _ (List.mem_append_left _ (List.mem_append_left _ (List.mem_append_left _ (List.mem_append_left _ (List.mem_append_left _ (List.mem_append_left _ (List.mem_of_getElem? (i := 5) rfl))))))))) (fun _ h9 => h9) rfl dX9_ready_97 ?_
            refine lv_aload_n hx hb dX9_ready_100 rfl (lv_at hl 2 rfl) ?_
            refine g_get (C := RX9) (T := TX9) (N := 9) (ci := 8) hx hb hts (fun _ h => (List.mem_cons_of_mem _ (List.mem_append_right _ h))) hown hC.1 hG 3 (by decide) rfl rfl 7 (by decide) (hts (.fieldLink RX9 34 "StraitSwim$Swim" "reach" "I") (List.mem_cons_of_mem _ (List.mem_append_left _ (List.mem_append_left _ (List.mem_append_left _ (List.mem_append_left _ (List.mem_append_left _ (List.mem_append_left _ (List.mem_of_getElem? (i := 2) rfl))))))))) (fun _ h9 => h9) rfl dX9_ready_101 ?_
            have e_26 : u25.1 13 = t + 1 := by subst hu25; subst hu24; subst hu10; rfl
            rw [e_26]
            refine g_iald (n := 101) hx hb hC.1 hG 20 (by decide) rfl (by omega) (by omega) (by decide) dX9_ready_104 ?_
            have e_27 : u25.2.1 20 = va_up (w.2.1 20) (t + 1).toNat mo := by subst hu25; subst hu24; subst hu10; rfl
            rw [e_27]
            rw [up_s]
            refine lv_aload_n hx hb dX9_ready_105 rfl (lv_at hl 3 rfl) ?_
            have ha_o28 : a ∈ u25.2.2.2.1 := by subst hu25; subst hu24; subst hu10; exact ha
            have hE_o28 : u25.2.2.2.2 a = .inr (2, [.int (zI nm), .int (zI sp), .int (zI li), .int (zI fd)]) := by subst hu25; subst hu24; subst hu10; exact hE
            obtain ⟨k9, hk9⟩ := va_pl_get (X := gFx cy ad jf u25) (f := u25.2.2.2.2) ha_o28
            refine va_get (C := RX3) (T := TX3) (N := 4) (ci := 2) hx hb hts (fun _ h => (List.mem_cons_of_mem _ (List.mem_append_left _ (List.mem_append_left _ (List.mem_append_left _ (List.mem_append_right _ h)))))) hown hC.1 hG.1 k9 (hk9.trans (by rw [hE_o28])) rfl 2 (by decide) (hts (.fieldLink RX9 61 "StraitSwim$Plain" "limit" "I") (List.mem_cons_of_mem _ (List.mem_append_left _ (List.mem_append_left _ (List.mem_append_left _ (List.mem_append_left _ (List.mem_append_left _ (List.mem_append_left _ (List.mem_of_getElem? (i := 10) rfl))))))))) (fun _ h9 => h9) rfl dX9_ready_106 ?_
            refine z_icmp_lt (tgt := 116) hx hb dX9_ready_109 (by decide) (by omega) (by omega) (by omega) (by omega) (fun c_29 => ?_) (fun c_29 => ?_)
            · refine z_iconst hx hb dX9_ready_116 ?_
              refine g_put (C := RX9) (T := TX9) (N := 9) (ci := 8) (ty := .boolean) hx hb hts (fun _ h => (List.mem_cons_of_mem _ (List.mem_append_right _ h))) tyX9 tyX9_ok nmX9 hown hC.1 hG hS 3 (by decide) rfl rfl 8 14 (by decide) (hts (.fieldLink RX9 37 "StraitSwim$Swim" "tooCold" "Z") (List.mem_cons_of_mem _ (List.mem_append_left _ (List.mem_append_left _ (List.mem_append_left _ (List.mem_append_left _ (List.mem_append_left _ (List.mem_append_left _ (List.mem_of_getElem? (i := 3) rfl))))))))) (fun _ h9 => h9) rfl (by decide +kernel) (nar_b (by omega)) rfl (Nat.le_of_ble_eq_true rfl) rfl (gO_14 ad _ _) dX9_ready_117 (fun u30 H locs hu30 hG hS => ?_)
              refine z_iinc (lv' := [(3, .int (zI (t + 1))), (4, .int (zI mo)), (0, .ref (ad 3)), (1, .ref a), (2, .int (zI p2))]) hx hb dX9_ready_120 hl (k := 1) rfl (by decide) rfl (fun ls hl => ?_)
              refine lv_goto (tgt := 20) hx hb dX9_ready_123 (by decide) ?_
              exact ih20 (t + 1) u30 _ _ _ (by omega) (by omega) (by have e9 : u30.2.1 20 (t + 1).toNat = mo := (by subst hu30; subst hu25; subst hu24; subst hu10; exact up_s _ _ _); rw [e9]; omega) (by subst hu30; subst hu25; subst hu24; subst hu10; first | exact Or.inl rfl | exact Or.inr rfl) (by subst hu30; subst hu25; subst hu24; subst hu10; exact ha) (by subst hu30; subst hu25; subst hu24; subst hu10; exact hE) (by rw [hT, cRdL, if_pos (by omega), if_pos (by omega), hCC]; (repeat (first | rw [if_pos (by omega)] | rw [if_neg (by omega)])); unfold cRd1; subst hu30; subst hu25; subst hu24; subst hu10; subst_vars; rfl) hG hS (lv_sub hl [0, 2, 3, 4] rfl)
            · refine z_iconst hx hb dX9_ready_112 ?_
              refine lv_goto (tgt := 117) hx hb dX9_ready_113 (by decide) ?_
              refine g_put (C := RX9) (T := TX9) (N := 9) (ci := 8) (ty := .boolean) hx hb hts (fun _ h => (List.mem_cons_of_mem _ (List.mem_append_right _ h))) tyX9 tyX9_ok nmX9 hown hC.1 hG hS 3 (by decide) rfl rfl 8 14 (by decide) (hts (.fieldLink RX9 37 "StraitSwim$Swim" "tooCold" "Z") (List.mem_cons_of_mem _ (List.mem_append_left _ (List.mem_append_left _ (List.mem_append_left _ (List.mem_append_left _ (List.mem_append_left _ (List.mem_append_left _ (List.mem_of_getElem? (i := 3) rfl))))))))) (fun _ h9 => h9) rfl (by decide +kernel) (nar_b (by omega)) rfl (Nat.le_of_ble_eq_true rfl) rfl (gO_14 ad _ _) dX9_ready_117 (fun u31 H locs hu31 hG hS => ?_)
              refine z_iinc (lv' := [(3, .int (zI (t + 1))), (4, .int (zI mo)), (0, .ref (ad 3)), (1, .ref a), (2, .int (zI p2))]) hx hb dX9_ready_120 hl (k := 1) rfl (by decide) rfl (fun ls hl => ?_)
              refine lv_goto (tgt := 20) hx hb dX9_ready_123 (by decide) ?_
              exact ih20 (t + 1) u31 _ _ _ (by omega) (by omega) (by have e9 : u31.2.1 20 (t + 1).toNat = mo := (by subst hu31; subst hu25; subst hu24; subst hu10; exact up_s _ _ _); rw [e9]; omega) (by subst hu31; subst hu25; subst hu24; subst hu10; first | exact Or.inl rfl | exact Or.inr rfl) (by subst hu31; subst hu25; subst hu24; subst hu10; exact ha) (by subst hu31; subst hu25; subst hu24; subst hu10; exact hE) (by rw [hT, cRdL, if_pos (by omega), if_pos (by omega), hCC]; (repeat (first | rw [if_pos (by omega)] | rw [if_neg (by omega)])); unfold cRd1; subst hu31; subst hu25; subst hu24; subst hu10; subst_vars; rfl) hG hS (lv_sub hl [0, 2, 3, 4] rfl)
          · refine z_iconst hx hb dX9_ready_74 ?_
            refine lv_iload hx hb dX9_ready_75 (lv_at hl 0 rfl) ?_
            refine z_iconst hx hb dX9_ready_77 ?_
            refine z_isub hx hb dX9_ready_78 ?_
            refine va_mmax hx hb (hml.trans hl.1.symm) hown (hts (.methodLink RX9 56 Lib.Math.max.name) (List.mem_cons_of_mem _ (List.mem_append_left _ (List.mem_append_left _ (List.mem_append_left _ (List.mem_append_left _ (List.mem_append_left _ (List.mem_append_left _ (List.mem_of_getElem? (i := 6) rfl))))))))) (hts (.static Lib.Math.max.name) (List.mem_cons_of_mem _ (List.mem_append_left _ (List.mem_append_left _ (List.mem_append_left _ (List.mem_append_left _ (List.mem_append_left _ (List.mem_append_left _ (List.mem_of_getElem? (i := 7) rfl))))))))) (hts (.initialized "java/lang/Math") (List.mem_cons_of_mem _ (List.mem_append_left _ (List.mem_append_left _ (List.mem_append_left _ (List.mem_append_left _ (List.mem_append_left _ (List.mem_append_left _ (List.mem_of_getElem? (i := 8) rfl))))))))) (hts (.code Lib.Math.max.name Lib.Math.max.code 2 (some .int)) (List.mem_cons_of_mem _ (List.mem_append_left _ (List.mem_append_left _ (List.mem_append_left _ (List.mem_append_left _ (List.mem_append_left _ (List.mem_append_left _ (List.mem_of_getElem? (i := 9) rfl))))))))) (Nat.le_of_ble_eq_true rfl) (Nat.le_of_ble_eq_true rfl) (Nat.le_of_ble_eq_true rfl) (Nat.le_of_ble_eq_true rfl) dX9_ready_79 ?_
            rw [z_max (a := 0) (b := mo - 3) (by omega) (by omega) (by omega) (by omega)]
            obtain ⟨x32, hx32⟩ : ∃ z : Int, z = (if 0 < (mo - 3) then (mo - 3) else 0) := ⟨_, rfl⟩
            rw [← hx32]
            refine lv_goto (tgt := 87) hx hb dX9_ready_82 (by decide) ?_
            refine g_iast (n := 101) hx hb hC.1 hG hS 20 (by decide) rfl rfl (by omega) (by omega) (by decide) dX9_ready_87 (fun u33 H locs hu33 hG hS => ?_)
            have hCC : cRdC w 20 0 fd p2 t = x32 := by unfold cRdC; rw [← hmo2]; (repeat (first | rw [if_pos (by omega)] | rw [if_neg (by omega)])); all_goals (first | rfl | (subst_vars; rfl) | assumption | (symm; assumption))
            refine lv_aload_n hx hb dX9_ready_88 rfl (lv_at hl 2 rfl) ?_
            refine lv_iload_n hx hb dX9_ready_89 rfl (lv_at hl 1 rfl) ?_
            refine z_iconst hx hb dX9_ready_90 ?_
            refine z_iadd hx hb dX9_ready_91 ?_
            refine g_put (C := RX9) (T := TX9) (N := 9) (ci := 8) (ty := .int) hx hb hts (fun _ h => (List.mem_cons_of_mem _ (List.mem_append_right _ h))) tyX9 tyX9_ok nmX9 hown hC.1 hG hS 3 (by decide) rfl rfl 7 13 (by decide) (hts (.fieldLink RX9 34 "StraitSwim$Swim" "reach" "I") (List.mem_cons_of_mem _ (List.mem_append_left _ (List.mem_append_left _ (List.mem_append_left _ (List.mem_append_left _ (List.mem_append_left _ (List.mem_append_left _ (List.mem_of_getElem? (i := 2) rfl))))))))) (fun _ h9 => h9) rfl (by decide +kernel) rfl rfl (Nat.le_of_ble_eq_true rfl) rfl (gO_13 ad _ _) dX9_ready_92 (fun u34 H locs hu34 hG hS => ?_)
            refine lv_aload_n hx hb dX9_ready_95 rfl (lv_at hl 2 rfl) ?_
            refine lv_aload_n hx hb dX9_ready_96 rfl (lv_at hl 2 rfl) ?_
            refine g_get (C := RX9) (T := TX9) (N := 9) (ci := 8) hx hb hts (fun _ h => (List.mem_cons_of_mem _ (List.mem_append_right _ h))) hown hC.1 hG 3 (by decide) rfl rfl 6 (by decide) (hts (.fieldLink RX9 31 "StraitSwim$Swim" "colds" "[I") (List.mem_cons_of_mem _ (List.mem_append_left _ (List.mem_append_left _ (List.mem_append_left _ (List.mem_append_left _ (List.mem_append_left _ (List.mem_append_left _ (List.mem_of_getElem? (i := 5) rfl))))))))) (fun _ h9 => h9) rfl dX9_ready_97 ?_
            refine lv_aload_n hx hb dX9_ready_100 rfl (lv_at hl 2 rfl) ?_
            refine g_get (C := RX9) (T := TX9) (N := 9) (ci := 8) hx hb hts (fun _ h => (List.mem_cons_of_mem _ (List.mem_append_right _ h))) hown hC.1 hG 3 (by decide) rfl rfl 7 (by decide) (hts (.fieldLink RX9 34 "StraitSwim$Swim" "reach" "I") (List.mem_cons_of_mem _ (List.mem_append_left _ (List.mem_append_left _ (List.mem_append_left _ (List.mem_append_left _ (List.mem_append_left _ (List.mem_append_left _ (List.mem_of_getElem? (i := 2) rfl))))))))) (fun _ h9 => h9) rfl dX9_ready_101 ?_
            have e_35 : u34.1 13 = t + 1 := by subst hu34; subst hu33; subst hu10; rfl
            rw [e_35]
            refine g_iald (n := 101) hx hb hC.1 hG 20 (by decide) rfl (by omega) (by omega) (by decide) dX9_ready_104 ?_
            have e_36 : u34.2.1 20 = va_up (w.2.1 20) (t + 1).toNat x32 := by subst hu34; subst hu33; subst hu10; rfl
            rw [e_36]
            rw [up_s]
            refine lv_aload_n hx hb dX9_ready_105 rfl (lv_at hl 3 rfl) ?_
            have ha_o37 : a ∈ u34.2.2.2.1 := by subst hu34; subst hu33; subst hu10; exact ha
            have hE_o37 : u34.2.2.2.2 a = .inr (2, [.int (zI nm), .int (zI sp), .int (zI li), .int (zI fd)]) := by subst hu34; subst hu33; subst hu10; exact hE
            obtain ⟨k9, hk9⟩ := va_pl_get (X := gFx cy ad jf u34) (f := u34.2.2.2.2) ha_o37
            refine va_get (C := RX3) (T := TX3) (N := 4) (ci := 2) hx hb hts (fun _ h => (List.mem_cons_of_mem _ (List.mem_append_left _ (List.mem_append_left _ (List.mem_append_left _ (List.mem_append_right _ h)))))) hown hC.1 hG.1 k9 (hk9.trans (by rw [hE_o37])) rfl 2 (by decide) (hts (.fieldLink RX9 61 "StraitSwim$Plain" "limit" "I") (List.mem_cons_of_mem _ (List.mem_append_left _ (List.mem_append_left _ (List.mem_append_left _ (List.mem_append_left _ (List.mem_append_left _ (List.mem_append_left _ (List.mem_of_getElem? (i := 10) rfl))))))))) (fun _ h9 => h9) rfl dX9_ready_106 ?_
            refine z_icmp_lt (tgt := 116) hx hb dX9_ready_109 (by decide) (by omega) (by omega) (by omega) (by omega) (fun c_38 => ?_) (fun c_38 => ?_)
            · refine z_iconst hx hb dX9_ready_116 ?_
              refine g_put (C := RX9) (T := TX9) (N := 9) (ci := 8) (ty := .boolean) hx hb hts (fun _ h => (List.mem_cons_of_mem _ (List.mem_append_right _ h))) tyX9 tyX9_ok nmX9 hown hC.1 hG hS 3 (by decide) rfl rfl 8 14 (by decide) (hts (.fieldLink RX9 37 "StraitSwim$Swim" "tooCold" "Z") (List.mem_cons_of_mem _ (List.mem_append_left _ (List.mem_append_left _ (List.mem_append_left _ (List.mem_append_left _ (List.mem_append_left _ (List.mem_append_left _ (List.mem_of_getElem? (i := 3) rfl))))))))) (fun _ h9 => h9) rfl (by decide +kernel) (nar_b (by omega)) rfl (Nat.le_of_ble_eq_true rfl) rfl (gO_14 ad _ _) dX9_ready_117 (fun u39 H locs hu39 hG hS => ?_)
              refine z_iinc (lv' := [(3, .int (zI (t + 1))), (4, .int (zI mo)), (0, .ref (ad 3)), (1, .ref a), (2, .int (zI p2))]) hx hb dX9_ready_120 hl (k := 1) rfl (by decide) rfl (fun ls hl => ?_)
              refine lv_goto (tgt := 20) hx hb dX9_ready_123 (by decide) ?_
              exact ih20 (t + 1) u39 _ _ _ (by omega) (by omega) (by have e9 : u39.2.1 20 (t + 1).toNat = x32 := (by subst hu39; subst hu34; subst hu33; subst hu10; exact up_s _ _ _); rw [e9]; omega) (by subst hu39; subst hu34; subst hu33; subst hu10; first | exact Or.inl rfl | exact Or.inr rfl) (by subst hu39; subst hu34; subst hu33; subst hu10; exact ha) (by subst hu39; subst hu34; subst hu33; subst hu10; exact hE) (by rw [hT, cRdL, if_pos (by omega), if_pos (by omega), hCC]; (repeat (first | rw [if_pos (by omega)] | rw [if_neg (by omega)])); unfold cRd1; subst hu39; subst hu34; subst hu33; subst hu10; subst_vars; rfl) hG hS (lv_sub hl [0, 2, 3, 4] rfl)
            · refine z_iconst hx hb dX9_ready_112 ?_
              refine lv_goto (tgt := 117) hx hb dX9_ready_113 (by decide) ?_
              refine g_put (C := RX9) (T := TX9) (N := 9) (ci := 8) (ty := .boolean) hx hb hts (fun _ h => (List.mem_cons_of_mem _ (List.mem_append_right _ h))) tyX9 tyX9_ok nmX9 hown hC.1 hG hS 3 (by decide) rfl rfl 8 14 (by decide) (hts (.fieldLink RX9 37 "StraitSwim$Swim" "tooCold" "Z") (List.mem_cons_of_mem _ (List.mem_append_left _ (List.mem_append_left _ (List.mem_append_left _ (List.mem_append_left _ (List.mem_append_left _ (List.mem_append_left _ (List.mem_of_getElem? (i := 3) rfl))))))))) (fun _ h9 => h9) rfl (by decide +kernel) (nar_b (by omega)) rfl (Nat.le_of_ble_eq_true rfl) rfl (gO_14 ad _ _) dX9_ready_117 (fun u40 H locs hu40 hG hS => ?_)
              refine z_iinc (lv' := [(3, .int (zI (t + 1))), (4, .int (zI mo)), (0, .ref (ad 3)), (1, .ref a), (2, .int (zI p2))]) hx hb dX9_ready_120 hl (k := 1) rfl (by decide) rfl (fun ls hl => ?_)
              refine lv_goto (tgt := 20) hx hb dX9_ready_123 (by decide) ?_
              exact ih20 (t + 1) u40 _ _ _ (by omega) (by omega) (by have e9 : u40.2.1 20 (t + 1).toNat = x32 := (by subst hu40; subst hu34; subst hu33; subst hu10; exact up_s _ _ _); rw [e9]; omega) (by subst hu40; subst hu34; subst hu33; subst hu10; first | exact Or.inl rfl | exact Or.inr rfl) (by subst hu40; subst hu34; subst hu33; subst hu10; exact ha) (by subst hu40; subst hu34; subst hu33; subst hu10; exact hE) (by rw [hT, cRdL, if_pos (by omega), if_pos (by omega), hCC]; (repeat (first | rw [if_pos (by omega)] | rw [if_neg (by omega)])); unfold cRd1; subst hu40; subst hu34; subst hu33; subst hu10; subst_vars; rfl) hG hS (lv_sub hl [0, 2, 3, 4] rfl)
  exact loop20 101 0 u3 _ _ _ (by omega) (by omega) (by have e9 : u3.2.1 20 (Int.toNat 0) = 0 := (by subst hu3; subst hu2; subst hu1; exact hc0); rw [e9]; omega) (by subst hu3; subst hu2; subst hu1; exact Or.inl rfl) (by subst hu3; subst hu2; subst hu1; exact ha) (by subst hu3; subst hu2; subst hu1; exact hE) (by subst hu3; subst hu2; subst hu1; rfl) hG hS (lv_sub hl [0, 1, 2, 3] rfl)
set_option maxHeartbeats 4000000 in
set_option maxRecDepth 100000 in
theorem kX9_ready_3_X0 (l : Launch) (D : va_G) (cy : Nat → ClassId) (ad : Nat → Nat) (jf : Nat → Int64) (A : Nat → Prop) (u : gS) (a : Nat) (nm sp li fd : Int) (p2 : Int) (ha : a ∈ u.2.2.2.1) (hE : u.2.2.2.2 a = .inr (0, [.int (zI nm), .int (zI sp), .int (zI li), .int (zI fd)])) (j_c : 0 ≤ p2 ∧ p2 ≤ 20) (j_s : 0 ≤ sp ∧ sp ≤ 20) (j_l : 0 ≤ li ∧ li ≤ 400) (j_f : 0 ≤ fd ∧ fd ≤ 40) (hc0 : u.2.1 20 0 = 0) : Met l yX9_ready wsX9_ready ({ frames := 4, cells := 0, slots := 0, locals := 96 }) (va_Pc [.ref (ad 3), .ref a, .int (zI p2)] (gB D cy ad jf A u)) (va_Qv (fun (v : gS) => v = cReady u 19 20 10 13 14 1 nm sp li fd p2) (gB D cy ad jf A) A) 0 0 A := by
  refine Met.ofW (cc := cX9_ready) (maxL := 5) (ret := none) (by decide) rfl ?_
  intro p e s m args below meth c s₁ B hml hv
  obtain ⟨rfl, hG, hC⟩ := hv
  have hx := B.exec
  have hb := B.bytes
  have hr := B.returns
  have hts := atoms_spec (ws := wsX9_ready) B.pre
  have hown : s.vm.findClass RX9 = some m.cls := findClass_of_methodNamed B.named
  have hlocks := B.notSynchronized
  have hS : va_S A s.heap s.heap [] := va_S.rf
  have hl := lv_entry ([.ref (ad 3), .ref a, .int (zI p2)]) (n := 5) (Nat.le_of_ble_eq_true rfl)
  rw [lg_entry_eq]
  generalize (lg_sl ([.ref (ad 3), .ref a, .int (zI p2)]) ++ List.replicate (5 - (lg_sl ([.ref (ad 3), .ref a, .int (zI p2)])).length) Slot.unset).toArray = ls at hl ⊢
  have hl : lv_has ls 5 [(0, .ref (ad 3)), (1, .ref a), (2, .int (zI p2))] := hl
  refine lv_aload_n hx hb dX9_ready_0 rfl (lv_at hl 0 rfl) ?_
  refine lv_aload_n hx hb dX9_ready_1 rfl (lv_at hl 1 rfl) ?_
  obtain ⟨k9, hk9⟩ := va_pl_get (X := gFx cy ad jf u) (f := u.2.2.2.2) ha
  refine va_get (C := RX0) (T := TX0) (N := 4) (ci := 0) hx hb hts (fun _ h => (List.mem_cons_of_mem _ (List.mem_append_left _ (List.mem_append_left _ (List.mem_append_left _ (List.mem_append_left _ (List.mem_append_right _ h))))))) hown hC.1 hG.1 k9 (hk9.trans (by rw [hE])) rfl 0 (by decide) (hts (.fieldLink RX9 41 "StraitSwim$Plain" "number" "I") (List.mem_cons_of_mem _ (List.mem_append_left _ (List.mem_append_left _ (List.mem_append_left _ (List.mem_append_left _ (List.mem_append_left _ (List.mem_append_left _ (List.mem_of_getElem? (i := 0) rfl))))))))) (fun _ h9 => h9) rfl dX9_ready_2 ?_
  refine g_put (C := RX9) (T := TX9) (N := 9) (ci := 8) (ty := .int) hx hb hts (fun _ h => (List.mem_cons_of_mem _ (List.mem_append_right _ h))) tyX9 tyX9_ok nmX9 hown hC.1 hG hS 3 (by decide) rfl rfl 0 10 (by decide) (hts (.fieldLink RX9 9 "StraitSwim$Swim" "number" "I") (List.mem_cons_of_mem _ (List.mem_append_left _ (List.mem_append_left _ (List.mem_append_left _ (List.mem_append_left _ (List.mem_append_left _ (List.mem_append_left _ (List.mem_of_getElem? (i := 1) rfl))))))))) (fun _ h9 => h9) rfl (by decide +kernel) rfl rfl (Nat.le_of_ble_eq_true rfl) rfl (gO_10 ad _ _) dX9_ready_5 (fun u1 H locs hu1 hG hS => ?_)
  refine lv_aload_n hx hb dX9_ready_8 rfl (lv_at hl 0 rfl) ?_
  refine z_iconst hx hb dX9_ready_9 ?_
  refine g_put (C := RX9) (T := TX9) (N := 9) (ci := 8) (ty := .int) hx hb hts (fun _ h => (List.mem_cons_of_mem _ (List.mem_append_right _ h))) tyX9 tyX9_ok nmX9 hown hC.1 hG hS 3 (by decide) rfl rfl 7 13 (by decide) (hts (.fieldLink RX9 34 "StraitSwim$Swim" "reach" "I") (List.mem_cons_of_mem _ (List.mem_append_left _ (List.mem_append_left _ (List.mem_append_left _ (List.mem_append_left _ (List.mem_append_left _ (List.mem_append_left _ (List.mem_of_getElem? (i := 2) rfl))))))))) (fun _ h9 => h9) rfl (by decide +kernel) rfl rfl (Nat.le_of_ble_eq_true rfl) rfl (gO_13 ad _ _) dX9_ready_10 (fun u2 H locs hu2 hG hS => ?_)
  refine lv_aload_n hx hb dX9_ready_13 rfl (lv_at hl 0 rfl) ?_
  refine z_iconst hx hb dX9_ready_14 ?_
  refine g_put (C := RX9) (T := TX9) (N := 9) (ci := 8) (ty := .boolean) hx hb hts (fun _ h => (List.mem_cons_of_mem _ (List.mem_append_right _ h))) tyX9 tyX9_ok nmX9 hown hC.1 hG hS 3 (by decide) rfl rfl 8 14 (by decide) (hts (.fieldLink RX9 37 "StraitSwim$Swim" "tooCold" "Z") (List.mem_cons_of_mem _ (List.mem_append_left _ (List.mem_append_left _ (List.mem_append_left _ (List.mem_append_left _ (List.mem_append_left _ (List.mem_append_left _ (List.mem_of_getElem? (i := 3) rfl))))))))) (fun _ h9 => h9) rfl (by decide +kernel) (nar_b (by omega)) rfl (Nat.le_of_ble_eq_true rfl) rfl (gO_14 ad _ _) dX9_ready_15 (fun u3 H locs hu3 hG hS => ?_)
  refine z_iconst hx hb dX9_ready_18 ?_
  refine lv_istore_n (lv' := [(3, .int (zI 0)), (0, .ref (ad 3)), (1, .ref a), (2, .int (zI p2))]) hx hb dX9_ready_19 rfl hl (by decide) rfl (fun ls hl => ?_)
  have loop20 : ∀ (n : Nat) (t : Int) (w : gS) (H : Heap) (locs : List Loc) (ls : Array Slot), (100 - t).toNat < n → (0 ≤ t ∧ t ≤ 100) → (0 ≤ w.2.1 20 t.toNat ∧ w.2.1 20 t.toNat ≤ 200 * t) → (w.1 14 = 0 ∨ w.1 14 = 1) → (a ∈ w.2.2.2.1) → (w.2.2.2.2 a = .inr (0, [.int (zI nm), .int (zI sp), .int (zI li), .int (zI fd)])) → (cRdL 19 20 13 14 1 sp li fd p2 101 0 (sI (sI (sI u 10 nm) 13 0) 14 0) = cRdL 19 20 13 14 1 sp li fd p2 n t w) → gH D cy ad jf A w H → va_S A s.heap H locs → lv_has ls 5 [(3, .int (zI t)), (0, .ref (ad 3)), (1, .ref a), (2, .int (zI p2))] → W p l e (headSpec wsX9_ready ({ frames := 4, cells := 0, slots := 0, locals := 96 })).room s m ([.ref (ad 3), .ref a, .int (zI p2)]).toArray below meth c H locs 0 0 (MQ below (va_Qv (fun (v : gS) => v = cReady u 19 20 10 13 14 1 nm sp li fd p2) (gB D cy ad jf A) A) ([.ref (ad 3), .ref a, .int (zI p2)]).toArray s 0 0 A) (F0 m 20 ls []) := by
    intro n
    induction n with
    | zero => intro t w H locs ls hm; exact absurd hm (Nat.not_lt_zero _)
    | succ n ih20 =>
      intro t w H locs ls hm ht9 hcl htc ha hE hT hG hS hl
      refine lv_iload_n hx hb dX9_ready_20 rfl (lv_at hl 0 rfl) ?_
      refine z_bipush hx hb dX9_ready_21 (by decide) ?_
      refine z_icmp_ge (tgt := 126) hx hb dX9_ready_23 (by decide) (by omega) (by omega) (by omega) (by omega) (fun c_4 => ?_) (fun c_4 => ?_)
      · exact W.vret hx hb hr (fun t9 ht9_ hW => ⟨⟨w, rfl, (by unfold cReady; rw [hT, cRdL]; (repeat (first | rw [if_pos (by omega)] | rw [if_neg (by omega)]))), gB.mk' hG hC hS ht9_ hW⟩, hS.F ht9_⟩) hS.2.2 dX9_ready_126
      · refine lv_aload_n hx hb dX9_ready_26 rfl (lv_at hl 1 rfl) ?_
        refine g_get (C := RX9) (T := TX9) (N := 9) (ci := 8) hx hb hts (fun _ h => (List.mem_cons_of_mem _ (List.mem_append_right _ h))) hown hC.1 hG 3 (by decide) rfl rfl 8 (by decide) (hts (.fieldLink RX9 37 "StraitSwim$Swim" "tooCold" "Z") (List.mem_cons_of_mem _ (List.mem_append_left _ (List.mem_append_left _ (List.mem_append_left _ (List.mem_append_left _ (List.mem_append_left _ (List.mem_append_left _ (List.mem_of_getElem? (i := 3) rfl))))))))) (fun _ h9 => h9) rfl dX9_ready_27 ?_
        refine z_if_ne (tgt := 126) hx hb dX9_ready_30 (by decide) (by omega) (by omega) (fun c_5 => ?_) (fun c_5 => ?_)
        · exact W.vret hx hb hr (fun t9 ht9_ hW => ⟨⟨w, rfl, (by unfold cReady; rw [hT, cRdL]; (repeat (first | rw [if_pos (by omega)] | rw [if_neg (by omega)]))), gB.mk' hG hC hS ht9_ hW⟩, hS.F ht9_⟩) hS.2.2 dX9_ready_126
        · refine lv_aload_n hx hb dX9_ready_33 rfl (lv_at hl 1 rfl) ?_
          refine g_get (C := RX9) (T := TX9) (N := 9) (ci := 8) hx hb hts (fun _ h => (List.mem_cons_of_mem _ (List.mem_append_right _ h))) hown hC.1 hG 3 (by decide) rfl rfl 5 (by decide) (hts (.fieldLink RX9 28 "StraitSwim$Swim" "strides" "[I") (List.mem_cons_of_mem _ (List.mem_append_left _ (List.mem_append_left _ (List.mem_append_left _ (List.mem_append_left _ (List.mem_append_left _ (List.mem_append_left _ (List.mem_of_getElem? (i := 4) rfl))))))))) (fun _ h9 => h9) rfl dX9_ready_34 ?_
          refine lv_iload_n hx hb dX9_ready_37 rfl (lv_at hl 0 rfl) ?_
          refine lv_aload_n hx hb dX9_ready_38 rfl (lv_at hl 2 rfl) ?_
          refine lv_iload_n hx hb dX9_ready_39 rfl (lv_at hl 0 rfl) ?_
          obtain ⟨k9, hk9⟩ := va_pl_get (X := gFx cy ad jf w) (f := w.2.2.2.2) ha
          refine g_calli (va_runU (As := [.int (zI t)]) (rest := [.int (zI t), .ref (ad 19)]) ⟨hx, hb, hml, hown, hts⟩ (kX3_strideIn_X0 l D cy ad jf A w a nm sp li fd t ha hE (by omega) (by omega) (by omega)) (va_cwU 1 hts gX9_ready_X3_strideIn_u44X0 rfl rfl rfl rfl (by decide +kernel) ⟨by decide, by decide⟩) (g_preD (C := RX0) hG hC hS (hk9.trans (by rw [hE])) rfl) rfl rfl hl.1 rfl (lv_room (Nat.le_of_ble_eq_true rfl)) dX9_ready_40 ⟨Nat.le_of_ble_eq_true rfl, Nat.le_of_ble_eq_true rfl⟩) hS (fun r6 u7 H locs p_8 hG hS => ?_)
          obtain ⟨rfl, he_⟩ := p_8
          rw [he_] at hG; clear he_
          obtain ⟨z9, hz9⟩ : ∃ z : Int, z = spPace 1 sp fd t := ⟨_, rfl⟩
          rw [← hz9]
          have qz9 : 0 ≤ z9 ∧ z9 ≤ 24 := by rw [hz9]; (first | omega | (unfold spAt1; split <;> omega) | (unfold spAt1; split <;> split <;> omega) | (split <;> first | omega | (unfold spAt1; split <;> omega)) | (unfold spPace spPc spAt1; split <;> (first | omega | (split <;> first | omega | (split <;> omega)))))
          refine g_iast (n := 100) hx hb hC.1 hG hS 19 (by decide) rfl rfl (by omega) (by omega) (by decide) dX9_ready_43 (fun u10 H locs hu10 hG hS => ?_)
          refine lv_aload_n hx hb dX9_ready_44 rfl (lv_at hl 1 rfl) ?_
          refine g_get (C := RX9) (T := TX9) (N := 9) (ci := 8) hx hb hts (fun _ h => (List.mem_cons_of_mem _ (List.mem_append_right _ h))) hown hC.1 hG 3 (by decide) rfl rfl 6 (by decide) (hts (.fieldLink RX9 31 "StraitSwim$Swim" "colds" "[I") (List.mem_cons_of_mem _ (List.mem_append_left _ (List.mem_append_left _ (List.mem_append_left _ (List.mem_append_left _ (List.mem_append_left _ (List.mem_append_left _ (List.mem_of_getElem? (i := 5) rfl))))))))) (fun _ h9 => h9) rfl dX9_ready_45 ?_
          refine lv_iload_n hx hb dX9_ready_48 rfl (lv_at hl 0 rfl) ?_
          refine g_iald (n := 101) hx hb hC.1 hG 20 (by decide) rfl (by omega) (by omega) (by decide) dX9_ready_49 ?_
          have e_11 : u10.2.1 20 = w.2.1 20 := by subst hu10; rfl
          rw [e_11]
          refine lv_aload_n hx hb dX9_ready_50 rfl (lv_at hl 2 rfl) ?_
          refine lv_iload_n hx hb dX9_ready_51 rfl (lv_at hl 0 rfl) ?_
          refine lv_iload_n hx hb dX9_ready_52 rfl (lv_at hl 3 rfl) ?_
          have ha_o12 : a ∈ u10.2.2.2.1 := by subst hu10; exact ha
          have hE_o12 : u10.2.2.2.2 a = .inr (0, [.int (zI nm), .int (zI sp), .int (zI li), .int (zI fd)]) := by subst hu10; exact hE
          obtain ⟨k9, hk9⟩ := va_pl_get (X := gFx cy ad jf u10) (f := u10.2.2.2.2) ha_o12
          refine g_calli (va_runU (As := [.int (zI t), .int (zI p2)]) (rest := [.int (zI (w.2.1 20 t.toNat))]) ⟨hx, hb, hml, hown, hts⟩ (kX0_coldIn_X0 l D cy ad jf A u10 a nm sp li fd t p2 ha_o12 hE_o12 (by omega) (by omega)) (va_cwO 2 hts gX9_ready_X0_coldIn_u48X0 rfl rfl rfl (List.mem_cons_of_mem _ (List.mem_append_left _ (List.mem_append_left _ (List.mem_append_left _ (List.mem_append_left _ (List.mem_append_left _ (List.mem_append_right _ (List.mem_append_right _ (List.mem_append_left _ (List.mem_of_getElem? (i := 12) rfl)))))))))) (by decide +kernel) ⟨by decide, by decide⟩) (g_preD (C := RX0) hG hC hS (hk9.trans (by rw [hE_o12])) rfl) rfl rfl hl.1 rfl (lv_room (Nat.le_of_ble_eq_true rfl)) dX9_ready_53 ⟨Nat.le_of_ble_eq_true rfl, Nat.le_of_ble_eq_true rfl⟩) hS (fun r13 u14 H locs p_15 hG hS => ?_)
          obtain ⟨rfl, he_⟩ := p_15
          rw [he_] at hG; clear he_
          obtain ⟨z16, hz16⟩ : ∃ z : Int, z = spAt1 (p2 + t / 8 - 2) := ⟨_, rfl⟩
          rw [← hz16]
          have qz16 : 1 ≤ z16 ∧ z16 ≤ 145 := by rw [hz16]; (first | omega | (unfold spAt1; split <;> omega) | (unfold spAt1; split <;> split <;> omega) | (split <;> first | omega | (unfold spAt1; split <;> omega)) | (unfold spPace spPc spAt1; split <;> (first | omega | (split <;> first | omega | (split <;> omega)))))
          refine z_iadd hx hb dX9_ready_56 ?_
          obtain ⟨mo, hmo⟩ : ∃ z : Int, z = (w.2.1 20 t.toNat) + z16 := ⟨_, rfl⟩
          rw [← hmo]
          refine lv_istore (lv' := [(4, .int (zI mo)), (3, .int (zI t)), (0, .ref (ad 3)), (1, .ref a), (2, .int (zI p2))]) hx hb dX9_ready_57 hl (by decide) rfl (fun ls hl => ?_)
          have e9 : z16 = spCold 1 p2 t := by unfold spCold; (repeat (first | rw [if_pos (by omega)] | rw [if_neg (by omega)])); all_goals (subst_vars; rfl)
          have hmo2 : mo = w.2.1 20 t.toNat + spCold 1 p2 t := by rw [hmo, e9]
          refine lv_aload_n hx hb dX9_ready_59 rfl (lv_at hl 2 rfl) ?_
          refine g_get (C := RX9) (T := TX9) (N := 9) (ci := 8) hx hb hts (fun _ h => (List.mem_cons_of_mem _ (List.mem_append_right _ h))) hown hC.1 hG 3 (by decide) rfl rfl 6 (by decide) (hts (.fieldLink RX9 31 "StraitSwim$Swim" "colds" "[I") (List.mem_cons_of_mem _ (List.mem_append_left _ (List.mem_append_left _ (List.mem_append_left _ (List.mem_append_left _ (List.mem_append_left _ (List.mem_append_left _ (List.mem_of_getElem? (i := 5) rfl))))))))) (fun _ h9 => h9) rfl dX9_ready_60 ?_
          refine lv_iload_n hx hb dX9_ready_63 rfl (lv_at hl 1 rfl) ?_
          refine z_iconst hx hb dX9_ready_64 ?_
          refine z_iadd hx hb dX9_ready_65 ?_
          refine lv_aload_n hx hb dX9_ready_66 rfl (lv_at hl 3 rfl) ?_
          refine lv_iload_n hx hb dX9_ready_67 rfl (lv_at hl 1 rfl) ?_
          have ha_o17 : a ∈ u10.2.2.2.1 := by subst hu10; exact ha
          have hE_o17 : u10.2.2.2.2 a = .inr (0, [.int (zI nm), .int (zI sp), .int (zI li), .int (zI fd)]) := by subst hu10; exact hE
          obtain ⟨k9, hk9⟩ := va_pl_get (X := gFx cy ad jf u10) (f := u10.2.2.2.2) ha_o17
          refine g_calli (va_runU (As := [.int (zI t)]) (rest := [.int (zI (t + 1)), .ref (ad 20)]) ⟨hx, hb, hml, hown, hts⟩ (kX3_feedsIn_X0 l D cy ad jf A u10 a nm sp li fd t ha_o17 hE_o17 (by omega) (by omega)) (va_cwU 1 hts gX9_ready_X3_feedsIn_u52X0 rfl rfl rfl rfl (by decide +kernel) ⟨by decide, by decide⟩) (g_preD (C := RX0) hG hC hS (hk9.trans (by rw [hE_o17])) rfl) rfl rfl hl.1 rfl (lv_room (Nat.le_of_ble_eq_true rfl)) dX9_ready_68 ⟨Nat.le_of_ble_eq_true rfl, Nat.le_of_ble_eq_true rfl⟩) hS (fun r18 u19 H locs p_20 hG hS => ?_)
          obtain ⟨⟨b21, rfl, q_22⟩, he_⟩ := p_20
          rw [he_] at hG; clear he_
          have hbb21 : 0 ≤ b21 ∧ b21 ≤ 1 := by rcases q_22 with ⟨h, _⟩ | ⟨h, _⟩ <;> omega
          refine z_if_eq (tgt := 85) hx hb dX9_ready_71 (by decide) (by omega) (by omega) (fun c_23 => ?_) (fun c_23 => ?_)
          · refine lv_iload hx hb dX9_ready_85 (lv_at hl 0 rfl) ?_
            refine g_iast (n := 101) hx hb hC.1 hG hS 20 (by decide) rfl rfl (by omega) (by omega) (by decide) dX9_ready_87 (fun u24 H locs hu24 hG hS => ?_)
            have hCC : cRdC w 20 1 fd p2 t = mo := by unfold cRdC; rw [← hmo2]; (repeat (first | rw [if_pos (by omega)] | rw [if_neg (by omega)])); all_goals (first | rfl | (subst_vars; rfl) | assumption | (symm; assumption))
            refine lv_aload_n hx hb dX9_ready_88 rfl (lv_at hl 2 rfl) ?_
            refine lv_iload_n hx hb dX9_ready_89 rfl (lv_at hl 1 rfl) ?_
            refine z_iconst hx hb dX9_ready_90 ?_
            refine z_iadd hx hb dX9_ready_91 ?_
            refine g_put (C := RX9) (T := TX9) (N := 9) (ci := 8) (ty := .int) hx hb hts (fun _ h => (List.mem_cons_of_mem _ (List.mem_append_right _ h))) tyX9 tyX9_ok nmX9 hown hC.1 hG hS 3 (by decide) rfl rfl 7 13 (by decide) (hts (.fieldLink RX9 34 "StraitSwim$Swim" "reach" "I") (List.mem_cons_of_mem _ (List.mem_append_left _ (List.mem_append_left _ (List.mem_append_left _ (List.mem_append_left _ (List.mem_append_left _ (List.mem_append_left _ (List.mem_of_getElem? (i := 2) rfl))))))))) (fun _ h9 => h9) rfl (by decide +kernel) rfl rfl (Nat.le_of_ble_eq_true rfl) rfl (gO_13 ad _ _) dX9_ready_92 (fun u25 H locs hu25 hG hS => ?_)
            refine lv_aload_n hx hb dX9_ready_95 rfl (lv_at hl 2 rfl) ?_
            refine lv_aload_n hx hb dX9_ready_96 rfl (lv_at hl 2 rfl) ?_
            refine g_get (C := RX9) (T := TX9) (N := 9) (ci := 8) hx hb hts (fun _ h => (List.mem_cons_of_mem _ (List.mem_append_right _ h))) hown hC.1 hG 3 (by decide) rfl rfl 6 (by decide) (hts (.fieldLink RX9 31 "StraitSwim$Swim" "colds" "[I") (List.mem_cons_of_mem _ (List.mem_append_left _ (List.mem_append_left _ (List.mem_append_left _ (List.mem_append_left _ (List.mem_append_left _ (List.mem_append_left _ (List.mem_of_getElem? (i := 5) rfl))))))))) (fun _ h9 => h9) rfl dX9_ready_97 ?_
            refine lv_aload_n hx hb dX9_ready_100 rfl (lv_at hl 2 rfl) ?_
            refine g_get (C := RX9) (T := TX9) (N := 9) (ci := 8) hx hb hts (fun _ h => (List.mem_cons_of_mem _ (List.mem_append_right _ h))) hown hC.1 hG 3 (by decide) rfl rfl 7 (by decide) (hts (.fieldLink RX9 34 "StraitSwim$Swim" "reach" "I") (List.mem_cons_of_mem _ (List.mem_append_left _ (List.mem_append_left _ (List.mem_append_left _ (List.mem_append_left _ (List.mem_append_left _ (List.mem_append_left _ (List.mem_of_getElem? (i := 2) rfl))))))))) (fun _ h9 => h9) rfl dX9_ready_101 ?_
            have e_26 : u25.1 13 = t + 1 := by subst hu25; subst hu24; subst hu10; rfl
            rw [e_26]
            refine g_iald (n := 101) hx hb hC.1 hG 20 (by decide) rfl (by omega) (by omega) (by decide) dX9_ready_104 ?_
            have e_27 : u25.2.1 20 = va_up (w.2.1 20) (t + 1).toNat mo := by subst hu25; subst hu24; subst hu10; rfl
            rw [e_27]
            rw [up_s]
            refine lv_aload_n hx hb dX9_ready_105 rfl (lv_at hl 3 rfl) ?_
            have ha_o28 : a ∈ u25.2.2.2.1 := by subst hu25; subst hu24; subst hu10; exact ha
            have hE_o28 : u25.2.2.2.2 a = .inr (0, [.int (zI nm), .int (zI sp), .int (zI li), .int (zI fd)]) := by subst hu25; subst hu24; subst hu10; exact hE
            obtain ⟨k9, hk9⟩ := va_pl_get (X := gFx cy ad jf u25) (f := u25.2.2.2.2) ha_o28
            refine va_get (C := RX0) (T := TX0) (N := 4) (ci := 0) hx hb hts (fun _ h => (List.mem_cons_of_mem _ (List.mem_append_left _ (List.mem_append_left _ (List.mem_append_left _ (List.mem_append_left _ (List.mem_append_right _ h))))))) hown hC.1 hG.1 k9 (hk9.trans (by rw [hE_o28])) rfl 2 (by decide) (hts (.fieldLink RX9 61 "StraitSwim$Plain" "limit" "I") (List.mem_cons_of_mem _ (List.mem_append_left _ (List.mem_append_left _ (List.mem_append_left _ (List.mem_append_left _ (List.mem_append_left _ (List.mem_append_left _ (List.mem_of_getElem? (i := 10) rfl))))))))) (fun _ h9 => h9) rfl dX9_ready_106 ?_
            refine z_icmp_lt (tgt := 116) hx hb dX9_ready_109 (by decide) (by omega) (by omega) (by omega) (by omega) (fun c_29 => ?_) (fun c_29 => ?_)
            · refine z_iconst hx hb dX9_ready_116 ?_
              refine g_put (C := RX9) (T := TX9) (N := 9) (ci := 8) (ty := .boolean) hx hb hts (fun _ h => (List.mem_cons_of_mem _ (List.mem_append_right _ h))) tyX9 tyX9_ok nmX9 hown hC.1 hG hS 3 (by decide) rfl rfl 8 14 (by decide) (hts (.fieldLink RX9 37 "StraitSwim$Swim" "tooCold" "Z") (List.mem_cons_of_mem _ (List.mem_append_left _ (List.mem_append_left _ (List.mem_append_left _ (List.mem_append_left _ (List.mem_append_left _ (List.mem_append_left _ (List.mem_of_getElem? (i := 3) rfl))))))))) (fun _ h9 => h9) rfl (by decide +kernel) (nar_b (by omega)) rfl (Nat.le_of_ble_eq_true rfl) rfl (gO_14 ad _ _) dX9_ready_117 (fun u30 H locs hu30 hG hS => ?_)
              refine z_iinc (lv' := [(3, .int (zI (t + 1))), (4, .int (zI mo)), (0, .ref (ad 3)), (1, .ref a), (2, .int (zI p2))]) hx hb dX9_ready_120 hl (k := 1) rfl (by decide) rfl (fun ls hl => ?_)
              refine lv_goto (tgt := 20) hx hb dX9_ready_123 (by decide) ?_
              exact ih20 (t + 1) u30 _ _ _ (by omega) (by omega) (by have e9 : u30.2.1 20 (t + 1).toNat = mo := (by subst hu30; subst hu25; subst hu24; subst hu10; exact up_s _ _ _); rw [e9]; omega) (by subst hu30; subst hu25; subst hu24; subst hu10; first | exact Or.inl rfl | exact Or.inr rfl) (by subst hu30; subst hu25; subst hu24; subst hu10; exact ha) (by subst hu30; subst hu25; subst hu24; subst hu10; exact hE) (by rw [hT, cRdL, if_pos (by omega), if_pos (by omega), hCC]; (repeat (first | rw [if_pos (by omega)] | rw [if_neg (by omega)])); unfold cRd1; subst hu30; subst hu25; subst hu24; subst hu10; subst_vars; rfl) hG hS (lv_sub hl [0, 2, 3, 4] rfl)
            · refine z_iconst hx hb dX9_ready_112 ?_
              refine lv_goto (tgt := 117) hx hb dX9_ready_113 (by decide) ?_
              refine g_put (C := RX9) (T := TX9) (N := 9) (ci := 8) (ty := .boolean) hx hb hts (fun _ h => (List.mem_cons_of_mem _ (List.mem_append_right _ h))) tyX9 tyX9_ok nmX9 hown hC.1 hG hS 3 (by decide) rfl rfl 8 14 (by decide) (hts (.fieldLink RX9 37 "StraitSwim$Swim" "tooCold" "Z") (List.mem_cons_of_mem _ (List.mem_append_left _ (List.mem_append_left _ (List.mem_append_left _ (List.mem_append_left _ (List.mem_append_left _ (List.mem_append_left _ (List.mem_of_getElem? (i := 3) rfl))))))))) (fun _ h9 => h9) rfl (by decide +kernel) (nar_b (by omega)) rfl (Nat.le_of_ble_eq_true rfl) rfl (gO_14 ad _ _) dX9_ready_117 (fun u31 H locs hu31 hG hS => ?_)
              refine z_iinc (lv' := [(3, .int (zI (t + 1))), (4, .int (zI mo)), (0, .ref (ad 3)), (1, .ref a), (2, .int (zI p2))]) hx hb dX9_ready_120 hl (k := 1) rfl (by decide) rfl (fun ls hl => ?_)
              refine lv_goto (tgt := 20) hx hb dX9_ready_123 (by decide) ?_
              exact ih20 (t + 1) u31 _ _ _ (by omega) (by omega) (by have e9 : u31.2.1 20 (t + 1).toNat = mo := (by subst hu31; subst hu25; subst hu24; subst hu10; exact up_s _ _ _); rw [e9]; omega) (by subst hu31; subst hu25; subst hu24; subst hu10; first | exact Or.inl rfl | exact Or.inr rfl) (by subst hu31; subst hu25; subst hu24; subst hu10; exact ha) (by subst hu31; subst hu25; subst hu24; subst hu10; exact hE) (by rw [hT, cRdL, if_pos (by omega), if_pos (by omega), hCC]; (repeat (first | rw [if_pos (by omega)] | rw [if_neg (by omega)])); unfold cRd1; subst hu31; subst hu25; subst hu24; subst hu10; subst_vars; rfl) hG hS (lv_sub hl [0, 2, 3, 4] rfl)
          · refine z_iconst hx hb dX9_ready_74 ?_
            refine lv_iload hx hb dX9_ready_75 (lv_at hl 0 rfl) ?_
            refine z_iconst hx hb dX9_ready_77 ?_
            refine z_isub hx hb dX9_ready_78 ?_
            refine va_mmax hx hb (hml.trans hl.1.symm) hown (hts (.methodLink RX9 56 Lib.Math.max.name) (List.mem_cons_of_mem _ (List.mem_append_left _ (List.mem_append_left _ (List.mem_append_left _ (List.mem_append_left _ (List.mem_append_left _ (List.mem_append_left _ (List.mem_of_getElem? (i := 6) rfl))))))))) (hts (.static Lib.Math.max.name) (List.mem_cons_of_mem _ (List.mem_append_left _ (List.mem_append_left _ (List.mem_append_left _ (List.mem_append_left _ (List.mem_append_left _ (List.mem_append_left _ (List.mem_of_getElem? (i := 7) rfl))))))))) (hts (.initialized "java/lang/Math") (List.mem_cons_of_mem _ (List.mem_append_left _ (List.mem_append_left _ (List.mem_append_left _ (List.mem_append_left _ (List.mem_append_left _ (List.mem_append_left _ (List.mem_of_getElem? (i := 8) rfl))))))))) (hts (.code Lib.Math.max.name Lib.Math.max.code 2 (some .int)) (List.mem_cons_of_mem _ (List.mem_append_left _ (List.mem_append_left _ (List.mem_append_left _ (List.mem_append_left _ (List.mem_append_left _ (List.mem_append_left _ (List.mem_of_getElem? (i := 9) rfl))))))))) (Nat.le_of_ble_eq_true rfl) (Nat.le_of_ble_eq_true rfl) (Nat.le_of_ble_eq_true rfl) (Nat.le_of_ble_eq_true rfl) dX9_ready_79 ?_
            rw [z_max (a := 0) (b := mo - 3) (by omega) (by omega) (by omega) (by omega)]
            obtain ⟨x32, hx32⟩ : ∃ z : Int, z = (if 0 < (mo - 3) then (mo - 3) else 0) := ⟨_, rfl⟩
            rw [← hx32]
            refine lv_goto (tgt := 87) hx hb dX9_ready_82 (by decide) ?_
            refine g_iast (n := 101) hx hb hC.1 hG hS 20 (by decide) rfl rfl (by omega) (by omega) (by decide) dX9_ready_87 (fun u33 H locs hu33 hG hS => ?_)
            have hCC : cRdC w 20 1 fd p2 t = x32 := by unfold cRdC; rw [← hmo2]; (repeat (first | rw [if_pos (by omega)] | rw [if_neg (by omega)])); all_goals (first | rfl | (subst_vars; rfl) | assumption | (symm; assumption))
            refine lv_aload_n hx hb dX9_ready_88 rfl (lv_at hl 2 rfl) ?_
            refine lv_iload_n hx hb dX9_ready_89 rfl (lv_at hl 1 rfl) ?_
            refine z_iconst hx hb dX9_ready_90 ?_
            refine z_iadd hx hb dX9_ready_91 ?_
            refine g_put (C := RX9) (T := TX9) (N := 9) (ci := 8) (ty := .int) hx hb hts (fun _ h => (List.mem_cons_of_mem _ (List.mem_append_right _ h))) tyX9 tyX9_ok nmX9 hown hC.1 hG hS 3 (by decide) rfl rfl 7 13 (by decide) (hts (.fieldLink RX9 34 "StraitSwim$Swim" "reach" "I") (List.mem_cons_of_mem _ (List.mem_append_left _ (List.mem_append_left _ (List.mem_append_left _ (List.mem_append_left _ (List.mem_append_left _ (List.mem_append_left _ (List.mem_of_getElem? (i := 2) rfl))))))))) (fun _ h9 => h9) rfl (by decide +kernel) rfl rfl (Nat.le_of_ble_eq_true rfl) rfl (gO_13 ad _ _) dX9_ready_92 (fun u34 H locs hu34 hG hS => ?_)
            refine lv_aload_n hx hb dX9_ready_95 rfl (lv_at hl 2 rfl) ?_
            refine lv_aload_n hx hb dX9_ready_96 rfl (lv_at hl 2 rfl) ?_
            refine g_get (C := RX9) (T := TX9) (N := 9) (ci := 8) hx hb hts (fun _ h => (List.mem_cons_of_mem _ (List.mem_append_right _ h))) hown hC.1 hG 3 (by decide) rfl rfl 6 (by decide) (hts (.fieldLink RX9 31 "StraitSwim$Swim" "colds" "[I") (List.mem_cons_of_mem _ (List.mem_append_left _ (List.mem_append_left _ (List.mem_append_left _ (List.mem_append_left _ (List.mem_append_left _ (List.mem_append_left _ (List.mem_of_getElem? (i := 5) rfl))))))))) (fun _ h9 => h9) rfl dX9_ready_97 ?_
            refine lv_aload_n hx hb dX9_ready_100 rfl (lv_at hl 2 rfl) ?_
            refine g_get (C := RX9) (T := TX9) (N := 9) (ci := 8) hx hb hts (fun _ h => (List.mem_cons_of_mem _ (List.mem_append_right _ h))) hown hC.1 hG 3 (by decide) rfl rfl 7 (by decide) (hts (.fieldLink RX9 34 "StraitSwim$Swim" "reach" "I") (List.mem_cons_of_mem _ (List.mem_append_left _ (List.mem_append_left _ (List.mem_append_left _ (List.mem_append_left _ (List.mem_append_left _ (List.mem_append_left _ (List.mem_of_getElem? (i := 2) rfl))))))))) (fun _ h9 => h9) rfl dX9_ready_101 ?_
            have e_35 : u34.1 13 = t + 1 := by subst hu34; subst hu33; subst hu10; rfl
            rw [e_35]
            refine g_iald (n := 101) hx hb hC.1 hG 20 (by decide) rfl (by omega) (by omega) (by decide) dX9_ready_104 ?_
            have e_36 : u34.2.1 20 = va_up (w.2.1 20) (t + 1).toNat x32 := by subst hu34; subst hu33; subst hu10; rfl
            rw [e_36]
            rw [up_s]
            refine lv_aload_n hx hb dX9_ready_105 rfl (lv_at hl 3 rfl) ?_
            have ha_o37 : a ∈ u34.2.2.2.1 := by subst hu34; subst hu33; subst hu10; exact ha
            have hE_o37 : u34.2.2.2.2 a = .inr (0, [.int (zI nm), .int (zI sp), .int (zI li), .int (zI fd)]) := by subst hu34; subst hu33; subst hu10; exact hE
            obtain ⟨k9, hk9⟩ := va_pl_get (X := gFx cy ad jf u34) (f := u34.2.2.2.2) ha_o37
            refine va_get (C := RX0) (T := TX0) (N := 4) (ci := 0) hx hb hts (fun _ h => (List.mem_cons_of_mem _ (List.mem_append_left _ (List.mem_append_left _ (List.mem_append_left _ (List.mem_append_left _ (List.mem_append_right _ h))))))) hown hC.1 hG.1 k9 (hk9.trans (by rw [hE_o37])) rfl 2 (by decide) (hts (.fieldLink RX9 61 "StraitSwim$Plain" "limit" "I") (List.mem_cons_of_mem _ (List.mem_append_left _ (List.mem_append_left _ (List.mem_append_left _ (List.mem_append_left _ (List.mem_append_left _ (List.mem_append_left _ (List.mem_of_getElem? (i := 10) rfl))))))))) (fun _ h9 => h9) rfl dX9_ready_106 ?_
            refine z_icmp_lt (tgt := 116) hx hb dX9_ready_109 (by decide) (by omega) (by omega) (by omega) (by omega) (fun c_38 => ?_) (fun c_38 => ?_)
            · refine z_iconst hx hb dX9_ready_116 ?_
              refine g_put (C := RX9) (T := TX9) (N := 9) (ci := 8) (ty := .boolean) hx hb hts (fun _ h => (List.mem_cons_of_mem _ (List.mem_append_right _ h))) tyX9 tyX9_ok nmX9 hown hC.1 hG hS 3 (by decide) rfl rfl 8 14 (by decide) (hts (.fieldLink RX9 37 "StraitSwim$Swim" "tooCold" "Z") (List.mem_cons_of_mem _ (List.mem_append_left _ (List.mem_append_left _ (List.mem_append_left _ (List.mem_append_left _ (List.mem_append_left _ (List.mem_append_left _ (List.mem_of_getElem? (i := 3) rfl))))))))) (fun _ h9 => h9) rfl (by decide +kernel) (nar_b (by omega)) rfl (Nat.le_of_ble_eq_true rfl) rfl (gO_14 ad _ _) dX9_ready_117 (fun u39 H locs hu39 hG hS => ?_)
              refine z_iinc (lv' := [(3, .int (zI (t + 1))), (4, .int (zI mo)), (0, .ref (ad 3)), (1, .ref a), (2, .int (zI p2))]) hx hb dX9_ready_120 hl (k := 1) rfl (by decide) rfl (fun ls hl => ?_)
              refine lv_goto (tgt := 20) hx hb dX9_ready_123 (by decide) ?_
              exact ih20 (t + 1) u39 _ _ _ (by omega) (by omega) (by have e9 : u39.2.1 20 (t + 1).toNat = x32 := (by subst hu39; subst hu34; subst hu33; subst hu10; exact up_s _ _ _); rw [e9]; omega) (by subst hu39; subst hu34; subst hu33; subst hu10; first | exact Or.inl rfl | exact Or.inr rfl) (by subst hu39; subst hu34; subst hu33; subst hu10; exact ha) (by subst hu39; subst hu34; subst hu33; subst hu10; exact hE) (by rw [hT, cRdL, if_pos (by omega), if_pos (by omega), hCC]; (repeat (first | rw [if_pos (by omega)] | rw [if_neg (by omega)])); unfold cRd1; subst hu39; subst hu34; subst hu33; subst hu10; subst_vars; rfl) hG hS (lv_sub hl [0, 2, 3, 4] rfl)
            · refine z_iconst hx hb dX9_ready_112 ?_
              refine lv_goto (tgt := 117) hx hb dX9_ready_113 (by decide) ?_
              refine g_put (C := RX9) (T := TX9) (N := 9) (ci := 8) (ty := .boolean) hx hb hts (fun _ h => (List.mem_cons_of_mem _ (List.mem_append_right _ h))) tyX9 tyX9_ok nmX9 hown hC.1 hG hS 3 (by decide) rfl rfl 8 14 (by decide) (hts (.fieldLink RX9 37 "StraitSwim$Swim" "tooCold" "Z") (List.mem_cons_of_mem _ (List.mem_append_left _ (List.mem_append_left _ (List.mem_append_left _ (List.mem_append_left _ (List.mem_append_left _ (List.mem_append_left _ (List.mem_of_getElem? (i := 3) rfl))))))))) (fun _ h9 => h9) rfl (by decide +kernel) (nar_b (by omega)) rfl (Nat.le_of_ble_eq_true rfl) rfl (gO_14 ad _ _) dX9_ready_117 (fun u40 H locs hu40 hG hS => ?_)
              refine z_iinc (lv' := [(3, .int (zI (t + 1))), (4, .int (zI mo)), (0, .ref (ad 3)), (1, .ref a), (2, .int (zI p2))]) hx hb dX9_ready_120 hl (k := 1) rfl (by decide) rfl (fun ls hl => ?_)
              refine lv_goto (tgt := 20) hx hb dX9_ready_123 (by decide) ?_
              exact ih20 (t + 1) u40 _ _ _ (by omega) (by omega) (by have e9 : u40.2.1 20 (t + 1).toNat = x32 := (by subst hu40; subst hu34; subst hu33; subst hu10; exact up_s _ _ _); rw [e9]; omega) (by subst hu40; subst hu34; subst hu33; subst hu10; first | exact Or.inl rfl | exact Or.inr rfl) (by subst hu40; subst hu34; subst hu33; subst hu10; exact ha) (by subst hu40; subst hu34; subst hu33; subst hu10; exact hE) (by rw [hT, cRdL, if_pos (by omega), if_pos (by omega), hCC]; (repeat (first | rw [if_pos (by omega)] | rw [if_neg (by omega)])); unfold cRd1; subst hu40; subst hu34; subst hu33; subst hu10; subst_vars; rfl) hG hS (lv_sub hl [0, 2, 3, 4] rfl)
  exact loop20 101 0 u3 _ _ _ (by omega) (by omega) (by have e9 : u3.2.1 20 (Int.toNat 0) = 0 := (by subst hu3; subst hu2; subst hu1; exact hc0); rw [e9]; omega) (by subst hu3; subst hu2; subst hu1; exact Or.inl rfl) (by subst hu3; subst hu2; subst hu1; exact ha) (by subst hu3; subst hu2; subst hu1; exact hE) (by subst hu3; subst hu2; subst hu1; rfl) hG hS (lv_sub hl [0, 1, 2, 3] rfl)
set_option maxHeartbeats 4000000 in
set_option maxRecDepth 100000 in
theorem kX9_ready_3_X4 (l : Launch) (D : va_G) (cy : Nat → ClassId) (ad : Nat → Nat) (jf : Nat → Int64) (A : Nat → Prop) (u : gS) (a : Nat) (nm sp li fd : Int) (p2 : Int) (ha : a ∈ u.2.2.2.1) (hE : u.2.2.2.2 a = .inr (3, [.int (zI nm), .int (zI sp), .int (zI li), .int (zI fd)])) (j_c : 0 ≤ p2 ∧ p2 ≤ 20) (j_s : 0 ≤ sp ∧ sp ≤ 20) (j_l : 0 ≤ li ∧ li ≤ 400) (j_f : 0 ≤ fd ∧ fd ≤ 40) (hc0 : u.2.1 20 0 = 0) : Met l yX9_ready wsX9_ready ({ frames := 4, cells := 0, slots := 0, locals := 96 }) (va_Pc [.ref (ad 3), .ref a, .int (zI p2)] (gB D cy ad jf A u)) (va_Qv (fun (v : gS) => v = cReady u 19 20 10 13 14 2 nm sp li fd p2) (gB D cy ad jf A) A) 0 0 A := by
  refine Met.ofW (cc := cX9_ready) (maxL := 5) (ret := none) (by decide) rfl ?_
  intro p e s m args below meth c s₁ B hml hv
  obtain ⟨rfl, hG, hC⟩ := hv
  have hx := B.exec
  have hb := B.bytes
  have hr := B.returns
  have hts := atoms_spec (ws := wsX9_ready) B.pre
  have hown : s.vm.findClass RX9 = some m.cls := findClass_of_methodNamed B.named
  have hlocks := B.notSynchronized
  have hS : va_S A s.heap s.heap [] := va_S.rf
  have hl := lv_entry ([.ref (ad 3), .ref a, .int (zI p2)]) (n := 5) (Nat.le_of_ble_eq_true rfl)
  rw [lg_entry_eq]
  generalize (lg_sl ([.ref (ad 3), .ref a, .int (zI p2)]) ++ List.replicate (5 - (lg_sl ([.ref (ad 3), .ref a, .int (zI p2)])).length) Slot.unset).toArray = ls at hl ⊢
  have hl : lv_has ls 5 [(0, .ref (ad 3)), (1, .ref a), (2, .int (zI p2))] := hl
  refine lv_aload_n hx hb dX9_ready_0 rfl (lv_at hl 0 rfl) ?_
  refine lv_aload_n hx hb dX9_ready_1 rfl (lv_at hl 1 rfl) ?_
  obtain ⟨k9, hk9⟩ := va_pl_get (X := gFx cy ad jf u) (f := u.2.2.2.2) ha
  refine va_get (C := RX4) (T := TX4) (N := 4) (ci := 3) hx hb hts (fun _ h => (List.mem_cons_of_mem _ (List.mem_append_left _ (List.mem_append_left _ (List.mem_append_right _ h))))) hown hC.1 hG.1 k9 (hk9.trans (by rw [hE])) rfl 0 (by decide) (hts (.fieldLink RX9 41 "StraitSwim$Plain" "number" "I") (List.mem_cons_of_mem _ (List.mem_append_left _ (List.mem_append_left _ (List.mem_append_left _ (List.mem_append_left _ (List.mem_append_left _ (List.mem_append_left _ (List.mem_of_getElem? (i := 0) rfl))))))))) (fun _ h9 => h9) rfl dX9_ready_2 ?_
  refine g_put (C := RX9) (T := TX9) (N := 9) (ci := 8) (ty := .int) hx hb hts (fun _ h => (List.mem_cons_of_mem _ (List.mem_append_right _ h))) tyX9 tyX9_ok nmX9 hown hC.1 hG hS 3 (by decide) rfl rfl 0 10 (by decide) (hts (.fieldLink RX9 9 "StraitSwim$Swim" "number" "I") (List.mem_cons_of_mem _ (List.mem_append_left _ (List.mem_append_left _ (List.mem_append_left _ (List.mem_append_left _ (List.mem_append_left _ (List.mem_append_left _ (List.mem_of_getElem? (i := 1) rfl))))))))) (fun _ h9 => h9) rfl (by decide +kernel) rfl rfl (Nat.le_of_ble_eq_true rfl) rfl (gO_10 ad _ _) dX9_ready_5 (fun u1 H locs hu1 hG hS => ?_)
  refine lv_aload_n hx hb dX9_ready_8 rfl (lv_at hl 0 rfl) ?_
  refine z_iconst hx hb dX9_ready_9 ?_
  refine g_put (C := RX9) (T := TX9) (N := 9) (ci := 8) (ty := .int) hx hb hts (fun _ h => (List.mem_cons_of_mem _ (List.mem_append_right _ h))) tyX9 tyX9_ok nmX9 hown hC.1 hG hS 3 (by decide) rfl rfl 7 13 (by decide) (hts (.fieldLink RX9 34 "StraitSwim$Swim" "reach" "I") (List.mem_cons_of_mem _ (List.mem_append_left _ (List.mem_append_left _ (List.mem_append_left _ (List.mem_append_left _ (List.mem_append_left _ (List.mem_append_left _ (List.mem_of_getElem? (i := 2) rfl))))))))) (fun _ h9 => h9) rfl (by decide +kernel) rfl rfl (Nat.le_of_ble_eq_true rfl) rfl (gO_13 ad _ _) dX9_ready_10 (fun u2 H locs hu2 hG hS => ?_)
  refine lv_aload_n hx hb dX9_ready_13 rfl (lv_at hl 0 rfl) ?_
  refine z_iconst hx hb dX9_ready_14 ?_
  refine g_put (C := RX9) (T := TX9) (N := 9) (ci := 8) (ty := .boolean) hx hb hts (fun _ h => (List.mem_cons_of_mem _ (List.mem_append_right _ h))) tyX9 tyX9_ok nmX9 hown hC.1 hG hS 3 (by decide) rfl rfl 8 14 (by decide) (hts (.fieldLink RX9 37 "StraitSwim$Swim" "tooCold" "Z") (List.mem_cons_of_mem _ (List.mem_append_left _ (List.mem_append_left _ (List.mem_append_left _ (List.mem_append_left _ (List.mem_append_left _ (List.mem_append_left _ (List.mem_of_getElem? (i := 3) rfl))))))))) (fun _ h9 => h9) rfl (by decide +kernel) (nar_b (by omega)) rfl (Nat.le_of_ble_eq_true rfl) rfl (gO_14 ad _ _) dX9_ready_15 (fun u3 H locs hu3 hG hS => ?_)
  refine z_iconst hx hb dX9_ready_18 ?_
  refine lv_istore_n (lv' := [(3, .int (zI 0)), (0, .ref (ad 3)), (1, .ref a), (2, .int (zI p2))]) hx hb dX9_ready_19 rfl hl (by decide) rfl (fun ls hl => ?_)
  have loop20 : ∀ (n : Nat) (t : Int) (w : gS) (H : Heap) (locs : List Loc) (ls : Array Slot), (100 - t).toNat < n → (0 ≤ t ∧ t ≤ 100) → (0 ≤ w.2.1 20 t.toNat ∧ w.2.1 20 t.toNat ≤ 200 * t) → (w.1 14 = 0 ∨ w.1 14 = 1) → (a ∈ w.2.2.2.1) → (w.2.2.2.2 a = .inr (3, [.int (zI nm), .int (zI sp), .int (zI li), .int (zI fd)])) → (cRdL 19 20 13 14 2 sp li fd p2 101 0 (sI (sI (sI u 10 nm) 13 0) 14 0) = cRdL 19 20 13 14 2 sp li fd p2 n t w) → gH D cy ad jf A w H → va_S A s.heap H locs → lv_has ls 5 [(3, .int (zI t)), (0, .ref (ad 3)), (1, .ref a), (2, .int (zI p2))] → W p l e (headSpec wsX9_ready ({ frames := 4, cells := 0, slots := 0, locals := 96 })).room s m ([.ref (ad 3), .ref a, .int (zI p2)]).toArray below meth c H locs 0 0 (MQ below (va_Qv (fun (v : gS) => v = cReady u 19 20 10 13 14 2 nm sp li fd p2) (gB D cy ad jf A) A) ([.ref (ad 3), .ref a, .int (zI p2)]).toArray s 0 0 A) (F0 m 20 ls []) := by
    intro n
    induction n with
    | zero => intro t w H locs ls hm; exact absurd hm (Nat.not_lt_zero _)
    | succ n ih20 =>
      intro t w H locs ls hm ht9 hcl htc ha hE hT hG hS hl
      refine lv_iload_n hx hb dX9_ready_20 rfl (lv_at hl 0 rfl) ?_
      refine z_bipush hx hb dX9_ready_21 (by decide) ?_
      refine z_icmp_ge (tgt := 126) hx hb dX9_ready_23 (by decide) (by omega) (by omega) (by omega) (by omega) (fun c_4 => ?_) (fun c_4 => ?_)
      · exact W.vret hx hb hr (fun t9 ht9_ hW => ⟨⟨w, rfl, (by unfold cReady; rw [hT, cRdL]; (repeat (first | rw [if_pos (by omega)] | rw [if_neg (by omega)]))), gB.mk' hG hC hS ht9_ hW⟩, hS.F ht9_⟩) hS.2.2 dX9_ready_126
      · refine lv_aload_n hx hb dX9_ready_26 rfl (lv_at hl 1 rfl) ?_
        refine g_get (C := RX9) (T := TX9) (N := 9) (ci := 8) hx hb hts (fun _ h => (List.mem_cons_of_mem _ (List.mem_append_right _ h))) hown hC.1 hG 3 (by decide) rfl rfl 8 (by decide) (hts (.fieldLink RX9 37 "StraitSwim$Swim" "tooCold" "Z") (List.mem_cons_of_mem _ (List.mem_append_left _ (List.mem_append_left _ (List.mem_append_left _ (List.mem_append_left _ (List.mem_append_left _ (List.mem_append_left _ (List.mem_of_getElem? (i := 3) rfl))))))))) (fun _ h9 => h9) rfl dX9_ready_27 ?_
        refine z_if_ne (tgt := 126) hx hb dX9_ready_30 (by decide) (by omega) (by omega) (fun c_5 => ?_) (fun c_5 => ?_)
        · exact W.vret hx hb hr (fun t9 ht9_ hW => ⟨⟨w, rfl, (by unfold cReady; rw [hT, cRdL]; (repeat (first | rw [if_pos (by omega)] | rw [if_neg (by omega)]))), gB.mk' hG hC hS ht9_ hW⟩, hS.F ht9_⟩) hS.2.2 dX9_ready_126
        · refine lv_aload_n hx hb dX9_ready_33 rfl (lv_at hl 1 rfl) ?_
          refine g_get (C := RX9) (T := TX9) (N := 9) (ci := 8) hx hb hts (fun _ h => (List.mem_cons_of_mem _ (List.mem_append_right _ h))) hown hC.1 hG 3 (by decide) rfl rfl 5 (by decide) (hts (.fieldLink RX9 28 "StraitSwim$Swim" "strides" "[I") (List.mem_cons_of_mem _ (List.mem_append_left _ (List.mem_append_left _ (List.mem_append_left _ (List.mem_append_left _ (List.mem_append_left _ (List.mem_append_left _ (List.mem_of_getElem? (i := 4) rfl))))))))) (fun _ h9 => h9) rfl dX9_ready_34 ?_
          refine lv_iload_n hx hb dX9_ready_37 rfl (lv_at hl 0 rfl) ?_
          refine lv_aload_n hx hb dX9_ready_38 rfl (lv_at hl 2 rfl) ?_
          refine lv_iload_n hx hb dX9_ready_39 rfl (lv_at hl 0 rfl) ?_
          obtain ⟨k9, hk9⟩ := va_pl_get (X := gFx cy ad jf w) (f := w.2.2.2.2) ha
          refine g_calli (va_runU (As := [.int (zI t)]) (rest := [.int (zI t), .ref (ad 19)]) ⟨hx, hb, hml, hown, hts⟩ (kX3_strideIn_X4 l D cy ad jf A w a nm sp li fd t ha hE (by omega) (by omega) (by omega)) (va_cwU 1 hts gX9_ready_X3_strideIn_u44X4 rfl rfl rfl rfl (by decide +kernel) ⟨by decide, by decide⟩) (g_preD (C := RX4) hG hC hS (hk9.trans (by rw [hE])) rfl) rfl rfl hl.1 rfl (lv_room (Nat.le_of_ble_eq_true rfl)) dX9_ready_40 ⟨Nat.le_of_ble_eq_true rfl, Nat.le_of_ble_eq_true rfl⟩) hS (fun r6 u7 H locs p_8 hG hS => ?_)
          obtain ⟨rfl, he_⟩ := p_8
          rw [he_] at hG; clear he_
          obtain ⟨z9, hz9⟩ : ∃ z : Int, z = spPace 2 sp fd t := ⟨_, rfl⟩
          rw [← hz9]
          have qz9 : 0 ≤ z9 ∧ z9 ≤ 24 := by rw [hz9]; (first | omega | (unfold spAt1; split <;> omega) | (unfold spAt1; split <;> split <;> omega) | (split <;> first | omega | (unfold spAt1; split <;> omega)) | (unfold spPace spPc spAt1; split <;> (first | omega | (split <;> first | omega | (split <;> omega)))))
          refine g_iast (n := 100) hx hb hC.1 hG hS 19 (by decide) rfl rfl (by omega) (by omega) (by decide) dX9_ready_43 (fun u10 H locs hu10 hG hS => ?_)
          refine lv_aload_n hx hb dX9_ready_44 rfl (lv_at hl 1 rfl) ?_
          refine g_get (C := RX9) (T := TX9) (N := 9) (ci := 8) hx hb hts (fun _ h => (List.mem_cons_of_mem _ (List.mem_append_right _ h))) hown hC.1 hG 3 (by decide) rfl rfl 6 (by decide) (hts (.fieldLink RX9 31 "StraitSwim$Swim" "colds" "[I") (List.mem_cons_of_mem _ (List.mem_append_left _ (List.mem_append_left _ (List.mem_append_left _ (List.mem_append_left _ (List.mem_append_left _ (List.mem_append_left _ (List.mem_of_getElem? (i := 5) rfl))))))))) (fun _ h9 => h9) rfl dX9_ready_45 ?_
          refine lv_iload_n hx hb dX9_ready_48 rfl (lv_at hl 0 rfl) ?_
          refine g_iald (n := 101) hx hb hC.1 hG 20 (by decide) rfl (by omega) (by omega) (by decide) dX9_ready_49 ?_
          have e_11 : u10.2.1 20 = w.2.1 20 := by subst hu10; rfl
          rw [e_11]
          refine lv_aload_n hx hb dX9_ready_50 rfl (lv_at hl 2 rfl) ?_
          refine lv_iload_n hx hb dX9_ready_51 rfl (lv_at hl 0 rfl) ?_
          refine lv_iload_n hx hb dX9_ready_52 rfl (lv_at hl 3 rfl) ?_
          have ha_o12 : a ∈ u10.2.2.2.1 := by subst hu10; exact ha
          have hE_o12 : u10.2.2.2.2 a = .inr (3, [.int (zI nm), .int (zI sp), .int (zI li), .int (zI fd)]) := by subst hu10; exact hE
          obtain ⟨k9, hk9⟩ := va_pl_get (X := gFx cy ad jf u10) (f := u10.2.2.2.2) ha_o12
          refine g_calli (va_runU (As := [.int (zI t), .int (zI p2)]) (rest := [.int (zI (w.2.1 20 t.toNat))]) ⟨hx, hb, hml, hown, hts⟩ (kX3_coldIn_X4 l D cy ad jf A u10 a nm sp li fd t p2 ha_o12 hE_o12 (by omega) (by omega)) (va_cwU 2 hts gX9_ready_X3_coldIn_u48X4 rfl rfl rfl rfl (by decide +kernel) ⟨by decide, by decide⟩) (g_preD (C := RX4) hG hC hS (hk9.trans (by rw [hE_o12])) rfl) rfl rfl hl.1 rfl (lv_room (Nat.le_of_ble_eq_true rfl)) dX9_ready_53 ⟨Nat.le_of_ble_eq_true rfl, Nat.le_of_ble_eq_true rfl⟩) hS (fun r13 u14 H locs p_15 hG hS => ?_)
          obtain ⟨rfl, he_⟩ := p_15
          rw [he_] at hG; clear he_
          obtain ⟨z16, hz16⟩ : ∃ z : Int, z = p2 + t / 8 := ⟨_, rfl⟩
          rw [← hz16]
          have qz16 : 0 ≤ z16 ∧ z16 ≤ 145 := by rw [hz16]; (first | omega | (unfold spAt1; split <;> omega) | (unfold spAt1; split <;> split <;> omega) | (split <;> first | omega | (unfold spAt1; split <;> omega)) | (unfold spPace spPc spAt1; split <;> (first | omega | (split <;> first | omega | (split <;> omega)))))
          refine z_iadd hx hb dX9_ready_56 ?_
          obtain ⟨mo, hmo⟩ : ∃ z : Int, z = (w.2.1 20 t.toNat) + z16 := ⟨_, rfl⟩
          rw [← hmo]
          refine lv_istore (lv' := [(4, .int (zI mo)), (3, .int (zI t)), (0, .ref (ad 3)), (1, .ref a), (2, .int (zI p2))]) hx hb dX9_ready_57 hl (by decide) rfl (fun ls hl => ?_)
          have e9 : z16 = spCold 2 p2 t := by unfold spCold; (repeat (first | rw [if_pos (by omega)] | rw [if_neg (by omega)])); all_goals (subst_vars; rfl)
          have hmo2 : mo = w.2.1 20 t.toNat + spCold 2 p2 t := by rw [hmo, e9]
          refine lv_aload_n hx hb dX9_ready_59 rfl (lv_at hl 2 rfl) ?_
          refine g_get (C := RX9) (T := TX9) (N := 9) (ci := 8) hx hb hts (fun _ h => (List.mem_cons_of_mem _ (List.mem_append_right _ h))) hown hC.1 hG 3 (by decide) rfl rfl 6 (by decide) (hts (.fieldLink RX9 31 "StraitSwim$Swim" "colds" "[I") (List.mem_cons_of_mem _ (List.mem_append_left _ (List.mem_append_left _ (List.mem_append_left _ (List.mem_append_left _ (List.mem_append_left _ (List.mem_append_left _ (List.mem_of_getElem? (i := 5) rfl))))))))) (fun _ h9 => h9) rfl dX9_ready_60 ?_
          refine lv_iload_n hx hb dX9_ready_63 rfl (lv_at hl 1 rfl) ?_
          refine z_iconst hx hb dX9_ready_64 ?_
          refine z_iadd hx hb dX9_ready_65 ?_
          refine lv_aload_n hx hb dX9_ready_66 rfl (lv_at hl 3 rfl) ?_
          refine lv_iload_n hx hb dX9_ready_67 rfl (lv_at hl 1 rfl) ?_
          have ha_o17 : a ∈ u10.2.2.2.1 := by subst hu10; exact ha
          have hE_o17 : u10.2.2.2.2 a = .inr (3, [.int (zI nm), .int (zI sp), .int (zI li), .int (zI fd)]) := by subst hu10; exact hE
          obtain ⟨k9, hk9⟩ := va_pl_get (X := gFx cy ad jf u10) (f := u10.2.2.2.2) ha_o17
          refine g_calli (va_runU (As := [.int (zI t)]) (rest := [.int (zI (t + 1)), .ref (ad 20)]) ⟨hx, hb, hml, hown, hts⟩ (kX3_feedsIn_X4 l D cy ad jf A u10 a nm sp li fd t ha_o17 hE_o17 (by omega) (by omega)) (va_cwU 1 hts gX9_ready_X3_feedsIn_u52X4 rfl rfl rfl rfl (by decide +kernel) ⟨by decide, by decide⟩) (g_preD (C := RX4) hG hC hS (hk9.trans (by rw [hE_o17])) rfl) rfl rfl hl.1 rfl (lv_room (Nat.le_of_ble_eq_true rfl)) dX9_ready_68 ⟨Nat.le_of_ble_eq_true rfl, Nat.le_of_ble_eq_true rfl⟩) hS (fun r18 u19 H locs p_20 hG hS => ?_)
          obtain ⟨⟨b21, rfl, q_22⟩, he_⟩ := p_20
          rw [he_] at hG; clear he_
          have hbb21 : 0 ≤ b21 ∧ b21 ≤ 1 := by rcases q_22 with ⟨h, _⟩ | ⟨h, _⟩ <;> omega
          refine z_if_eq (tgt := 85) hx hb dX9_ready_71 (by decide) (by omega) (by omega) (fun c_23 => ?_) (fun c_23 => ?_)
          · refine lv_iload hx hb dX9_ready_85 (lv_at hl 0 rfl) ?_
            refine g_iast (n := 101) hx hb hC.1 hG hS 20 (by decide) rfl rfl (by omega) (by omega) (by decide) dX9_ready_87 (fun u24 H locs hu24 hG hS => ?_)
            have hCC : cRdC w 20 2 fd p2 t = mo := by unfold cRdC; rw [← hmo2]; (repeat (first | rw [if_pos (by omega)] | rw [if_neg (by omega)])); all_goals (first | rfl | (subst_vars; rfl) | assumption | (symm; assumption))
            refine lv_aload_n hx hb dX9_ready_88 rfl (lv_at hl 2 rfl) ?_
            refine lv_iload_n hx hb dX9_ready_89 rfl (lv_at hl 1 rfl) ?_
            refine z_iconst hx hb dX9_ready_90 ?_
            refine z_iadd hx hb dX9_ready_91 ?_
            refine g_put (C := RX9) (T := TX9) (N := 9) (ci := 8) (ty := .int) hx hb hts (fun _ h => (List.mem_cons_of_mem _ (List.mem_append_right _ h))) tyX9 tyX9_ok nmX9 hown hC.1 hG hS 3 (by decide) rfl rfl 7 13 (by decide) (hts (.fieldLink RX9 34 "StraitSwim$Swim" "reach" "I") (List.mem_cons_of_mem _ (List.mem_append_left _ (List.mem_append_left _ (List.mem_append_left _ (List.mem_append_left _ (List.mem_append_left _ (List.mem_append_left _ (List.mem_of_getElem? (i := 2) rfl))))))))) (fun _ h9 => h9) rfl (by decide +kernel) rfl rfl (Nat.le_of_ble_eq_true rfl) rfl (gO_13 ad _ _) dX9_ready_92 (fun u25 H locs hu25 hG hS => ?_)
            refine lv_aload_n hx hb dX9_ready_95 rfl (lv_at hl 2 rfl) ?_
            refine lv_aload_n hx hb dX9_ready_96 rfl (lv_at hl 2 rfl) ?_
            refine g_get (C := RX9) (T := TX9) (N := 9) (ci := 8) hx hb hts (fun _ h => (List.mem_cons_of_mem _ (List.mem_append_right _ h))) hown hC.1 hG 3 (by decide) rfl rfl 6 (by decide) (hts (.fieldLink RX9 31 "StraitSwim$Swim" "colds" "[I") (List.mem_cons_of_mem _ (List.mem_append_left _ (List.mem_append_left _ (List.mem_append_left _ (List.mem_append_left _ (List.mem_append_left _ (List.mem_append_left _ (List.mem_of_getElem? (i := 5) rfl))))))))) (fun _ h9 => h9) rfl dX9_ready_97 ?_
            refine lv_aload_n hx hb dX9_ready_100 rfl (lv_at hl 2 rfl) ?_
            refine g_get (C := RX9) (T := TX9) (N := 9) (ci := 8) hx hb hts (fun _ h => (List.mem_cons_of_mem _ (List.mem_append_right _ h))) hown hC.1 hG 3 (by decide) rfl rfl 7 (by decide) (hts (.fieldLink RX9 34 "StraitSwim$Swim" "reach" "I") (List.mem_cons_of_mem _ (List.mem_append_left _ (List.mem_append_left _ (List.mem_append_left _ (List.mem_append_left _ (List.mem_append_left _ (List.mem_append_left _ (List.mem_of_getElem? (i := 2) rfl))))))))) (fun _ h9 => h9) rfl dX9_ready_101 ?_
            have e_26 : u25.1 13 = t + 1 := by subst hu25; subst hu24; subst hu10; rfl
            rw [e_26]
            refine g_iald (n := 101) hx hb hC.1 hG 20 (by decide) rfl (by omega) (by omega) (by decide) dX9_ready_104 ?_
            have e_27 : u25.2.1 20 = va_up (w.2.1 20) (t + 1).toNat mo := by subst hu25; subst hu24; subst hu10; rfl
            rw [e_27]
            rw [up_s]
            refine lv_aload_n hx hb dX9_ready_105 rfl (lv_at hl 3 rfl) ?_
            have ha_o28 : a ∈ u25.2.2.2.1 := by subst hu25; subst hu24; subst hu10; exact ha
            have hE_o28 : u25.2.2.2.2 a = .inr (3, [.int (zI nm), .int (zI sp), .int (zI li), .int (zI fd)]) := by subst hu25; subst hu24; subst hu10; exact hE
            obtain ⟨k9, hk9⟩ := va_pl_get (X := gFx cy ad jf u25) (f := u25.2.2.2.2) ha_o28
            refine va_get (C := RX4) (T := TX4) (N := 4) (ci := 3) hx hb hts (fun _ h => (List.mem_cons_of_mem _ (List.mem_append_left _ (List.mem_append_left _ (List.mem_append_right _ h))))) hown hC.1 hG.1 k9 (hk9.trans (by rw [hE_o28])) rfl 2 (by decide) (hts (.fieldLink RX9 61 "StraitSwim$Plain" "limit" "I") (List.mem_cons_of_mem _ (List.mem_append_left _ (List.mem_append_left _ (List.mem_append_left _ (List.mem_append_left _ (List.mem_append_left _ (List.mem_append_left _ (List.mem_of_getElem? (i := 10) rfl))))))))) (fun _ h9 => h9) rfl dX9_ready_106 ?_
            refine z_icmp_lt (tgt := 116) hx hb dX9_ready_109 (by decide) (by omega) (by omega) (by omega) (by omega) (fun c_29 => ?_) (fun c_29 => ?_)
            · refine z_iconst hx hb dX9_ready_116 ?_
              refine g_put (C := RX9) (T := TX9) (N := 9) (ci := 8) (ty := .boolean) hx hb hts (fun _ h => (List.mem_cons_of_mem _ (List.mem_append_right _ h))) tyX9 tyX9_ok nmX9 hown hC.1 hG hS 3 (by decide) rfl rfl 8 14 (by decide) (hts (.fieldLink RX9 37 "StraitSwim$Swim" "tooCold" "Z") (List.mem_cons_of_mem _ (List.mem_append_left _ (List.mem_append_left _ (List.mem_append_left _ (List.mem_append_left _ (List.mem_append_left _ (List.mem_append_left _ (List.mem_of_getElem? (i := 3) rfl))))))))) (fun _ h9 => h9) rfl (by decide +kernel) (nar_b (by omega)) rfl (Nat.le_of_ble_eq_true rfl) rfl (gO_14 ad _ _) dX9_ready_117 (fun u30 H locs hu30 hG hS => ?_)
              refine z_iinc (lv' := [(3, .int (zI (t + 1))), (4, .int (zI mo)), (0, .ref (ad 3)), (1, .ref a), (2, .int (zI p2))]) hx hb dX9_ready_120 hl (k := 1) rfl (by decide) rfl (fun ls hl => ?_)
              refine lv_goto (tgt := 20) hx hb dX9_ready_123 (by decide) ?_
              exact ih20 (t + 1) u30 _ _ _ (by omega) (by omega) (by have e9 : u30.2.1 20 (t + 1).toNat = mo := (by subst hu30; subst hu25; subst hu24; subst hu10; exact up_s _ _ _); rw [e9]; omega) (by subst hu30; subst hu25; subst hu24; subst hu10; first | exact Or.inl rfl | exact Or.inr rfl) (by subst hu30; subst hu25; subst hu24; subst hu10; exact ha) (by subst hu30; subst hu25; subst hu24; subst hu10; exact hE) (by rw [hT, cRdL, if_pos (by omega), if_pos (by omega), hCC]; (repeat (first | rw [if_pos (by omega)] | rw [if_neg (by omega)])); unfold cRd1; subst hu30; subst hu25; subst hu24; subst hu10; subst_vars; rfl) hG hS (lv_sub hl [0, 2, 3, 4] rfl)
            · refine z_iconst hx hb dX9_ready_112 ?_
              refine lv_goto (tgt := 117) hx hb dX9_ready_113 (by decide) ?_
              refine g_put (C := RX9) (T := TX9) (N := 9) (ci := 8) (ty := .boolean) hx hb hts (fun _ h => (List.mem_cons_of_mem _ (List.mem_append_right _ h))) tyX9 tyX9_ok nmX9 hown hC.1 hG hS 3 (by decide) rfl rfl 8 14 (by decide) (hts (.fieldLink RX9 37 "StraitSwim$Swim" "tooCold" "Z") (List.mem_cons_of_mem _ (List.mem_append_left _ (List.mem_append_left _ (List.mem_append_left _ (List.mem_append_left _ (List.mem_append_left _ (List.mem_append_left _ (List.mem_of_getElem? (i := 3) rfl))))))))) (fun _ h9 => h9) rfl (by decide +kernel) (nar_b (by omega)) rfl (Nat.le_of_ble_eq_true rfl) rfl (gO_14 ad _ _) dX9_ready_117 (fun u31 H locs hu31 hG hS => ?_)
              refine z_iinc (lv' := [(3, .int (zI (t + 1))), (4, .int (zI mo)), (0, .ref (ad 3)), (1, .ref a), (2, .int (zI p2))]) hx hb dX9_ready_120 hl (k := 1) rfl (by decide) rfl (fun ls hl => ?_)
              refine lv_goto (tgt := 20) hx hb dX9_ready_123 (by decide) ?_
              exact ih20 (t + 1) u31 _ _ _ (by omega) (by omega) (by have e9 : u31.2.1 20 (t + 1).toNat = mo := (by subst hu31; subst hu25; subst hu24; subst hu10; exact up_s _ _ _); rw [e9]; omega) (by subst hu31; subst hu25; subst hu24; subst hu10; first | exact Or.inl rfl | exact Or.inr rfl) (by subst hu31; subst hu25; subst hu24; subst hu10; exact ha) (by subst hu31; subst hu25; subst hu24; subst hu10; exact hE) (by rw [hT, cRdL, if_pos (by omega), if_pos (by omega), hCC]; (repeat (first | rw [if_pos (by omega)] | rw [if_neg (by omega)])); unfold cRd1; subst hu31; subst hu25; subst hu24; subst hu10; subst_vars; rfl) hG hS (lv_sub hl [0, 2, 3, 4] rfl)
          · refine z_iconst hx hb dX9_ready_74 ?_
            refine lv_iload hx hb dX9_ready_75 (lv_at hl 0 rfl) ?_
            refine z_iconst hx hb dX9_ready_77 ?_
            refine z_isub hx hb dX9_ready_78 ?_
            refine va_mmax hx hb (hml.trans hl.1.symm) hown (hts (.methodLink RX9 56 Lib.Math.max.name) (List.mem_cons_of_mem _ (List.mem_append_left _ (List.mem_append_left _ (List.mem_append_left _ (List.mem_append_left _ (List.mem_append_left _ (List.mem_append_left _ (List.mem_of_getElem? (i := 6) rfl))))))))) (hts (.static Lib.Math.max.name) (List.mem_cons_of_mem _ (List.mem_append_left _ (List.mem_append_left _ (List.mem_append_left _ (List.mem_append_left _ (List.mem_append_left _ (List.mem_append_left _ (List.mem_of_getElem? (i := 7) rfl))))))))) (hts (.initialized "java/lang/Math") (List.mem_cons_of_mem _ (List.mem_append_left _ (List.mem_append_left _ (List.mem_append_left _ (List.mem_append_left _ (List.mem_append_left _ (List.mem_append_left _ (List.mem_of_getElem? (i := 8) rfl))))))))) (hts (.code Lib.Math.max.name Lib.Math.max.code 2 (some .int)) (List.mem_cons_of_mem _ (List.mem_append_left _ (List.mem_append_left _ (List.mem_append_left _ (List.mem_append_left _ (List.mem_append_left _ (List.mem_append_left _ (List.mem_of_getElem? (i := 9) rfl))))))))) (Nat.le_of_ble_eq_true rfl) (Nat.le_of_ble_eq_true rfl) (Nat.le_of_ble_eq_true rfl) (Nat.le_of_ble_eq_true rfl) dX9_ready_79 ?_
            rw [z_max (a := 0) (b := mo - 3) (by omega) (by omega) (by omega) (by omega)]
            obtain ⟨x32, hx32⟩ : ∃ z : Int, z = (if 0 < (mo - 3) then (mo - 3) else 0) := ⟨_, rfl⟩
            rw [← hx32]
            refine lv_goto (tgt := 87) hx hb dX9_ready_82 (by decide) ?_
            refine g_iast (n := 101) hx hb hC.1 hG hS 20 (by decide) rfl rfl (by omega) (by omega) (by decide) dX9_ready_87 (fun u33 H locs hu33 hG hS => ?_)
            have hCC : cRdC w 20 2 fd p2 t = x32 := by unfold cRdC; rw [← hmo2]; (repeat (first | rw [if_pos (by omega)] | rw [if_neg (by omega)])); all_goals (first | rfl | (subst_vars; rfl) | assumption | (symm; assumption))
            refine lv_aload_n hx hb dX9_ready_88 rfl (lv_at hl 2 rfl) ?_
            refine lv_iload_n hx hb dX9_ready_89 rfl (lv_at hl 1 rfl) ?_
            refine z_iconst hx hb dX9_ready_90 ?_
            refine z_iadd hx hb dX9_ready_91 ?_
            refine g_put (C := RX9) (T := TX9) (N := 9) (ci := 8) (ty := .int) hx hb hts (fun _ h => (List.mem_cons_of_mem _ (List.mem_append_right _ h))) tyX9 tyX9_ok nmX9 hown hC.1 hG hS 3 (by decide) rfl rfl 7 13 (by decide) (hts (.fieldLink RX9 34 "StraitSwim$Swim" "reach" "I") (List.mem_cons_of_mem _ (List.mem_append_left _ (List.mem_append_left _ (List.mem_append_left _ (List.mem_append_left _ (List.mem_append_left _ (List.mem_append_left _ (List.mem_of_getElem? (i := 2) rfl))))))))) (fun _ h9 => h9) rfl (by decide +kernel) rfl rfl (Nat.le_of_ble_eq_true rfl) rfl (gO_13 ad _ _) dX9_ready_92 (fun u34 H locs hu34 hG hS => ?_)
            refine lv_aload_n hx hb dX9_ready_95 rfl (lv_at hl 2 rfl) ?_
            refine lv_aload_n hx hb dX9_ready_96 rfl (lv_at hl 2 rfl) ?_
            refine g_get (C := RX9) (T := TX9) (N := 9) (ci := 8) hx hb hts (fun _ h => (List.mem_cons_of_mem _ (List.mem_append_right _ h))) hown hC.1 hG 3 (by decide) rfl rfl 6 (by decide) (hts (.fieldLink RX9 31 "StraitSwim$Swim" "colds" "[I") (List.mem_cons_of_mem _ (List.mem_append_left _ (List.mem_append_left _ (List.mem_append_left _ (List.mem_append_left _ (List.mem_append_left _ (List.mem_append_left _ (List.mem_of_getElem? (i := 5) rfl))))))))) (fun _ h9 => h9) rfl dX9_ready_97 ?_
            refine lv_aload_n hx hb dX9_ready_100 rfl (lv_at hl 2 rfl) ?_
            refine g_get (C := RX9) (T := TX9) (N := 9) (ci := 8) hx hb hts (fun _ h => (List.mem_cons_of_mem _ (List.mem_append_right _ h))) hown hC.1 hG 3 (by decide) rfl rfl 7 (by decide) (hts (.fieldLink RX9 34 "StraitSwim$Swim" "reach" "I") (List.mem_cons_of_mem _ (List.mem_append_left _ (List.mem_append_left _ (List.mem_append_left _ (List.mem_append_left _ (List.mem_append_left _ (List.mem_append_left _ (List.mem_of_getElem? (i := 2) rfl))))))))) (fun _ h9 => h9) rfl dX9_ready_101 ?_
            have e_35 : u34.1 13 = t + 1 := by subst hu34; subst hu33; subst hu10; rfl
            rw [e_35]
            refine g_iald (n := 101) hx hb hC.1 hG 20 (by decide) rfl (by omega) (by omega) (by decide) dX9_ready_104 ?_
            have e_36 : u34.2.1 20 = va_up (w.2.1 20) (t + 1).toNat x32 := by subst hu34; subst hu33; subst hu10; rfl
            rw [e_36]
            rw [up_s]
            refine lv_aload_n hx hb dX9_ready_105 rfl (lv_at hl 3 rfl) ?_
            have ha_o37 : a ∈ u34.2.2.2.1 := by subst hu34; subst hu33; subst hu10; exact ha
            have hE_o37 : u34.2.2.2.2 a = .inr (3, [.int (zI nm), .int (zI sp), .int (zI li), .int (zI fd)]) := by subst hu34; subst hu33; subst hu10; exact hE
            obtain ⟨k9, hk9⟩ := va_pl_get (X := gFx cy ad jf u34) (f := u34.2.2.2.2) ha_o37
            refine va_get (C := RX4) (T := TX4) (N := 4) (ci := 3) hx hb hts (fun _ h => (List.mem_cons_of_mem _ (List.mem_append_left _ (List.mem_append_left _ (List.mem_append_right _ h))))) hown hC.1 hG.1 k9 (hk9.trans (by rw [hE_o37])) rfl 2 (by decide) (hts (.fieldLink RX9 61 "StraitSwim$Plain" "limit" "I") (List.mem_cons_of_mem _ (List.mem_append_left _ (List.mem_append_left _ (List.mem_append_left _ (List.mem_append_left _ (List.mem_append_left _ (List.mem_append_left _ (List.mem_of_getElem? (i := 10) rfl))))))))) (fun _ h9 => h9) rfl dX9_ready_106 ?_
            refine z_icmp_lt (tgt := 116) hx hb dX9_ready_109 (by decide) (by omega) (by omega) (by omega) (by omega) (fun c_38 => ?_) (fun c_38 => ?_)
            · refine z_iconst hx hb dX9_ready_116 ?_
              refine g_put (C := RX9) (T := TX9) (N := 9) (ci := 8) (ty := .boolean) hx hb hts (fun _ h => (List.mem_cons_of_mem _ (List.mem_append_right _ h))) tyX9 tyX9_ok nmX9 hown hC.1 hG hS 3 (by decide) rfl rfl 8 14 (by decide) (hts (.fieldLink RX9 37 "StraitSwim$Swim" "tooCold" "Z") (List.mem_cons_of_mem _ (List.mem_append_left _ (List.mem_append_left _ (List.mem_append_left _ (List.mem_append_left _ (List.mem_append_left _ (List.mem_append_left _ (List.mem_of_getElem? (i := 3) rfl))))))))) (fun _ h9 => h9) rfl (by decide +kernel) (nar_b (by omega)) rfl (Nat.le_of_ble_eq_true rfl) rfl (gO_14 ad _ _) dX9_ready_117 (fun u39 H locs hu39 hG hS => ?_)
              refine z_iinc (lv' := [(3, .int (zI (t + 1))), (4, .int (zI mo)), (0, .ref (ad 3)), (1, .ref a), (2, .int (zI p2))]) hx hb dX9_ready_120 hl (k := 1) rfl (by decide) rfl (fun ls hl => ?_)
              refine lv_goto (tgt := 20) hx hb dX9_ready_123 (by decide) ?_
              exact ih20 (t + 1) u39 _ _ _ (by omega) (by omega) (by have e9 : u39.2.1 20 (t + 1).toNat = x32 := (by subst hu39; subst hu34; subst hu33; subst hu10; exact up_s _ _ _); rw [e9]; omega) (by subst hu39; subst hu34; subst hu33; subst hu10; first | exact Or.inl rfl | exact Or.inr rfl) (by subst hu39; subst hu34; subst hu33; subst hu10; exact ha) (by subst hu39; subst hu34; subst hu33; subst hu10; exact hE) (by rw [hT, cRdL, if_pos (by omega), if_pos (by omega), hCC]; (repeat (first | rw [if_pos (by omega)] | rw [if_neg (by omega)])); unfold cRd1; subst hu39; subst hu34; subst hu33; subst hu10; subst_vars; rfl) hG hS (lv_sub hl [0, 2, 3, 4] rfl)
            · refine z_iconst hx hb dX9_ready_112 ?_
              refine lv_goto (tgt := 117) hx hb dX9_ready_113 (by decide) ?_
              refine g_put (C := RX9) (T := TX9) (N := 9) (ci := 8) (ty := .boolean) hx hb hts (fun _ h => (List.mem_cons_of_mem _ (List.mem_append_right _ h))) tyX9 tyX9_ok nmX9 hown hC.1 hG hS 3 (by decide) rfl rfl 8 14 (by decide) (hts (.fieldLink RX9 37 "StraitSwim$Swim" "tooCold" "Z") (List.mem_cons_of_mem _ (List.mem_append_left _ (List.mem_append_left _ (List.mem_append_left _ (List.mem_append_left _ (List.mem_append_left _ (List.mem_append_left _ (List.mem_of_getElem? (i := 3) rfl))))))))) (fun _ h9 => h9) rfl (by decide +kernel) (nar_b (by omega)) rfl (Nat.le_of_ble_eq_true rfl) rfl (gO_14 ad _ _) dX9_ready_117 (fun u40 H locs hu40 hG hS => ?_)
              refine z_iinc (lv' := [(3, .int (zI (t + 1))), (4, .int (zI mo)), (0, .ref (ad 3)), (1, .ref a), (2, .int (zI p2))]) hx hb dX9_ready_120 hl (k := 1) rfl (by decide) rfl (fun ls hl => ?_)
              refine lv_goto (tgt := 20) hx hb dX9_ready_123 (by decide) ?_
              exact ih20 (t + 1) u40 _ _ _ (by omega) (by omega) (by have e9 : u40.2.1 20 (t + 1).toNat = x32 := (by subst hu40; subst hu34; subst hu33; subst hu10; exact up_s _ _ _); rw [e9]; omega) (by subst hu40; subst hu34; subst hu33; subst hu10; first | exact Or.inl rfl | exact Or.inr rfl) (by subst hu40; subst hu34; subst hu33; subst hu10; exact ha) (by subst hu40; subst hu34; subst hu33; subst hu10; exact hE) (by rw [hT, cRdL, if_pos (by omega), if_pos (by omega), hCC]; (repeat (first | rw [if_pos (by omega)] | rw [if_neg (by omega)])); unfold cRd1; subst hu40; subst hu34; subst hu33; subst hu10; subst_vars; rfl) hG hS (lv_sub hl [0, 2, 3, 4] rfl)
  exact loop20 101 0 u3 _ _ _ (by omega) (by omega) (by have e9 : u3.2.1 20 (Int.toNat 0) = 0 := (by subst hu3; subst hu2; subst hu1; exact hc0); rw [e9]; omega) (by subst hu3; subst hu2; subst hu1; exact Or.inl rfl) (by subst hu3; subst hu2; subst hu1; exact ha) (by subst hu3; subst hu2; subst hu1; exact hE) (by subst hu3; subst hu2; subst hu1; rfl) hG hS (lv_sub hl [0, 1, 2, 3] rfl)
set_option maxHeartbeats 4000000 in
set_option maxRecDepth 100000 in
theorem kX9_ready_3_X6 (l : Launch) (D : va_G) (cy : Nat → ClassId) (ad : Nat → Nat) (jf : Nat → Int64) (A : Nat → Prop) (u : gS) (a : Nat) (nm sp li fd : Int) (p2 : Int) (ha : a ∈ u.2.2.2.1) (hE : u.2.2.2.2 a = .inr (5, [.int (zI nm), .int (zI sp), .int (zI li), .int (zI fd)])) (j_c : 0 ≤ p2 ∧ p2 ≤ 20) (j_s : 0 ≤ sp ∧ sp ≤ 20) (j_l : 0 ≤ li ∧ li ≤ 400) (j_f : 0 ≤ fd ∧ fd ≤ 40) (hc0 : u.2.1 20 0 = 0) : Met l yX9_ready wsX9_ready ({ frames := 4, cells := 0, slots := 0, locals := 96 }) (va_Pc [.ref (ad 3), .ref a, .int (zI p2)] (gB D cy ad jf A u)) (va_Qv (fun (v : gS) => v = cReady u 19 20 10 13 14 3 nm sp li fd p2) (gB D cy ad jf A) A) 0 0 A := by
  refine Met.ofW (cc := cX9_ready) (maxL := 5) (ret := none) (by decide) rfl ?_
  intro p e s m args below meth c s₁ B hml hv
  obtain ⟨rfl, hG, hC⟩ := hv
  have hx := B.exec
  have hb := B.bytes
  have hr := B.returns
  have hts := atoms_spec (ws := wsX9_ready) B.pre
  have hown : s.vm.findClass RX9 = some m.cls := findClass_of_methodNamed B.named
  have hlocks := B.notSynchronized
  have hS : va_S A s.heap s.heap [] := va_S.rf
  have hl := lv_entry ([.ref (ad 3), .ref a, .int (zI p2)]) (n := 5) (Nat.le_of_ble_eq_true rfl)
  rw [lg_entry_eq]
  generalize (lg_sl ([.ref (ad 3), .ref a, .int (zI p2)]) ++ List.replicate (5 - (lg_sl ([.ref (ad 3), .ref a, .int (zI p2)])).length) Slot.unset).toArray = ls at hl ⊢
  have hl : lv_has ls 5 [(0, .ref (ad 3)), (1, .ref a), (2, .int (zI p2))] := hl
  refine lv_aload_n hx hb dX9_ready_0 rfl (lv_at hl 0 rfl) ?_
  refine lv_aload_n hx hb dX9_ready_1 rfl (lv_at hl 1 rfl) ?_
  obtain ⟨k9, hk9⟩ := va_pl_get (X := gFx cy ad jf u) (f := u.2.2.2.2) ha
  refine va_get (C := RX6) (T := TX6) (N := 4) (ci := 5) hx hb hts (fun _ h => (List.mem_cons_of_mem _ (List.mem_append_left _ (List.mem_append_right _ h)))) hown hC.1 hG.1 k9 (hk9.trans (by rw [hE])) rfl 0 (by decide) (hts (.fieldLink RX9 41 "StraitSwim$Plain" "number" "I") (List.mem_cons_of_mem _ (List.mem_append_left _ (List.mem_append_left _ (List.mem_append_left _ (List.mem_append_left _ (List.mem_append_left _ (List.mem_append_left _ (List.mem_of_getElem? (i := 0) rfl))))))))) (fun _ h9 => h9) rfl dX9_ready_2 ?_
  refine g_put (C := RX9) (T := TX9) (N := 9) (ci := 8) (ty := .int) hx hb hts (fun _ h => (List.mem_cons_of_mem _ (List.mem_append_right _ h))) tyX9 tyX9_ok nmX9 hown hC.1 hG hS 3 (by decide) rfl rfl 0 10 (by decide) (hts (.fieldLink RX9 9 "StraitSwim$Swim" "number" "I") (List.mem_cons_of_mem _ (List.mem_append_left _ (List.mem_append_left _ (List.mem_append_left _ (List.mem_append_left _ (List.mem_append_left _ (List.mem_append_left _ (List.mem_of_getElem? (i := 1) rfl))))))))) (fun _ h9 => h9) rfl (by decide +kernel) rfl rfl (Nat.le_of_ble_eq_true rfl) rfl (gO_10 ad _ _) dX9_ready_5 (fun u1 H locs hu1 hG hS => ?_)
  refine lv_aload_n hx hb dX9_ready_8 rfl (lv_at hl 0 rfl) ?_
  refine z_iconst hx hb dX9_ready_9 ?_
  refine g_put (C := RX9) (T := TX9) (N := 9) (ci := 8) (ty := .int) hx hb hts (fun _ h => (List.mem_cons_of_mem _ (List.mem_append_right _ h))) tyX9 tyX9_ok nmX9 hown hC.1 hG hS 3 (by decide) rfl rfl 7 13 (by decide) (hts (.fieldLink RX9 34 "StraitSwim$Swim" "reach" "I") (List.mem_cons_of_mem _ (List.mem_append_left _ (List.mem_append_left _ (List.mem_append_left _ (List.mem_append_left _ (List.mem_append_left _ (List.mem_append_left _ (List.mem_of_getElem? (i := 2) rfl))))))))) (fun _ h9 => h9) rfl (by decide +kernel) rfl rfl (Nat.le_of_ble_eq_true rfl) rfl (gO_13 ad _ _) dX9_ready_10 (fun u2 H locs hu2 hG hS => ?_)
  refine lv_aload_n hx hb dX9_ready_13 rfl (lv_at hl 0 rfl) ?_
  refine z_iconst hx hb dX9_ready_14 ?_
  refine g_put (C := RX9) (T := TX9) (N := 9) (ci := 8) (ty := .boolean) hx hb hts (fun _ h => (List.mem_cons_of_mem _ (List.mem_append_right _ h))) tyX9 tyX9_ok nmX9 hown hC.1 hG hS 3 (by decide) rfl rfl 8 14 (by decide) (hts (.fieldLink RX9 37 "StraitSwim$Swim" "tooCold" "Z") (List.mem_cons_of_mem _ (List.mem_append_left _ (List.mem_append_left _ (List.mem_append_left _ (List.mem_append_left _ (List.mem_append_left _ (List.mem_append_left _ (List.mem_of_getElem? (i := 3) rfl))))))))) (fun _ h9 => h9) rfl (by decide +kernel) (nar_b (by omega)) rfl (Nat.le_of_ble_eq_true rfl) rfl (gO_14 ad _ _) dX9_ready_15 (fun u3 H locs hu3 hG hS => ?_)
  refine z_iconst hx hb dX9_ready_18 ?_
  refine lv_istore_n (lv' := [(3, .int (zI 0)), (0, .ref (ad 3)), (1, .ref a), (2, .int (zI p2))]) hx hb dX9_ready_19 rfl hl (by decide) rfl (fun ls hl => ?_)
  have loop20 : ∀ (n : Nat) (t : Int) (w : gS) (H : Heap) (locs : List Loc) (ls : Array Slot), (100 - t).toNat < n → (0 ≤ t ∧ t ≤ 100) → (0 ≤ w.2.1 20 t.toNat ∧ w.2.1 20 t.toNat ≤ 200 * t) → (w.1 14 = 0 ∨ w.1 14 = 1) → (a ∈ w.2.2.2.1) → (w.2.2.2.2 a = .inr (5, [.int (zI nm), .int (zI sp), .int (zI li), .int (zI fd)])) → (cRdL 19 20 13 14 3 sp li fd p2 101 0 (sI (sI (sI u 10 nm) 13 0) 14 0) = cRdL 19 20 13 14 3 sp li fd p2 n t w) → gH D cy ad jf A w H → va_S A s.heap H locs → lv_has ls 5 [(3, .int (zI t)), (0, .ref (ad 3)), (1, .ref a), (2, .int (zI p2))] → W p l e (headSpec wsX9_ready ({ frames := 4, cells := 0, slots := 0, locals := 96 })).room s m ([.ref (ad 3), .ref a, .int (zI p2)]).toArray below meth c H locs 0 0 (MQ below (va_Qv (fun (v : gS) => v = cReady u 19 20 10 13 14 3 nm sp li fd p2) (gB D cy ad jf A) A) ([.ref (ad 3), .ref a, .int (zI p2)]).toArray s 0 0 A) (F0 m 20 ls []) := by
    intro n
    induction n with
    | zero => intro t w H locs ls hm; exact absurd hm (Nat.not_lt_zero _)
    | succ n ih20 =>
      intro t w H locs ls hm ht9 hcl htc ha hE hT hG hS hl
      refine lv_iload_n hx hb dX9_ready_20 rfl (lv_at hl 0 rfl) ?_
      refine z_bipush hx hb dX9_ready_21 (by decide) ?_
      refine z_icmp_ge (tgt := 126) hx hb dX9_ready_23 (by decide) (by omega) (by omega) (by omega) (by omega) (fun c_4 => ?_) (fun c_4 => ?_)
      · exact W.vret hx hb hr (fun t9 ht9_ hW => ⟨⟨w, rfl, (by unfold cReady; rw [hT, cRdL]; (repeat (first | rw [if_pos (by omega)] | rw [if_neg (by omega)]))), gB.mk' hG hC hS ht9_ hW⟩, hS.F ht9_⟩) hS.2.2 dX9_ready_126
      · refine lv_aload_n hx hb dX9_ready_26 rfl (lv_at hl 1 rfl) ?_
        refine g_get (C := RX9) (T := TX9) (N := 9) (ci := 8) hx hb hts (fun _ h => (List.mem_cons_of_mem _ (List.mem_append_right _ h))) hown hC.1 hG 3 (by decide) rfl rfl 8 (by decide) (hts (.fieldLink RX9 37 "StraitSwim$Swim" "tooCold" "Z") (List.mem_cons_of_mem _ (List.mem_append_left _ (List.mem_append_left _ (List.mem_append_left _ (List.mem_append_left _ (List.mem_append_left _ (List.mem_append_left _ (List.mem_of_getElem? (i := 3) rfl))))))))) (fun _ h9 => h9) rfl dX9_ready_27 ?_
        refine z_if_ne (tgt := 126) hx hb dX9_ready_30 (by decide) (by omega) (by omega) (fun c_5 => ?_) (fun c_5 => ?_)
        · exact W.vret hx hb hr (fun t9 ht9_ hW => ⟨⟨w, rfl, (by unfold cReady; rw [hT, cRdL]; (repeat (first | rw [if_pos (by omega)] | rw [if_neg (by omega)]))), gB.mk' hG hC hS ht9_ hW⟩, hS.F ht9_⟩) hS.2.2 dX9_ready_126
        · refine lv_aload_n hx hb dX9_ready_33 rfl (lv_at hl 1 rfl) ?_
          refine g_get (C := RX9) (T := TX9) (N := 9) (ci := 8) hx hb hts (fun _ h => (List.mem_cons_of_mem _ (List.mem_append_right _ h))) hown hC.1 hG 3 (by decide) rfl rfl 5 (by decide) (hts (.fieldLink RX9 28 "StraitSwim$Swim" "strides" "[I") (List.mem_cons_of_mem _ (List.mem_append_left _ (List.mem_append_left _ (List.mem_append_left _ (List.mem_append_left _ (List.mem_append_left _ (List.mem_append_left _ (List.mem_of_getElem? (i := 4) rfl))))))))) (fun _ h9 => h9) rfl dX9_ready_34 ?_
          refine lv_iload_n hx hb dX9_ready_37 rfl (lv_at hl 0 rfl) ?_
          refine lv_aload_n hx hb dX9_ready_38 rfl (lv_at hl 2 rfl) ?_
          refine lv_iload_n hx hb dX9_ready_39 rfl (lv_at hl 0 rfl) ?_
          obtain ⟨k9, hk9⟩ := va_pl_get (X := gFx cy ad jf w) (f := w.2.2.2.2) ha
          refine g_calli (va_runU (As := [.int (zI t)]) (rest := [.int (zI t), .ref (ad 19)]) ⟨hx, hb, hml, hown, hts⟩ (kX3_strideIn_X6 l D cy ad jf A w a nm sp li fd t ha hE (by omega) (by omega) (by omega)) (va_cwU 1 hts gX9_ready_X3_strideIn_u44X6 rfl rfl rfl rfl (by decide +kernel) ⟨by decide, by decide⟩) (g_preD (C := RX6) hG hC hS (hk9.trans (by rw [hE])) rfl) rfl rfl hl.1 rfl (lv_room (Nat.le_of_ble_eq_true rfl)) dX9_ready_40 ⟨Nat.le_of_ble_eq_true rfl, Nat.le_of_ble_eq_true rfl⟩) hS (fun r6 u7 H locs p_8 hG hS => ?_)
          obtain ⟨rfl, he_⟩ := p_8
          rw [he_] at hG; clear he_
          obtain ⟨z9, hz9⟩ : ∃ z : Int, z = spPace 3 sp fd t := ⟨_, rfl⟩
          rw [← hz9]
          have qz9 : 0 ≤ z9 ∧ z9 ≤ 24 := by rw [hz9]; (first | omega | (unfold spAt1; split <;> omega) | (unfold spAt1; split <;> split <;> omega) | (split <;> first | omega | (unfold spAt1; split <;> omega)) | (unfold spPace spPc spAt1; split <;> (first | omega | (split <;> first | omega | (split <;> omega)))))
          refine g_iast (n := 100) hx hb hC.1 hG hS 19 (by decide) rfl rfl (by omega) (by omega) (by decide) dX9_ready_43 (fun u10 H locs hu10 hG hS => ?_)
          refine lv_aload_n hx hb dX9_ready_44 rfl (lv_at hl 1 rfl) ?_
          refine g_get (C := RX9) (T := TX9) (N := 9) (ci := 8) hx hb hts (fun _ h => (List.mem_cons_of_mem _ (List.mem_append_right _ h))) hown hC.1 hG 3 (by decide) rfl rfl 6 (by decide) (hts (.fieldLink RX9 31 "StraitSwim$Swim" "colds" "[I") (List.mem_cons_of_mem _ (List.mem_append_left _ (List.mem_append_left _ (List.mem_append_left _ (List.mem_append_left _ (List.mem_append_left _ (List.mem_append_left _ (List.mem_of_getElem? (i := 5) rfl))))))))) (fun _ h9 => h9) rfl dX9_ready_45 ?_
          refine lv_iload_n hx hb dX9_ready_48 rfl (lv_at hl 0 rfl) ?_
          refine g_iald (n := 101) hx hb hC.1 hG 20 (by decide) rfl (by omega) (by omega) (by decide) dX9_ready_49 ?_
          have e_11 : u10.2.1 20 = w.2.1 20 := by subst hu10; rfl
          rw [e_11]
          refine lv_aload_n hx hb dX9_ready_50 rfl (lv_at hl 2 rfl) ?_
          refine lv_iload_n hx hb dX9_ready_51 rfl (lv_at hl 0 rfl) ?_
          refine lv_iload_n hx hb dX9_ready_52 rfl (lv_at hl 3 rfl) ?_
          have ha_o12 : a ∈ u10.2.2.2.1 := by subst hu10; exact ha
          have hE_o12 : u10.2.2.2.2 a = .inr (5, [.int (zI nm), .int (zI sp), .int (zI li), .int (zI fd)]) := by subst hu10; exact hE
          obtain ⟨k9, hk9⟩ := va_pl_get (X := gFx cy ad jf u10) (f := u10.2.2.2.2) ha_o12
          refine g_calli (va_runU (As := [.int (zI t), .int (zI p2)]) (rest := [.int (zI (w.2.1 20 t.toNat))]) ⟨hx, hb, hml, hown, hts⟩ (kX6_coldIn_X6 l D cy ad jf A u10 a nm sp li fd t p2 ha_o12 hE_o12 (by omega) (by omega)) (va_cwO 2 hts gX9_ready_X6_coldIn_u48X6 rfl rfl rfl (List.mem_cons_of_mem _ (List.mem_append_left _ (List.mem_append_left _ (List.mem_append_left _ (List.mem_append_left _ (List.mem_append_left _ (List.mem_append_right _ (List.mem_append_right _ (List.mem_append_left _ (List.mem_of_getElem? (i := 12) rfl)))))))))) (by decide +kernel) ⟨by decide, by decide⟩) (g_preD (C := RX6) hG hC hS (hk9.trans (by rw [hE_o12])) rfl) rfl rfl hl.1 rfl (lv_room (Nat.le_of_ble_eq_true rfl)) dX9_ready_53 ⟨Nat.le_of_ble_eq_true rfl, Nat.le_of_ble_eq_true rfl⟩) hS (fun r13 u14 H locs p_15 hG hS => ?_)
          obtain ⟨rfl, he_⟩ := p_15
          rw [he_] at hG; clear he_
          obtain ⟨z16, hz16⟩ : ∃ z : Int, z = spAt1 (spAt1 (p2 + t / 8 - 2) / 2) := ⟨_, rfl⟩
          rw [← hz16]
          have qz16 : 1 ≤ z16 ∧ z16 ≤ 145 := by rw [hz16]; (first | omega | (unfold spAt1; split <;> omega) | (unfold spAt1; split <;> split <;> omega) | (split <;> first | omega | (unfold spAt1; split <;> omega)) | (unfold spPace spPc spAt1; split <;> (first | omega | (split <;> first | omega | (split <;> omega)))))
          refine z_iadd hx hb dX9_ready_56 ?_
          obtain ⟨mo, hmo⟩ : ∃ z : Int, z = (w.2.1 20 t.toNat) + z16 := ⟨_, rfl⟩
          rw [← hmo]
          refine lv_istore (lv' := [(4, .int (zI mo)), (3, .int (zI t)), (0, .ref (ad 3)), (1, .ref a), (2, .int (zI p2))]) hx hb dX9_ready_57 hl (by decide) rfl (fun ls hl => ?_)
          have e9 : z16 = spCold 3 p2 t := by unfold spCold; (repeat (first | rw [if_pos (by omega)] | rw [if_neg (by omega)])); all_goals (subst_vars; rfl)
          have hmo2 : mo = w.2.1 20 t.toNat + spCold 3 p2 t := by rw [hmo, e9]
          refine lv_aload_n hx hb dX9_ready_59 rfl (lv_at hl 2 rfl) ?_
          refine g_get (C := RX9) (T := TX9) (N := 9) (ci := 8) hx hb hts (fun _ h => (List.mem_cons_of_mem _ (List.mem_append_right _ h))) hown hC.1 hG 3 (by decide) rfl rfl 6 (by decide) (hts (.fieldLink RX9 31 "StraitSwim$Swim" "colds" "[I") (List.mem_cons_of_mem _ (List.mem_append_left _ (List.mem_append_left _ (List.mem_append_left _ (List.mem_append_left _ (List.mem_append_left _ (List.mem_append_left _ (List.mem_of_getElem? (i := 5) rfl))))))))) (fun _ h9 => h9) rfl dX9_ready_60 ?_
          refine lv_iload_n hx hb dX9_ready_63 rfl (lv_at hl 1 rfl) ?_
          refine z_iconst hx hb dX9_ready_64 ?_
          refine z_iadd hx hb dX9_ready_65 ?_
          refine lv_aload_n hx hb dX9_ready_66 rfl (lv_at hl 3 rfl) ?_
          refine lv_iload_n hx hb dX9_ready_67 rfl (lv_at hl 1 rfl) ?_
          have ha_o17 : a ∈ u10.2.2.2.1 := by subst hu10; exact ha
          have hE_o17 : u10.2.2.2.2 a = .inr (5, [.int (zI nm), .int (zI sp), .int (zI li), .int (zI fd)]) := by subst hu10; exact hE
          obtain ⟨k9, hk9⟩ := va_pl_get (X := gFx cy ad jf u10) (f := u10.2.2.2.2) ha_o17
          refine g_calli (va_runU (As := [.int (zI t)]) (rest := [.int (zI (t + 1)), .ref (ad 20)]) ⟨hx, hb, hml, hown, hts⟩ (kX3_feedsIn_X6 l D cy ad jf A u10 a nm sp li fd t ha_o17 hE_o17 (by omega) (by omega)) (va_cwU 1 hts gX9_ready_X3_feedsIn_u52X6 rfl rfl rfl rfl (by decide +kernel) ⟨by decide, by decide⟩) (g_preD (C := RX6) hG hC hS (hk9.trans (by rw [hE_o17])) rfl) rfl rfl hl.1 rfl (lv_room (Nat.le_of_ble_eq_true rfl)) dX9_ready_68 ⟨Nat.le_of_ble_eq_true rfl, Nat.le_of_ble_eq_true rfl⟩) hS (fun r18 u19 H locs p_20 hG hS => ?_)
          obtain ⟨⟨b21, rfl, q_22⟩, he_⟩ := p_20
          rw [he_] at hG; clear he_
          have hbb21 : 0 ≤ b21 ∧ b21 ≤ 1 := by rcases q_22 with ⟨h, _⟩ | ⟨h, _⟩ <;> omega
          refine z_if_eq (tgt := 85) hx hb dX9_ready_71 (by decide) (by omega) (by omega) (fun c_23 => ?_) (fun c_23 => ?_)
          · refine lv_iload hx hb dX9_ready_85 (lv_at hl 0 rfl) ?_
            refine g_iast (n := 101) hx hb hC.1 hG hS 20 (by decide) rfl rfl (by omega) (by omega) (by decide) dX9_ready_87 (fun u24 H locs hu24 hG hS => ?_)
            have hCC : cRdC w 20 3 fd p2 t = mo := by unfold cRdC; rw [← hmo2]; (repeat (first | rw [if_pos (by omega)] | rw [if_neg (by omega)])); all_goals (first | rfl | (subst_vars; rfl) | assumption | (symm; assumption))
            refine lv_aload_n hx hb dX9_ready_88 rfl (lv_at hl 2 rfl) ?_
            refine lv_iload_n hx hb dX9_ready_89 rfl (lv_at hl 1 rfl) ?_
            refine z_iconst hx hb dX9_ready_90 ?_
            refine z_iadd hx hb dX9_ready_91 ?_
            refine g_put (C := RX9) (T := TX9) (N := 9) (ci := 8) (ty := .int) hx hb hts (fun _ h => (List.mem_cons_of_mem _ (List.mem_append_right _ h))) tyX9 tyX9_ok nmX9 hown hC.1 hG hS 3 (by decide) rfl rfl 7 13 (by decide) (hts (.fieldLink RX9 34 "StraitSwim$Swim" "reach" "I") (List.mem_cons_of_mem _ (List.mem_append_left _ (List.mem_append_left _ (List.mem_append_left _ (List.mem_append_left _ (List.mem_append_left _ (List.mem_append_left _ (List.mem_of_getElem? (i := 2) rfl))))))))) (fun _ h9 => h9) rfl (by decide +kernel) rfl rfl (Nat.le_of_ble_eq_true rfl) rfl (gO_13 ad _ _) dX9_ready_92 (fun u25 H locs hu25 hG hS => ?_)
            refine lv_aload_n hx hb dX9_ready_95 rfl (lv_at hl 2 rfl) ?_
            refine lv_aload_n hx hb dX9_ready_96 rfl (lv_at hl 2 rfl) ?_
            refine g_get (C := RX9) (T := TX9) (N := 9) (ci := 8) hx hb hts (fun _ h => (List.mem_cons_of_mem _ (List.mem_append_right _ h))) hown hC.1 hG 3 (by decide) rfl rfl 6 (by decide) (hts (.fieldLink RX9 31 "StraitSwim$Swim" "colds" "[I") (List.mem_cons_of_mem _ (List.mem_append_left _ (List.mem_append_left _ (List.mem_append_left _ (List.mem_append_left _ (List.mem_append_left _ (List.mem_append_left _ (List.mem_of_getElem? (i := 5) rfl))))))))) (fun _ h9 => h9) rfl dX9_ready_97 ?_
            refine lv_aload_n hx hb dX9_ready_100 rfl (lv_at hl 2 rfl) ?_
            refine g_get (C := RX9) (T := TX9) (N := 9) (ci := 8) hx hb hts (fun _ h => (List.mem_cons_of_mem _ (List.mem_append_right _ h))) hown hC.1 hG 3 (by decide) rfl rfl 7 (by decide) (hts (.fieldLink RX9 34 "StraitSwim$Swim" "reach" "I") (List.mem_cons_of_mem _ (List.mem_append_left _ (List.mem_append_left _ (List.mem_append_left _ (List.mem_append_left _ (List.mem_append_left _ (List.mem_append_left _ (List.mem_of_getElem? (i := 2) rfl))))))))) (fun _ h9 => h9) rfl dX9_ready_101 ?_
            have e_26 : u25.1 13 = t + 1 := by subst hu25; subst hu24; subst hu10; rfl
            rw [e_26]
            refine g_iald (n := 101) hx hb hC.1 hG 20 (by decide) rfl (by omega) (by omega) (by decide) dX9_ready_104 ?_
            have e_27 : u25.2.1 20 = va_up (w.2.1 20) (t + 1).toNat mo := by subst hu25; subst hu24; subst hu10; rfl
            rw [e_27]
            rw [up_s]
            refine lv_aload_n hx hb dX9_ready_105 rfl (lv_at hl 3 rfl) ?_
            have ha_o28 : a ∈ u25.2.2.2.1 := by subst hu25; subst hu24; subst hu10; exact ha
            have hE_o28 : u25.2.2.2.2 a = .inr (5, [.int (zI nm), .int (zI sp), .int (zI li), .int (zI fd)]) := by subst hu25; subst hu24; subst hu10; exact hE
            obtain ⟨k9, hk9⟩ := va_pl_get (X := gFx cy ad jf u25) (f := u25.2.2.2.2) ha_o28
            refine va_get (C := RX6) (T := TX6) (N := 4) (ci := 5) hx hb hts (fun _ h => (List.mem_cons_of_mem _ (List.mem_append_left _ (List.mem_append_right _ h)))) hown hC.1 hG.1 k9 (hk9.trans (by rw [hE_o28])) rfl 2 (by decide) (hts (.fieldLink RX9 61 "StraitSwim$Plain" "limit" "I") (List.mem_cons_of_mem _ (List.mem_append_left _ (List.mem_append_left _ (List.mem_append_left _ (List.mem_append_left _ (List.mem_append_left _ (List.mem_append_left _ (List.mem_of_getElem? (i := 10) rfl))))))))) (fun _ h9 => h9) rfl dX9_ready_106 ?_
            refine z_icmp_lt (tgt := 116) hx hb dX9_ready_109 (by decide) (by omega) (by omega) (by omega) (by omega) (fun c_29 => ?_) (fun c_29 => ?_)
            · refine z_iconst hx hb dX9_ready_116 ?_
              refine g_put (C := RX9) (T := TX9) (N := 9) (ci := 8) (ty := .boolean) hx hb hts (fun _ h => (List.mem_cons_of_mem _ (List.mem_append_right _ h))) tyX9 tyX9_ok nmX9 hown hC.1 hG hS 3 (by decide) rfl rfl 8 14 (by decide) (hts (.fieldLink RX9 37 "StraitSwim$Swim" "tooCold" "Z") (List.mem_cons_of_mem _ (List.mem_append_left _ (List.mem_append_left _ (List.mem_append_left _ (List.mem_append_left _ (List.mem_append_left _ (List.mem_append_left _ (List.mem_of_getElem? (i := 3) rfl))))))))) (fun _ h9 => h9) rfl (by decide +kernel) (nar_b (by omega)) rfl (Nat.le_of_ble_eq_true rfl) rfl (gO_14 ad _ _) dX9_ready_117 (fun u30 H locs hu30 hG hS => ?_)
              refine z_iinc (lv' := [(3, .int (zI (t + 1))), (4, .int (zI mo)), (0, .ref (ad 3)), (1, .ref a), (2, .int (zI p2))]) hx hb dX9_ready_120 hl (k := 1) rfl (by decide) rfl (fun ls hl => ?_)
              refine lv_goto (tgt := 20) hx hb dX9_ready_123 (by decide) ?_
              exact ih20 (t + 1) u30 _ _ _ (by omega) (by omega) (by have e9 : u30.2.1 20 (t + 1).toNat = mo := (by subst hu30; subst hu25; subst hu24; subst hu10; exact up_s _ _ _); rw [e9]; omega) (by subst hu30; subst hu25; subst hu24; subst hu10; first | exact Or.inl rfl | exact Or.inr rfl) (by subst hu30; subst hu25; subst hu24; subst hu10; exact ha) (by subst hu30; subst hu25; subst hu24; subst hu10; exact hE) (by rw [hT, cRdL, if_pos (by omega), if_pos (by omega), hCC]; (repeat (first | rw [if_pos (by omega)] | rw [if_neg (by omega)])); unfold cRd1; subst hu30; subst hu25; subst hu24; subst hu10; subst_vars; rfl) hG hS (lv_sub hl [0, 2, 3, 4] rfl)
            · refine z_iconst hx hb dX9_ready_112 ?_
              refine lv_goto (tgt := 117) hx hb dX9_ready_113 (by decide) ?_
              refine g_put (C := RX9) (T := TX9) (N := 9) (ci := 8) (ty := .boolean) hx hb hts (fun _ h => (List.mem_cons_of_mem _ (List.mem_append_right _ h))) tyX9 tyX9_ok nmX9 hown hC.1 hG hS 3 (by decide) rfl rfl 8 14 (by decide) (hts (.fieldLink RX9 37 "StraitSwim$Swim" "tooCold" "Z") (List.mem_cons_of_mem _ (List.mem_append_left _ (List.mem_append_left _ (List.mem_append_left _ (List.mem_append_left _ (List.mem_append_left _ (List.mem_append_left _ (List.mem_of_getElem? (i := 3) rfl))))))))) (fun _ h9 => h9) rfl (by decide +kernel) (nar_b (by omega)) rfl (Nat.le_of_ble_eq_true rfl) rfl (gO_14 ad _ _) dX9_ready_117 (fun u31 H locs hu31 hG hS => ?_)
              refine z_iinc (lv' := [(3, .int (zI (t + 1))), (4, .int (zI mo)), (0, .ref (ad 3)), (1, .ref a), (2, .int (zI p2))]) hx hb dX9_ready_120 hl (k := 1) rfl (by decide) rfl (fun ls hl => ?_)
              refine lv_goto (tgt := 20) hx hb dX9_ready_123 (by decide) ?_
              exact ih20 (t + 1) u31 _ _ _ (by omega) (by omega) (by have e9 : u31.2.1 20 (t + 1).toNat = mo := (by subst hu31; subst hu25; subst hu24; subst hu10; exact up_s _ _ _); rw [e9]; omega) (by subst hu31; subst hu25; subst hu24; subst hu10; first | exact Or.inl rfl | exact Or.inr rfl) (by subst hu31; subst hu25; subst hu24; subst hu10; exact ha) (by subst hu31; subst hu25; subst hu24; subst hu10; exact hE) (by rw [hT, cRdL, if_pos (by omega), if_pos (by omega), hCC]; (repeat (first | rw [if_pos (by omega)] | rw [if_neg (by omega)])); unfold cRd1; subst hu31; subst hu25; subst hu24; subst hu10; subst_vars; rfl) hG hS (lv_sub hl [0, 2, 3, 4] rfl)
          · refine z_iconst hx hb dX9_ready_74 ?_
            refine lv_iload hx hb dX9_ready_75 (lv_at hl 0 rfl) ?_
            refine z_iconst hx hb dX9_ready_77 ?_
            refine z_isub hx hb dX9_ready_78 ?_
            refine va_mmax hx hb (hml.trans hl.1.symm) hown (hts (.methodLink RX9 56 Lib.Math.max.name) (List.mem_cons_of_mem _ (List.mem_append_left _ (List.mem_append_left _ (List.mem_append_left _ (List.mem_append_left _ (List.mem_append_left _ (List.mem_append_left _ (List.mem_of_getElem? (i := 6) rfl))))))))) (hts (.static Lib.Math.max.name) (List.mem_cons_of_mem _ (List.mem_append_left _ (List.mem_append_left _ (List.mem_append_left _ (List.mem_append_left _ (List.mem_append_left _ (List.mem_append_left _ (List.mem_of_getElem? (i := 7) rfl))))))))) (hts (.initialized "java/lang/Math") (List.mem_cons_of_mem _ (List.mem_append_left _ (List.mem_append_left _ (List.mem_append_left _ (List.mem_append_left _ (List.mem_append_left _ (List.mem_append_left _ (List.mem_of_getElem? (i := 8) rfl))))))))) (hts (.code Lib.Math.max.name Lib.Math.max.code 2 (some .int)) (List.mem_cons_of_mem _ (List.mem_append_left _ (List.mem_append_left _ (List.mem_append_left _ (List.mem_append_left _ (List.mem_append_left _ (List.mem_append_left _ (List.mem_of_getElem? (i := 9) rfl))))))))) (Nat.le_of_ble_eq_true rfl) (Nat.le_of_ble_eq_true rfl) (Nat.le_of_ble_eq_true rfl) (Nat.le_of_ble_eq_true rfl) dX9_ready_79 ?_
            rw [z_max (a := 0) (b := mo - 3) (by omega) (by omega) (by omega) (by omega)]
            obtain ⟨x32, hx32⟩ : ∃ z : Int, z = (if 0 < (mo - 3) then (mo - 3) else 0) := ⟨_, rfl⟩
            rw [← hx32]
            refine lv_goto (tgt := 87) hx hb dX9_ready_82 (by decide) ?_
            refine g_iast (n := 101) hx hb hC.1 hG hS 20 (by decide) rfl rfl (by omega) (by omega) (by decide) dX9_ready_87 (fun u33 H locs hu33 hG hS => ?_)
            have hCC : cRdC w 20 3 fd p2 t = x32 := by unfold cRdC; rw [← hmo2]; (repeat (first | rw [if_pos (by omega)] | rw [if_neg (by omega)])); all_goals (first | rfl | (subst_vars; rfl) | assumption | (symm; assumption))
            refine lv_aload_n hx hb dX9_ready_88 rfl (lv_at hl 2 rfl) ?_
            refine lv_iload_n hx hb dX9_ready_89 rfl (lv_at hl 1 rfl) ?_
            refine z_iconst hx hb dX9_ready_90 ?_
            refine z_iadd hx hb dX9_ready_91 ?_
            refine g_put (C := RX9) (T := TX9) (N := 9) (ci := 8) (ty := .int) hx hb hts (fun _ h => (List.mem_cons_of_mem _ (List.mem_append_right _ h))) tyX9 tyX9_ok nmX9 hown hC.1 hG hS 3 (by decide) rfl rfl 7 13 (by decide) (hts (.fieldLink RX9 34 "StraitSwim$Swim" "reach" "I") (List.mem_cons_of_mem _ (List.mem_append_left _ (List.mem_append_left _ (List.mem_append_left _ (List.mem_append_left _ (List.mem_append_left _ (List.mem_append_left _ (List.mem_of_getElem? (i := 2) rfl))))))))) (fun _ h9 => h9) rfl (by decide +kernel) rfl rfl (Nat.le_of_ble_eq_true rfl) rfl (gO_13 ad _ _) dX9_ready_92 (fun u34 H locs hu34 hG hS => ?_)
            refine lv_aload_n hx hb dX9_ready_95 rfl (lv_at hl 2 rfl) ?_
            refine lv_aload_n hx hb dX9_ready_96 rfl (lv_at hl 2 rfl) ?_
            refine g_get (C := RX9) (T := TX9) (N := 9) (ci := 8) hx hb hts (fun _ h => (List.mem_cons_of_mem _ (List.mem_append_right _ h))) hown hC.1 hG 3 (by decide) rfl rfl 6 (by decide) (hts (.fieldLink RX9 31 "StraitSwim$Swim" "colds" "[I") (List.mem_cons_of_mem _ (List.mem_append_left _ (List.mem_append_left _ (List.mem_append_left _ (List.mem_append_left _ (List.mem_append_left _ (List.mem_append_left _ (List.mem_of_getElem? (i := 5) rfl))))))))) (fun _ h9 => h9) rfl dX9_ready_97 ?_
            refine lv_aload_n hx hb dX9_ready_100 rfl (lv_at hl 2 rfl) ?_
            refine g_get (C := RX9) (T := TX9) (N := 9) (ci := 8) hx hb hts (fun _ h => (List.mem_cons_of_mem _ (List.mem_append_right _ h))) hown hC.1 hG 3 (by decide) rfl rfl 7 (by decide) (hts (.fieldLink RX9 34 "StraitSwim$Swim" "reach" "I") (List.mem_cons_of_mem _ (List.mem_append_left _ (List.mem_append_left _ (List.mem_append_left _ (List.mem_append_left _ (List.mem_append_left _ (List.mem_append_left _ (List.mem_of_getElem? (i := 2) rfl))))))))) (fun _ h9 => h9) rfl dX9_ready_101 ?_
            have e_35 : u34.1 13 = t + 1 := by subst hu34; subst hu33; subst hu10; rfl
            rw [e_35]
            refine g_iald (n := 101) hx hb hC.1 hG 20 (by decide) rfl (by omega) (by omega) (by decide) dX9_ready_104 ?_
            have e_36 : u34.2.1 20 = va_up (w.2.1 20) (t + 1).toNat x32 := by subst hu34; subst hu33; subst hu10; rfl
            rw [e_36]
            rw [up_s]
            refine lv_aload_n hx hb dX9_ready_105 rfl (lv_at hl 3 rfl) ?_
            have ha_o37 : a ∈ u34.2.2.2.1 := by subst hu34; subst hu33; subst hu10; exact ha
            have hE_o37 : u34.2.2.2.2 a = .inr (5, [.int (zI nm), .int (zI sp), .int (zI li), .int (zI fd)]) := by subst hu34; subst hu33; subst hu10; exact hE
            obtain ⟨k9, hk9⟩ := va_pl_get (X := gFx cy ad jf u34) (f := u34.2.2.2.2) ha_o37
            refine va_get (C := RX6) (T := TX6) (N := 4) (ci := 5) hx hb hts (fun _ h => (List.mem_cons_of_mem _ (List.mem_append_left _ (List.mem_append_right _ h)))) hown hC.1 hG.1 k9 (hk9.trans (by rw [hE_o37])) rfl 2 (by decide) (hts (.fieldLink RX9 61 "StraitSwim$Plain" "limit" "I") (List.mem_cons_of_mem _ (List.mem_append_left _ (List.mem_append_left _ (List.mem_append_left _ (List.mem_append_left _ (List.mem_append_left _ (List.mem_append_left _ (List.mem_of_getElem? (i := 10) rfl))))))))) (fun _ h9 => h9) rfl dX9_ready_106 ?_
            refine z_icmp_lt (tgt := 116) hx hb dX9_ready_109 (by decide) (by omega) (by omega) (by omega) (by omega) (fun c_38 => ?_) (fun c_38 => ?_)
            · refine z_iconst hx hb dX9_ready_116 ?_
              refine g_put (C := RX9) (T := TX9) (N := 9) (ci := 8) (ty := .boolean) hx hb hts (fun _ h => (List.mem_cons_of_mem _ (List.mem_append_right _ h))) tyX9 tyX9_ok nmX9 hown hC.1 hG hS 3 (by decide) rfl rfl 8 14 (by decide) (hts (.fieldLink RX9 37 "StraitSwim$Swim" "tooCold" "Z") (List.mem_cons_of_mem _ (List.mem_append_left _ (List.mem_append_left _ (List.mem_append_left _ (List.mem_append_left _ (List.mem_append_left _ (List.mem_append_left _ (List.mem_of_getElem? (i := 3) rfl))))))))) (fun _ h9 => h9) rfl (by decide +kernel) (nar_b (by omega)) rfl (Nat.le_of_ble_eq_true rfl) rfl (gO_14 ad _ _) dX9_ready_117 (fun u39 H locs hu39 hG hS => ?_)
              refine z_iinc (lv' := [(3, .int (zI (t + 1))), (4, .int (zI mo)), (0, .ref (ad 3)), (1, .ref a), (2, .int (zI p2))]) hx hb dX9_ready_120 hl (k := 1) rfl (by decide) rfl (fun ls hl => ?_)
              refine lv_goto (tgt := 20) hx hb dX9_ready_123 (by decide) ?_
              exact ih20 (t + 1) u39 _ _ _ (by omega) (by omega) (by have e9 : u39.2.1 20 (t + 1).toNat = x32 := (by subst hu39; subst hu34; subst hu33; subst hu10; exact up_s _ _ _); rw [e9]; omega) (by subst hu39; subst hu34; subst hu33; subst hu10; first | exact Or.inl rfl | exact Or.inr rfl) (by subst hu39; subst hu34; subst hu33; subst hu10; exact ha) (by subst hu39; subst hu34; subst hu33; subst hu10; exact hE) (by rw [hT, cRdL, if_pos (by omega), if_pos (by omega), hCC]; (repeat (first | rw [if_pos (by omega)] | rw [if_neg (by omega)])); unfold cRd1; subst hu39; subst hu34; subst hu33; subst hu10; subst_vars; rfl) hG hS (lv_sub hl [0, 2, 3, 4] rfl)
            · refine z_iconst hx hb dX9_ready_112 ?_
              refine lv_goto (tgt := 117) hx hb dX9_ready_113 (by decide) ?_
              refine g_put (C := RX9) (T := TX9) (N := 9) (ci := 8) (ty := .boolean) hx hb hts (fun _ h => (List.mem_cons_of_mem _ (List.mem_append_right _ h))) tyX9 tyX9_ok nmX9 hown hC.1 hG hS 3 (by decide) rfl rfl 8 14 (by decide) (hts (.fieldLink RX9 37 "StraitSwim$Swim" "tooCold" "Z") (List.mem_cons_of_mem _ (List.mem_append_left _ (List.mem_append_left _ (List.mem_append_left _ (List.mem_append_left _ (List.mem_append_left _ (List.mem_append_left _ (List.mem_of_getElem? (i := 3) rfl))))))))) (fun _ h9 => h9) rfl (by decide +kernel) (nar_b (by omega)) rfl (Nat.le_of_ble_eq_true rfl) rfl (gO_14 ad _ _) dX9_ready_117 (fun u40 H locs hu40 hG hS => ?_)
              refine z_iinc (lv' := [(3, .int (zI (t + 1))), (4, .int (zI mo)), (0, .ref (ad 3)), (1, .ref a), (2, .int (zI p2))]) hx hb dX9_ready_120 hl (k := 1) rfl (by decide) rfl (fun ls hl => ?_)
              refine lv_goto (tgt := 20) hx hb dX9_ready_123 (by decide) ?_
              exact ih20 (t + 1) u40 _ _ _ (by omega) (by omega) (by have e9 : u40.2.1 20 (t + 1).toNat = x32 := (by subst hu40; subst hu34; subst hu33; subst hu10; exact up_s _ _ _); rw [e9]; omega) (by subst hu40; subst hu34; subst hu33; subst hu10; first | exact Or.inl rfl | exact Or.inr rfl) (by subst hu40; subst hu34; subst hu33; subst hu10; exact ha) (by subst hu40; subst hu34; subst hu33; subst hu10; exact hE) (by rw [hT, cRdL, if_pos (by omega), if_pos (by omega), hCC]; (repeat (first | rw [if_pos (by omega)] | rw [if_neg (by omega)])); unfold cRd1; subst hu40; subst hu34; subst hu33; subst hu10; subst_vars; rfl) hG hS (lv_sub hl [0, 2, 3, 4] rfl)
  exact loop20 101 0 u3 _ _ _ (by omega) (by omega) (by have e9 : u3.2.1 20 (Int.toNat 0) = 0 := (by subst hu3; subst hu2; subst hu1; exact hc0); rw [e9]; omega) (by subst hu3; subst hu2; subst hu1; exact Or.inl rfl) (by subst hu3; subst hu2; subst hu1; exact ha) (by subst hu3; subst hu2; subst hu1; exact hE) (by subst hu3; subst hu2; subst hu1; rfl) hG hS (lv_sub hl [0, 1, 2, 3] rfl)
