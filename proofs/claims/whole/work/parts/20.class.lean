set_option maxHeartbeats 4000000 in
set_option maxRecDepth 100000 in
theorem kX10_isFull_4 (l : Launch) (D : va_G) (cy : Nat → ClassId) (ad : Nat → Nat) (jf : Nat → Int64) (A : Nat → Prop) (u : gS) (hz : 0 ≤ u.1 15 ∧ u.1 15 ≤ 60) : Met l yX10_isFull wsX10_isFull ({ frames := 0, cells := 0, slots := 0, locals := 0 }) (va_Pc [.ref (ad 4)] (gB D cy ad jf A u)) (va_Qi (fun (r : Int32) (v : gS) => (∃ b : Int, r = zI b ∧ (b = 1 ∧ 60 ≤ u.1 15 ∨ b = 0 ∧ ¬ (60 ≤ u.1 15))) ∧ v = u) (gB D cy ad jf A) A) 0 0 A := by
  refine Met.ofW (cc := cX10_isFull) (maxL := 1) (ret := (some .boolean)) (by decide) rfl ?_
  intro p e s m args below meth c s₁ B hml hv
  obtain ⟨rfl, hG, hC⟩ := hv
  have hx := B.exec
  have hb := B.bytes
  have hr := B.returns
  have hts := atoms_spec (ws := wsX10_isFull) B.pre
  have hown : s.vm.findClass RX10 = some m.cls := findClass_of_methodNamed B.named
  have hlocks := B.notSynchronized
  have hS : va_S A s.heap s.heap [] := va_S.rf
  have hl := lv_entry ([.ref (ad 4)]) (n := 1) (Nat.le_of_ble_eq_true rfl)
  rw [lg_entry_eq]
  generalize (lg_sl ([.ref (ad 4)]) ++ List.replicate (1 - (lg_sl ([.ref (ad 4)])).length) Slot.unset).toArray = ls at hl ⊢
  have hl : lv_has ls 1 [(0, .ref (ad 4))] := hl
  refine lv_aload_n hx hb dX10_isFull_0 rfl (lv_at hl 0 rfl) ?_
  refine g_get (C := RX10) (T := TX10) (N := 2) (ci := 9) hx hb hts (fun _ h => (List.mem_cons_of_mem _ (List.mem_append_right _ h))) hown hC.1 hG 4 (by decide) rfl rfl 1 (by decide) (hts (.fieldLink RX10 7 "StraitSwim$Tally" "size" "I") (List.mem_cons_of_mem _ (List.mem_append_left _ (List.mem_of_getElem? (i := 0) rfl)))) (fun _ h9 => h9) rfl dX10_isFull_1 ?_
  refine lv_aload_n hx hb dX10_isFull_4 rfl (lv_at hl 0 rfl) ?_
  refine g_get (C := RX10) (T := TX10) (N := 2) (ci := 9) hx hb hts (fun _ h => (List.mem_cons_of_mem _ (List.mem_append_right _ h))) hown hC.1 hG 4 (by decide) rfl rfl 0 (by decide) (hts (.fieldLink RX10 13 "StraitSwim$Tally" "items" "[I") (List.mem_cons_of_mem _ (List.mem_append_left _ (List.mem_of_getElem? (i := 1) rfl)))) (fun _ h9 => h9) rfl dX10_isFull_5 ?_
  refine g_alen (n := 60) hx hb hC.1 hG 22 (by decide) rfl dX10_isFull_8 ?_
  refine z_icmp_lt (tgt := 16) hx hb dX10_isFull_9 (by decide) (by omega) (by omega) (by omega) (by omega) (fun c_1 => ?_) (fun c_1 => ?_)
  · refine z_iconst hx hb dX10_isFull_16 ?_
    exact W.zret (ty := .boolean) (v := zI 0) hx hb hr (nar_b (by omega)) (fun t9 ht9_ hW => ⟨⟨zI 0, u, rfl, (by exact ⟨⟨0, rfl, by omega⟩, rfl⟩), gB.mk' hG hC hS ht9_ hW⟩, hS.F ht9_⟩) hS.2.2 dX10_isFull_17
  · refine z_iconst hx hb dX10_isFull_12 ?_
    refine lv_goto (tgt := 17) hx hb dX10_isFull_13 (by decide) ?_
    exact W.zret (ty := .boolean) (v := zI 1) hx hb hr (nar_b (by omega)) (fun t9 ht9_ hW => ⟨⟨zI 1, u, rfl, (by exact ⟨⟨1, rfl, by omega⟩, rfl⟩), gB.mk' hG hC hS ht9_ hW⟩, hS.F ht9_⟩) hS.2.2 dX10_isFull_17
set_option maxHeartbeats 4000000 in
set_option maxRecDepth 100000 in
theorem kX10_isFull_5 (l : Launch) (D : va_G) (cy : Nat → ClassId) (ad : Nat → Nat) (jf : Nat → Int64) (A : Nat → Prop) (u : gS) (hz : 0 ≤ u.1 16 ∧ u.1 16 ≤ 6) : Met l yX10_isFull wsX10_isFull ({ frames := 0, cells := 0, slots := 0, locals := 0 }) (va_Pc [.ref (ad 5)] (gB D cy ad jf A u)) (va_Qi (fun (r : Int32) (v : gS) => (∃ b : Int, r = zI b ∧ (b = 1 ∧ 6 ≤ u.1 16 ∨ b = 0 ∧ ¬ (6 ≤ u.1 16))) ∧ v = u) (gB D cy ad jf A) A) 0 0 A := by
  refine Met.ofW (cc := cX10_isFull) (maxL := 1) (ret := (some .boolean)) (by decide) rfl ?_
  intro p e s m args below meth c s₁ B hml hv
  obtain ⟨rfl, hG, hC⟩ := hv
  have hx := B.exec
  have hb := B.bytes
  have hr := B.returns
  have hts := atoms_spec (ws := wsX10_isFull) B.pre
  have hown : s.vm.findClass RX10 = some m.cls := findClass_of_methodNamed B.named
  have hlocks := B.notSynchronized
  have hS : va_S A s.heap s.heap [] := va_S.rf
  have hl := lv_entry ([.ref (ad 5)]) (n := 1) (Nat.le_of_ble_eq_true rfl)
  rw [lg_entry_eq]
  generalize (lg_sl ([.ref (ad 5)]) ++ List.replicate (1 - (lg_sl ([.ref (ad 5)])).length) Slot.unset).toArray = ls at hl ⊢
  have hl : lv_has ls 1 [(0, .ref (ad 5))] := hl
  refine lv_aload_n hx hb dX10_isFull_0 rfl (lv_at hl 0 rfl) ?_
  refine g_get (C := RX10) (T := TX10) (N := 2) (ci := 9) hx hb hts (fun _ h => (List.mem_cons_of_mem _ (List.mem_append_right _ h))) hown hC.1 hG 5 (by decide) rfl rfl 1 (by decide) (hts (.fieldLink RX10 7 "StraitSwim$Tally" "size" "I") (List.mem_cons_of_mem _ (List.mem_append_left _ (List.mem_of_getElem? (i := 0) rfl)))) (fun _ h9 => h9) rfl dX10_isFull_1 ?_
  refine lv_aload_n hx hb dX10_isFull_4 rfl (lv_at hl 0 rfl) ?_
  refine g_get (C := RX10) (T := TX10) (N := 2) (ci := 9) hx hb hts (fun _ h => (List.mem_cons_of_mem _ (List.mem_append_right _ h))) hown hC.1 hG 5 (by decide) rfl rfl 0 (by decide) (hts (.fieldLink RX10 13 "StraitSwim$Tally" "items" "[I") (List.mem_cons_of_mem _ (List.mem_append_left _ (List.mem_of_getElem? (i := 1) rfl)))) (fun _ h9 => h9) rfl dX10_isFull_5 ?_
  refine g_alen (n := 6) hx hb hC.1 hG 23 (by decide) rfl dX10_isFull_8 ?_
  refine z_icmp_lt (tgt := 16) hx hb dX10_isFull_9 (by decide) (by omega) (by omega) (by omega) (by omega) (fun c_1 => ?_) (fun c_1 => ?_)
  · refine z_iconst hx hb dX10_isFull_16 ?_
    exact W.zret (ty := .boolean) (v := zI 0) hx hb hr (nar_b (by omega)) (fun t9 ht9_ hW => ⟨⟨zI 0, u, rfl, (by exact ⟨⟨0, rfl, by omega⟩, rfl⟩), gB.mk' hG hC hS ht9_ hW⟩, hS.F ht9_⟩) hS.2.2 dX10_isFull_17
  · refine z_iconst hx hb dX10_isFull_12 ?_
    refine lv_goto (tgt := 17) hx hb dX10_isFull_13 (by decide) ?_
    exact W.zret (ty := .boolean) (v := zI 1) hx hb hr (nar_b (by omega)) (fun t9 ht9_ hW => ⟨⟨zI 1, u, rfl, (by exact ⟨⟨1, rfl, by omega⟩, rfl⟩), gB.mk' hG hC hS ht9_ hW⟩, hS.F ht9_⟩) hS.2.2 dX10_isFull_17
set_option maxHeartbeats 4000000 in
set_option maxRecDepth 100000 in
theorem kX10_isFull_6 (l : Launch) (D : va_G) (cy : Nat → ClassId) (ad : Nat → Nat) (jf : Nat → Int64) (A : Nat → Prop) (u : gS) (hz : 0 ≤ u.1 17 ∧ u.1 17 ≤ 40) : Met l yX10_isFull wsX10_isFull ({ frames := 0, cells := 0, slots := 0, locals := 0 }) (va_Pc [.ref (ad 6)] (gB D cy ad jf A u)) (va_Qi (fun (r : Int32) (v : gS) => (∃ b : Int, r = zI b ∧ (b = 1 ∧ 40 ≤ u.1 17 ∨ b = 0 ∧ ¬ (40 ≤ u.1 17))) ∧ v = u) (gB D cy ad jf A) A) 0 0 A := by
  refine Met.ofW (cc := cX10_isFull) (maxL := 1) (ret := (some .boolean)) (by decide) rfl ?_
  intro p e s m args below meth c s₁ B hml hv
  obtain ⟨rfl, hG, hC⟩ := hv
  have hx := B.exec
  have hb := B.bytes
  have hr := B.returns
  have hts := atoms_spec (ws := wsX10_isFull) B.pre
  have hown : s.vm.findClass RX10 = some m.cls := findClass_of_methodNamed B.named
  have hlocks := B.notSynchronized
  have hS : va_S A s.heap s.heap [] := va_S.rf
  have hl := lv_entry ([.ref (ad 6)]) (n := 1) (Nat.le_of_ble_eq_true rfl)
  rw [lg_entry_eq]
  generalize (lg_sl ([.ref (ad 6)]) ++ List.replicate (1 - (lg_sl ([.ref (ad 6)])).length) Slot.unset).toArray = ls at hl ⊢
  have hl : lv_has ls 1 [(0, .ref (ad 6))] := hl
  refine lv_aload_n hx hb dX10_isFull_0 rfl (lv_at hl 0 rfl) ?_
  refine g_get (C := RX10) (T := TX10) (N := 2) (ci := 9) hx hb hts (fun _ h => (List.mem_cons_of_mem _ (List.mem_append_right _ h))) hown hC.1 hG 6 (by decide) rfl rfl 1 (by decide) (hts (.fieldLink RX10 7 "StraitSwim$Tally" "size" "I") (List.mem_cons_of_mem _ (List.mem_append_left _ (List.mem_of_getElem? (i := 0) rfl)))) (fun _ h9 => h9) rfl dX10_isFull_1 ?_
  refine lv_aload_n hx hb dX10_isFull_4 rfl (lv_at hl 0 rfl) ?_
  refine g_get (C := RX10) (T := TX10) (N := 2) (ci := 9) hx hb hts (fun _ h => (List.mem_cons_of_mem _ (List.mem_append_right _ h))) hown hC.1 hG 6 (by decide) rfl rfl 0 (by decide) (hts (.fieldLink RX10 13 "StraitSwim$Tally" "items" "[I") (List.mem_cons_of_mem _ (List.mem_append_left _ (List.mem_of_getElem? (i := 1) rfl)))) (fun _ h9 => h9) rfl dX10_isFull_5 ?_
  refine g_alen (n := 40) hx hb hC.1 hG 24 (by decide) rfl dX10_isFull_8 ?_
  refine z_icmp_lt (tgt := 16) hx hb dX10_isFull_9 (by decide) (by omega) (by omega) (by omega) (by omega) (fun c_1 => ?_) (fun c_1 => ?_)
  · refine z_iconst hx hb dX10_isFull_16 ?_
    exact W.zret (ty := .boolean) (v := zI 0) hx hb hr (nar_b (by omega)) (fun t9 ht9_ hW => ⟨⟨zI 0, u, rfl, (by exact ⟨⟨0, rfl, by omega⟩, rfl⟩), gB.mk' hG hC hS ht9_ hW⟩, hS.F ht9_⟩) hS.2.2 dX10_isFull_17
  · refine z_iconst hx hb dX10_isFull_12 ?_
    refine lv_goto (tgt := 17) hx hb dX10_isFull_13 (by decide) ?_
    exact W.zret (ty := .boolean) (v := zI 1) hx hb hr (nar_b (by omega)) (fun t9 ht9_ hW => ⟨⟨zI 1, u, rfl, (by exact ⟨⟨1, rfl, by omega⟩, rfl⟩), gB.mk' hG hC hS ht9_ hW⟩, hS.F ht9_⟩) hS.2.2 dX10_isFull_17
set_option maxHeartbeats 4000000 in
set_option maxRecDepth 100000 in
theorem kX10_add_4 (l : Launch) (D : va_G) (cy : Nat → ClassId) (ad : Nat → Nat) (jf : Nat → Int64) (A : Nat → Prop) (u : gS) (p1 : Int) (hz : 0 ≤ u.1 15 ∧ u.1 15 < 60) : Met l yX10_add wsX10_add ({ frames := 1, cells := 0, slots := 0, locals := 20 }) (va_Pc [.ref (ad 4), .int (zI p1)] (gB D cy ad jf A u)) (va_Qv (fun (v : gS) => v = sI (sF u 22 (va_up (u.2.1 22) (u.1 15).toNat p1)) 15 (u.1 15 + 1)) (gB D cy ad jf A) A) 0 0 A := by
  refine Met.ofW (cc := cX10_add) (maxL := 2) (ret := none) (by decide) rfl ?_
  intro p e s m args below meth c s₁ B hml hv
  obtain ⟨rfl, hG, hC⟩ := hv
  have hx := B.exec
  have hb := B.bytes
  have hr := B.returns
  have hts := atoms_spec (ws := wsX10_add) B.pre
  have hown : s.vm.findClass RX10 = some m.cls := findClass_of_methodNamed B.named
  have hlocks := B.notSynchronized
  have hS : va_S A s.heap s.heap [] := va_S.rf
  have hl := lv_entry ([.ref (ad 4), .int (zI p1)]) (n := 2) (Nat.le_of_ble_eq_true rfl)
  rw [lg_entry_eq]
  generalize (lg_sl ([.ref (ad 4), .int (zI p1)]) ++ List.replicate (2 - (lg_sl ([.ref (ad 4), .int (zI p1)])).length) Slot.unset).toArray = ls at hl ⊢
  have hl : lv_has ls 2 [(0, .ref (ad 4)), (1, .int (zI p1))] := hl
  refine lv_aload_n hx hb dX10_add_0 rfl (lv_at hl 0 rfl) ?_
  refine g_calli (va_runV (As := []) (rest := []) ⟨hx, hb, hml, hown, hts⟩ (kX10_isFull_4 l D cy ad jf A u  (by omega)) (cwV 0 hts gX10_add_X10_isFull rfl rfl rfl (by decide +kernel) ⟨by decide, by decide⟩) (g_preV (C := RX10) hG hC hS 4 (by decide) rfl rfl) rfl rfl hl.1 rfl (lv_room (Nat.le_of_ble_eq_true rfl)) dX10_add_1 ⟨Nat.le_of_ble_eq_true rfl, Nat.le_of_ble_eq_true rfl⟩) hS (fun r1 u2 H locs p_3 hG hS => ?_)
  obtain ⟨⟨b4, rfl, q_5⟩, he_⟩ := p_3
  rw [he_] at hG; clear he_
  have hbb4 : 0 ≤ b4 ∧ b4 ≤ 1 := by rcases q_5 with ⟨h, _⟩ | ⟨h, _⟩ <;> omega
  refine z_if_ne (tgt := 27) hx hb dX10_add_4 (by decide) (by omega) (by omega) (fun c_6 => ?_) (fun c_6 => ?_)
  · exact W.vret hx hb hr (fun t9 ht9_ hW => ⟨⟨u, rfl, (by first | (exfalso; omega) | (skip; rfl)), gB.mk' hG hC hS ht9_ hW⟩, hS.F ht9_⟩) hS.2.2 dX10_add_27
  · refine lv_aload_n hx hb dX10_add_7 rfl (lv_at hl 0 rfl) ?_
    refine g_get (C := RX10) (T := TX10) (N := 2) (ci := 9) hx hb hts (fun _ h => (List.mem_cons_of_mem _ (List.mem_append_right _ h))) hown hC.1 hG 4 (by decide) rfl rfl 0 (by decide) (hts (.fieldLink RX10 13 "StraitSwim$Tally" "items" "[I") (List.mem_cons_of_mem _ (List.mem_append_left _ (List.mem_of_getElem? (i := 0) rfl)))) (fun _ h9 => h9) rfl dX10_add_8 ?_
    refine lv_aload_n hx hb dX10_add_11 rfl (lv_at hl 0 rfl) ?_
    refine g_get (C := RX10) (T := TX10) (N := 2) (ci := 9) hx hb hts (fun _ h => (List.mem_cons_of_mem _ (List.mem_append_right _ h))) hown hC.1 hG 4 (by decide) rfl rfl 1 (by decide) (hts (.fieldLink RX10 7 "StraitSwim$Tally" "size" "I") (List.mem_cons_of_mem _ (List.mem_append_left _ (List.mem_of_getElem? (i := 1) rfl)))) (fun _ h9 => h9) rfl dX10_add_12 ?_
    refine lv_iload_n hx hb dX10_add_15 rfl (lv_at hl 1 rfl) ?_
    refine g_iast (n := 60) hx hb hC.1 hG hS 22 (by decide) rfl rfl (by omega) (by omega) (by decide) dX10_add_16 (fun u7 H locs hu7 hG hS => ?_)
    refine lv_aload_n hx hb dX10_add_17 rfl (lv_at hl 0 rfl) ?_
    refine lv_dup hx hb dX10_add_18 rfl ?_
    refine g_get (C := RX10) (T := TX10) (N := 2) (ci := 9) hx hb hts (fun _ h => (List.mem_cons_of_mem _ (List.mem_append_right _ h))) hown hC.1 hG 4 (by decide) rfl rfl 1 (by decide) (hts (.fieldLink RX10 7 "StraitSwim$Tally" "size" "I") (List.mem_cons_of_mem _ (List.mem_append_left _ (List.mem_of_getElem? (i := 1) rfl)))) (fun _ h9 => h9) rfl dX10_add_19 ?_
    have e_8 : u7.1 15 = u.1 15 := by subst hu7; rfl
    rw [e_8]
    refine z_iconst hx hb dX10_add_22 ?_
    refine z_iadd hx hb dX10_add_23 ?_
    refine g_put (C := RX10) (T := TX10) (N := 2) (ci := 9) (ty := .int) hx hb hts (fun _ h => (List.mem_cons_of_mem _ (List.mem_append_right _ h))) tyX10 tyX10_ok nmX10 hown hC.1 hG hS 4 (by decide) rfl rfl 1 15 (by decide) (hts (.fieldLink RX10 7 "StraitSwim$Tally" "size" "I") (List.mem_cons_of_mem _ (List.mem_append_left _ (List.mem_of_getElem? (i := 1) rfl)))) (fun _ h9 => h9) rfl (by decide +kernel) rfl rfl (Nat.le_of_ble_eq_true rfl) rfl (gO_15 ad _ _) dX10_add_24 (fun u9 H locs hu9 hG hS => ?_)
    exact W.vret hx hb hr (fun t9 ht9_ hW => ⟨⟨u9, rfl, (by first | (exfalso; omega) | (subst hu9; subst hu7; rfl)), gB.mk' hG hC hS ht9_ hW⟩, hS.F ht9_⟩) hS.2.2 dX10_add_27
set_option maxHeartbeats 4000000 in
set_option maxRecDepth 100000 in
theorem kX10_add_5 (l : Launch) (D : va_G) (cy : Nat → ClassId) (ad : Nat → Nat) (jf : Nat → Int64) (A : Nat → Prop) (u : gS) (p1 : Int) (hz : 0 ≤ u.1 16 ∧ u.1 16 < 6) : Met l yX10_add wsX10_add ({ frames := 1, cells := 0, slots := 0, locals := 20 }) (va_Pc [.ref (ad 5), .int (zI p1)] (gB D cy ad jf A u)) (va_Qv (fun (v : gS) => v = sI (sF u 23 (va_up (u.2.1 23) (u.1 16).toNat p1)) 16 (u.1 16 + 1)) (gB D cy ad jf A) A) 0 0 A := by
  refine Met.ofW (cc := cX10_add) (maxL := 2) (ret := none) (by decide) rfl ?_
  intro p e s m args below meth c s₁ B hml hv
  obtain ⟨rfl, hG, hC⟩ := hv
  have hx := B.exec
  have hb := B.bytes
  have hr := B.returns
  have hts := atoms_spec (ws := wsX10_add) B.pre
  have hown : s.vm.findClass RX10 = some m.cls := findClass_of_methodNamed B.named
  have hlocks := B.notSynchronized
  have hS : va_S A s.heap s.heap [] := va_S.rf
  have hl := lv_entry ([.ref (ad 5), .int (zI p1)]) (n := 2) (Nat.le_of_ble_eq_true rfl)
  rw [lg_entry_eq]
  generalize (lg_sl ([.ref (ad 5), .int (zI p1)]) ++ List.replicate (2 - (lg_sl ([.ref (ad 5), .int (zI p1)])).length) Slot.unset).toArray = ls at hl ⊢
  have hl : lv_has ls 2 [(0, .ref (ad 5)), (1, .int (zI p1))] := hl
  refine lv_aload_n hx hb dX10_add_0 rfl (lv_at hl 0 rfl) ?_
  refine g_calli (va_runV (As := []) (rest := []) ⟨hx, hb, hml, hown, hts⟩ (kX10_isFull_5 l D cy ad jf A u  (by omega)) (cwV 0 hts gX10_add_X10_isFull rfl rfl rfl (by decide +kernel) ⟨by decide, by decide⟩) (g_preV (C := RX10) hG hC hS 5 (by decide) rfl rfl) rfl rfl hl.1 rfl (lv_room (Nat.le_of_ble_eq_true rfl)) dX10_add_1 ⟨Nat.le_of_ble_eq_true rfl, Nat.le_of_ble_eq_true rfl⟩) hS (fun r1 u2 H locs p_3 hG hS => ?_)
  obtain ⟨⟨b4, rfl, q_5⟩, he_⟩ := p_3
  rw [he_] at hG; clear he_
  have hbb4 : 0 ≤ b4 ∧ b4 ≤ 1 := by rcases q_5 with ⟨h, _⟩ | ⟨h, _⟩ <;> omega
  refine z_if_ne (tgt := 27) hx hb dX10_add_4 (by decide) (by omega) (by omega) (fun c_6 => ?_) (fun c_6 => ?_)
  · exact W.vret hx hb hr (fun t9 ht9_ hW => ⟨⟨u, rfl, (by first | (exfalso; omega) | (skip; rfl)), gB.mk' hG hC hS ht9_ hW⟩, hS.F ht9_⟩) hS.2.2 dX10_add_27
  · refine lv_aload_n hx hb dX10_add_7 rfl (lv_at hl 0 rfl) ?_
    refine g_get (C := RX10) (T := TX10) (N := 2) (ci := 9) hx hb hts (fun _ h => (List.mem_cons_of_mem _ (List.mem_append_right _ h))) hown hC.1 hG 5 (by decide) rfl rfl 0 (by decide) (hts (.fieldLink RX10 13 "StraitSwim$Tally" "items" "[I") (List.mem_cons_of_mem _ (List.mem_append_left _ (List.mem_of_getElem? (i := 0) rfl)))) (fun _ h9 => h9) rfl dX10_add_8 ?_
    refine lv_aload_n hx hb dX10_add_11 rfl (lv_at hl 0 rfl) ?_
    refine g_get (C := RX10) (T := TX10) (N := 2) (ci := 9) hx hb hts (fun _ h => (List.mem_cons_of_mem _ (List.mem_append_right _ h))) hown hC.1 hG 5 (by decide) rfl rfl 1 (by decide) (hts (.fieldLink RX10 7 "StraitSwim$Tally" "size" "I") (List.mem_cons_of_mem _ (List.mem_append_left _ (List.mem_of_getElem? (i := 1) rfl)))) (fun _ h9 => h9) rfl dX10_add_12 ?_
    refine lv_iload_n hx hb dX10_add_15 rfl (lv_at hl 1 rfl) ?_
    refine g_iast (n := 6) hx hb hC.1 hG hS 23 (by decide) rfl rfl (by omega) (by omega) (by decide) dX10_add_16 (fun u7 H locs hu7 hG hS => ?_)
    refine lv_aload_n hx hb dX10_add_17 rfl (lv_at hl 0 rfl) ?_
    refine lv_dup hx hb dX10_add_18 rfl ?_
    refine g_get (C := RX10) (T := TX10) (N := 2) (ci := 9) hx hb hts (fun _ h => (List.mem_cons_of_mem _ (List.mem_append_right _ h))) hown hC.1 hG 5 (by decide) rfl rfl 1 (by decide) (hts (.fieldLink RX10 7 "StraitSwim$Tally" "size" "I") (List.mem_cons_of_mem _ (List.mem_append_left _ (List.mem_of_getElem? (i := 1) rfl)))) (fun _ h9 => h9) rfl dX10_add_19 ?_
    have e_8 : u7.1 16 = u.1 16 := by subst hu7; rfl
    rw [e_8]
    refine z_iconst hx hb dX10_add_22 ?_
    refine z_iadd hx hb dX10_add_23 ?_
    refine g_put (C := RX10) (T := TX10) (N := 2) (ci := 9) (ty := .int) hx hb hts (fun _ h => (List.mem_cons_of_mem _ (List.mem_append_right _ h))) tyX10 tyX10_ok nmX10 hown hC.1 hG hS 5 (by decide) rfl rfl 1 16 (by decide) (hts (.fieldLink RX10 7 "StraitSwim$Tally" "size" "I") (List.mem_cons_of_mem _ (List.mem_append_left _ (List.mem_of_getElem? (i := 1) rfl)))) (fun _ h9 => h9) rfl (by decide +kernel) rfl rfl (Nat.le_of_ble_eq_true rfl) rfl (gO_16 ad _ _) dX10_add_24 (fun u9 H locs hu9 hG hS => ?_)
    exact W.vret hx hb hr (fun t9 ht9_ hW => ⟨⟨u9, rfl, (by first | (exfalso; omega) | (subst hu9; subst hu7; rfl)), gB.mk' hG hC hS ht9_ hW⟩, hS.F ht9_⟩) hS.2.2 dX10_add_27
set_option maxHeartbeats 4000000 in
set_option maxRecDepth 100000 in
theorem kX10_add_6 (l : Launch) (D : va_G) (cy : Nat → ClassId) (ad : Nat → Nat) (jf : Nat → Int64) (A : Nat → Prop) (u : gS) (p1 : Int) (hz : 0 ≤ u.1 17 ∧ u.1 17 < 40) : Met l yX10_add wsX10_add ({ frames := 1, cells := 0, slots := 0, locals := 20 }) (va_Pc [.ref (ad 6), .int (zI p1)] (gB D cy ad jf A u)) (va_Qv (fun (v : gS) => v = sI (sF u 24 (va_up (u.2.1 24) (u.1 17).toNat p1)) 17 (u.1 17 + 1)) (gB D cy ad jf A) A) 0 0 A := by
  refine Met.ofW (cc := cX10_add) (maxL := 2) (ret := none) (by decide) rfl ?_
  intro p e s m args below meth c s₁ B hml hv
  obtain ⟨rfl, hG, hC⟩ := hv
  have hx := B.exec
  have hb := B.bytes
  have hr := B.returns
  have hts := atoms_spec (ws := wsX10_add) B.pre
  have hown : s.vm.findClass RX10 = some m.cls := findClass_of_methodNamed B.named
  have hlocks := B.notSynchronized
  have hS : va_S A s.heap s.heap [] := va_S.rf
  have hl := lv_entry ([.ref (ad 6), .int (zI p1)]) (n := 2) (Nat.le_of_ble_eq_true rfl)
  rw [lg_entry_eq]
  generalize (lg_sl ([.ref (ad 6), .int (zI p1)]) ++ List.replicate (2 - (lg_sl ([.ref (ad 6), .int (zI p1)])).length) Slot.unset).toArray = ls at hl ⊢
  have hl : lv_has ls 2 [(0, .ref (ad 6)), (1, .int (zI p1))] := hl
  refine lv_aload_n hx hb dX10_add_0 rfl (lv_at hl 0 rfl) ?_
  refine g_calli (va_runV (As := []) (rest := []) ⟨hx, hb, hml, hown, hts⟩ (kX10_isFull_6 l D cy ad jf A u  (by omega)) (cwV 0 hts gX10_add_X10_isFull rfl rfl rfl (by decide +kernel) ⟨by decide, by decide⟩) (g_preV (C := RX10) hG hC hS 6 (by decide) rfl rfl) rfl rfl hl.1 rfl (lv_room (Nat.le_of_ble_eq_true rfl)) dX10_add_1 ⟨Nat.le_of_ble_eq_true rfl, Nat.le_of_ble_eq_true rfl⟩) hS (fun r1 u2 H locs p_3 hG hS => ?_)
  obtain ⟨⟨b4, rfl, q_5⟩, he_⟩ := p_3
  rw [he_] at hG; clear he_
  have hbb4 : 0 ≤ b4 ∧ b4 ≤ 1 := by rcases q_5 with ⟨h, _⟩ | ⟨h, _⟩ <;> omega
  refine z_if_ne (tgt := 27) hx hb dX10_add_4 (by decide) (by omega) (by omega) (fun c_6 => ?_) (fun c_6 => ?_)
  · exact W.vret hx hb hr (fun t9 ht9_ hW => ⟨⟨u, rfl, (by first | (exfalso; omega) | (skip; rfl)), gB.mk' hG hC hS ht9_ hW⟩, hS.F ht9_⟩) hS.2.2 dX10_add_27
  · refine lv_aload_n hx hb dX10_add_7 rfl (lv_at hl 0 rfl) ?_
    refine g_get (C := RX10) (T := TX10) (N := 2) (ci := 9) hx hb hts (fun _ h => (List.mem_cons_of_mem _ (List.mem_append_right _ h))) hown hC.1 hG 6 (by decide) rfl rfl 0 (by decide) (hts (.fieldLink RX10 13 "StraitSwim$Tally" "items" "[I") (List.mem_cons_of_mem _ (List.mem_append_left _ (List.mem_of_getElem? (i := 0) rfl)))) (fun _ h9 => h9) rfl dX10_add_8 ?_
    refine lv_aload_n hx hb dX10_add_11 rfl (lv_at hl 0 rfl) ?_
    refine g_get (C := RX10) (T := TX10) (N := 2) (ci := 9) hx hb hts (fun _ h => (List.mem_cons_of_mem _ (List.mem_append_right _ h))) hown hC.1 hG 6 (by decide) rfl rfl 1 (by decide) (hts (.fieldLink RX10 7 "StraitSwim$Tally" "size" "I") (List.mem_cons_of_mem _ (List.mem_append_left _ (List.mem_of_getElem? (i := 1) rfl)))) (fun _ h9 => h9) rfl dX10_add_12 ?_
    refine lv_iload_n hx hb dX10_add_15 rfl (lv_at hl 1 rfl) ?_
    refine g_iast (n := 40) hx hb hC.1 hG hS 24 (by decide) rfl rfl (by omega) (by omega) (by decide) dX10_add_16 (fun u7 H locs hu7 hG hS => ?_)
    refine lv_aload_n hx hb dX10_add_17 rfl (lv_at hl 0 rfl) ?_
    refine lv_dup hx hb dX10_add_18 rfl ?_
    refine g_get (C := RX10) (T := TX10) (N := 2) (ci := 9) hx hb hts (fun _ h => (List.mem_cons_of_mem _ (List.mem_append_right _ h))) hown hC.1 hG 6 (by decide) rfl rfl 1 (by decide) (hts (.fieldLink RX10 7 "StraitSwim$Tally" "size" "I") (List.mem_cons_of_mem _ (List.mem_append_left _ (List.mem_of_getElem? (i := 1) rfl)))) (fun _ h9 => h9) rfl dX10_add_19 ?_
    have e_8 : u7.1 17 = u.1 17 := by subst hu7; rfl
    rw [e_8]
    refine z_iconst hx hb dX10_add_22 ?_
    refine z_iadd hx hb dX10_add_23 ?_
    refine g_put (C := RX10) (T := TX10) (N := 2) (ci := 9) (ty := .int) hx hb hts (fun _ h => (List.mem_cons_of_mem _ (List.mem_append_right _ h))) tyX10 tyX10_ok nmX10 hown hC.1 hG hS 6 (by decide) rfl rfl 1 17 (by decide) (hts (.fieldLink RX10 7 "StraitSwim$Tally" "size" "I") (List.mem_cons_of_mem _ (List.mem_append_left _ (List.mem_of_getElem? (i := 1) rfl)))) (fun _ h9 => h9) rfl (by decide +kernel) rfl rfl (Nat.le_of_ble_eq_true rfl) rfl (gO_17 ad _ _) dX10_add_24 (fun u9 H locs hu9 hG hS => ?_)
    exact W.vret hx hb hr (fun t9 ht9_ hW => ⟨⟨u9, rfl, (by first | (exfalso; omega) | (subst hu9; subst hu7; rfl)), gB.mk' hG hC hS ht9_ hW⟩, hS.F ht9_⟩) hS.2.2 dX10_add_27
set_option maxHeartbeats 4000000 in
set_option maxRecDepth 100000 in
theorem kX8_isDry (l : Launch) (D : va_G) (cy : Nat → ClassId) (ad : Nat → Nat) (jf : Nat → Int64) (A : Nat → Prop) (u : gS) (x y : Int) (j_x : 0 ≤ x ∧ x ≤ 239) (j_y : 0 ≤ y ∧ y ≤ 119) (hd : ∀ j, j < 288 → u.2.1 9 j = 0 ∨ u.2.1 9 j = 1) : Met l yX8_isDry wsX8_isDry ({ frames := 2, cells := 0, slots := 0, locals := 43 }) (va_Pc [.ref (ad 1), .int (zI x), .int (zI y)] (gB D cy ad jf A u)) (va_Qi (fun (r : Int32) (v : gS) => r = zI (spDry (u.2.1 9) x y) ∧ v = u) (gB D cy ad jf A) A) 0 0 A := by
  refine Met.ofW (cc := cX8_isDry) (maxL := 3) (ret := (some .boolean)) (by decide) rfl ?_
  intro p e s m args below meth c s₁ B hml hv
  obtain ⟨rfl, hG, hC⟩ := hv
  have hx := B.exec
  have hb := B.bytes
  have hr := B.returns
  have hts := atoms_spec (ws := wsX8_isDry) B.pre
  have hown : s.vm.findClass RX8 = some m.cls := findClass_of_methodNamed B.named
  have hlocks := B.notSynchronized
  have hS : va_S A s.heap s.heap [] := va_S.rf
  have hl := lv_entry ([.ref (ad 1), .int (zI x), .int (zI y)]) (n := 3) (Nat.le_of_ble_eq_true rfl)
  rw [lg_entry_eq]
  generalize (lg_sl ([.ref (ad 1), .int (zI x), .int (zI y)]) ++ List.replicate (3 - (lg_sl ([.ref (ad 1), .int (zI x), .int (zI y)])).length) Slot.unset).toArray = ls at hl ⊢
  have hl : lv_has ls 3 [(0, .ref (ad 1)), (1, .int (zI x)), (2, .int (zI y))] := hl
  refine lv_iload_n hx hb dX8_isDry_0 rfl (lv_at hl 1 rfl) ?_
  refine lv_iload_n hx hb dX8_isDry_1 rfl (lv_at hl 2 rfl) ?_
  refine g_calli (va_runSN (As := [.int (zI x), .int (zI y)]) (rest := []) ⟨hx, hb, hml, hown, hts⟩ (kX11_isPlace l D cy ad jf A u x y (by omega) (by omega)) ⟨va_cnB 2 hts gX8_isDry_X11_isPlace_n26 rfl rfl rfl hC.2.2.2.1.1 (hts (.initialized RX11) (List.mem_cons_of_mem _ (List.mem_append_left _ (List.mem_of_getElem? (i := 2) rfl)))) (by decide +kernel) ⟨by decide, by decide⟩, (hts (.static yX11_isPlace) (List.mem_cons_of_mem _ (List.mem_append_left _ (List.mem_of_getElem? (i := 1) rfl)))), trivial⟩ (g_preS hG hC hS) rfl rfl hl.1 rfl (lv_room (Nat.le_of_ble_eq_true rfl)) dX8_isDry_2 ⟨Nat.le_of_ble_eq_true rfl, Nat.le_of_ble_eq_true rfl⟩) hS (fun r1 u2 H locs p_3 hG hS => ?_)
  obtain ⟨⟨b4, rfl, q_5⟩, he_⟩ := p_3
  rw [he_] at hG; clear he_
  have hbb4 : 0 ≤ b4 ∧ b4 ≤ 1 := by rcases q_5 with ⟨h, _⟩ | ⟨h, _⟩ <;> omega
  refine z_if_eq (tgt := 32) hx hb dX8_isDry_5 (by decide) (by omega) (by omega) (fun c_6 => ?_) (fun c_6 => ?_)
  · refine z_iconst hx hb dX8_isDry_32 ?_
    exact W.zret (ty := .boolean) (v := zI 0) hx hb hr (nar_b (by omega)) (fun t9 ht9_ hW => ⟨⟨zI 0, u, rfl, (by first | (exfalso; omega) | (refine ⟨?_, rfl⟩; unfold spDry; congr 1; omega)), gB.mk' hG hC hS ht9_ hW⟩, hS.F ht9_⟩) hS.2.2 dX8_isDry_33
  · refine lv_aload_n hx hb dX8_isDry_8 rfl (lv_at hl 0 rfl) ?_
    refine g_get (C := RX8) (T := TX8) (N := 4) (ci := 7) hx hb hts (fun _ h => (List.mem_cons_of_mem _ (List.mem_append_right _ h))) hown hC.1 hG 1 (by decide) rfl rfl 0 (by decide) (hts (.fieldLink RX8 9 "StraitSwim$Strait" "dry" "[Z") (List.mem_cons_of_mem _ (List.mem_append_left _ (List.mem_of_getElem? (i := 0) rfl)))) (fun _ h9 => h9) rfl dX8_isDry_9 ?_
    refine lv_iload_n hx hb dX8_isDry_12 rfl (lv_at hl 2 rfl) ?_
    refine z_bipush hx hb dX8_isDry_13 (by decide) ?_
    refine z_idiv hx hb dX8_isDry_15 (by omega) (by omega) (by omega) (by omega) ?_
    refine z_bipush hx hb dX8_isDry_16 (by decide) ?_
    refine z_imul hx hb dX8_isDry_18 ?_
    refine lv_iload_n hx hb dX8_isDry_19 rfl (lv_at hl 1 rfl) ?_
    refine z_bipush hx hb dX8_isDry_20 (by decide) ?_
    refine z_idiv hx hb dX8_isDry_22 (by omega) (by omega) (by omega) (by omega) ?_
    refine z_iadd hx hb dX8_isDry_23 ?_
    refine g_zald (n := 288) hx hb hC.1 hG 9 (by decide) rfl (by omega) (by omega) (by decide) dX8_isDry_24 ?_
    have q_7 := hd (((y / 10) * 24) + (x / 10)).toNat (by omega)
    refine z_if_eq (tgt := 32) hx hb dX8_isDry_25 (by decide) (by omega) (by omega) (fun c_8 => ?_) (fun c_8 => ?_)
    · refine z_iconst hx hb dX8_isDry_32 ?_
      exact W.zret (ty := .boolean) (v := zI 0) hx hb hr (nar_b (by omega)) (fun t9 ht9_ hW => ⟨⟨zI 0, u, rfl, (by first | (exfalso; omega) | (refine ⟨?_, rfl⟩; unfold spDry; congr 1; omega)), gB.mk' hG hC hS ht9_ hW⟩, hS.F ht9_⟩) hS.2.2 dX8_isDry_33
    · refine z_iconst hx hb dX8_isDry_28 ?_
      refine lv_goto (tgt := 33) hx hb dX8_isDry_29 (by decide) ?_
      exact W.zret (ty := .boolean) (v := zI 1) hx hb hr (nar_b (by omega)) (fun t9 ht9_ hW => ⟨⟨zI 1, u, rfl, (by first | (exfalso; omega) | (refine ⟨?_, rfl⟩; unfold spDry; congr 1; omega)), gB.mk' hG hC hS ht9_ hW⟩, hS.F ht9_⟩) hS.2.2 dX8_isDry_33
set_option maxHeartbeats 4000000 in
set_option maxRecDepth 100000 in
theorem kX8_turnTide (l : Launch) (D : va_G) (cy : Nat → ClassId) (ad : Nat → Nat) (jf : Nat → Int64) (A : Nat → Prop) (u : gS) (p1 p2 p3 : Int) (j_1 : 0 ≤ p1 ∧ p1 ≤ 35) (j_2 : -9 ≤ p2 ∧ p2 ≤ 9) (j_3 : -9 ≤ p3 ∧ p3 ≤ 9) (i10 : ∀ j, j < 36 → -9 ≤ u.2.1 10 j ∧ u.2.1 10 j ≤ 9) (i11 : ∀ j, j < 36 → -9 ≤ u.2.1 11 j ∧ u.2.1 11 j ≤ 9) : Met l yX8_turnTide wsX8_turnTide ({ frames := 0, cells := 0, slots := 0, locals := 0 }) (va_Pc [.ref (ad 1), .int (zI p1), .int (zI p2), .int (zI p3)] (gB D cy ad jf A u)) (va_Qi (fun (r : Int32) (v : gS) => r = zI (cTurn u p1 p2 p3).1 ∧ v = (cTurn u p1 p2 p3).2) (gB D cy ad jf A) A) 0 0 A := by
  refine Met.ofW (cc := cX8_turnTide) (maxL := 5) (ret := (some .boolean)) (by decide) rfl ?_
  intro p e s m args below meth c s₁ B hml hv
  obtain ⟨rfl, hG, hC⟩ := hv
  have hx := B.exec
  have hb := B.bytes
  have hr := B.returns
  have hts := atoms_spec (ws := wsX8_turnTide) B.pre
  have hown : s.vm.findClass RX8 = some m.cls := findClass_of_methodNamed B.named
  have hlocks := B.notSynchronized
  have hS : va_S A s.heap s.heap [] := va_S.rf
  have hl := lv_entry ([.ref (ad 1), .int (zI p1), .int (zI p2), .int (zI p3)]) (n := 5) (Nat.le_of_ble_eq_true rfl)
  rw [lg_entry_eq]
  generalize (lg_sl ([.ref (ad 1), .int (zI p1), .int (zI p2), .int (zI p3)]) ++ List.replicate (5 - (lg_sl ([.ref (ad 1), .int (zI p1), .int (zI p2), .int (zI p3)])).length) Slot.unset).toArray = ls at hl ⊢
  have hl : lv_has ls 5 [(0, .ref (ad 1)), (1, .int (zI p1)), (2, .int (zI p2)), (3, .int (zI p3))] := hl
  refine lv_aload_n hx hb dX8_turnTide_0 rfl (lv_at hl 0 rfl) ?_
  refine g_get (C := RX8) (T := TX8) (N := 4) (ci := 7) hx hb hts (fun _ h => (List.mem_cons_of_mem _ (List.mem_append_right _ h))) hown hC.1 hG 1 (by decide) rfl rfl 2 (by decide) (hts (.fieldLink RX8 19 "StraitSwim$Strait" "east" "[I") (List.mem_cons_of_mem _ (List.mem_append_left _ (List.mem_of_getElem? (i := 0) rfl)))) (fun _ h9 => h9) rfl dX8_turnTide_1 ?_
  refine lv_iload_n hx hb dX8_turnTide_4 rfl (lv_at hl 1 rfl) ?_
  refine g_iald (n := 36) hx hb hC.1 hG 10 (by decide) rfl (by omega) (by omega) (by decide) dX8_turnTide_5 ?_
  have q_1 := i10 p1.toNat (by omega)
  refine lv_iload_n hx hb dX8_turnTide_6 rfl (lv_at hl 2 rfl) ?_
  refine z_icmp_ne (tgt := 20) hx hb dX8_turnTide_7 (by decide) (by omega) (by omega) (by omega) (by omega) (fun c_2 => ?_) (fun c_2 => ?_)
  · refine z_iconst hx hb dX8_turnTide_20 ?_
    refine lv_goto (tgt := 25) hx hb dX8_turnTide_21 (by decide) ?_
    refine lv_istore (lv' := [(4, .int (zI 1)), (0, .ref (ad 1)), (1, .int (zI p1)), (2, .int (zI p2)), (3, .int (zI p3))]) hx hb dX8_turnTide_25 hl (by decide) rfl (fun ls hl => ?_)
    refine lv_aload_n hx hb dX8_turnTide_27 rfl (lv_at hl 1 rfl) ?_
    refine g_get (C := RX8) (T := TX8) (N := 4) (ci := 7) hx hb hts (fun _ h => (List.mem_cons_of_mem _ (List.mem_append_right _ h))) hown hC.1 hG 1 (by decide) rfl rfl 2 (by decide) (hts (.fieldLink RX8 19 "StraitSwim$Strait" "east" "[I") (List.mem_cons_of_mem _ (List.mem_append_left _ (List.mem_of_getElem? (i := 0) rfl)))) (fun _ h9 => h9) rfl dX8_turnTide_28 ?_
    refine lv_iload_n hx hb dX8_turnTide_31 rfl (lv_at hl 2 rfl) ?_
    refine lv_iload_n hx hb dX8_turnTide_32 rfl (lv_at hl 3 rfl) ?_
    refine g_iast (n := 36) hx hb hC.1 hG hS 10 (by decide) rfl rfl (by omega) (by omega) (by decide) dX8_turnTide_33 (fun u3 H locs hu3 hG hS => ?_)
    refine lv_aload_n hx hb dX8_turnTide_34 rfl (lv_at hl 1 rfl) ?_
    refine g_get (C := RX8) (T := TX8) (N := 4) (ci := 7) hx hb hts (fun _ h => (List.mem_cons_of_mem _ (List.mem_append_right _ h))) hown hC.1 hG 1 (by decide) rfl rfl 3 (by decide) (hts (.fieldLink RX8 23 "StraitSwim$Strait" "north" "[I") (List.mem_cons_of_mem _ (List.mem_append_left _ (List.mem_of_getElem? (i := 1) rfl)))) (fun _ h9 => h9) rfl dX8_turnTide_35 ?_
    refine lv_iload_n hx hb dX8_turnTide_38 rfl (lv_at hl 2 rfl) ?_
    refine lv_iload_n hx hb dX8_turnTide_39 rfl (lv_at hl 4 rfl) ?_
    refine g_iast (n := 36) hx hb hC.1 hG hS 11 (by decide) rfl rfl (by omega) (by omega) (by decide) dX8_turnTide_40 (fun u4 H locs hu4 hG hS => ?_)
    refine lv_iload hx hb dX8_turnTide_41 (lv_at hl 0 rfl) ?_
    exact W.zret (ty := .boolean) (v := zI 1) hx hb hr (nar_b (by omega)) (fun t9 ht9_ hW => ⟨⟨zI 1, u4, rfl, (by subst hu4; subst hu3; refine ⟨?_, ?_⟩ <;> unfold cTurn <;> (repeat (first | rw [if_pos (by omega)] | rw [if_neg (by omega)])) <;> first | done | rfl | (congr 1; omega) | (subst_vars; rfl)), gB.mk' hG hC hS ht9_ hW⟩, hS.F ht9_⟩) hS.2.2 dX8_turnTide_43
  · refine lv_aload_n hx hb dX8_turnTide_10 rfl (lv_at hl 0 rfl) ?_
    refine g_get (C := RX8) (T := TX8) (N := 4) (ci := 7) hx hb hts (fun _ h => (List.mem_cons_of_mem _ (List.mem_append_right _ h))) hown hC.1 hG 1 (by decide) rfl rfl 3 (by decide) (hts (.fieldLink RX8 23 "StraitSwim$Strait" "north" "[I") (List.mem_cons_of_mem _ (List.mem_append_left _ (List.mem_of_getElem? (i := 1) rfl)))) (fun _ h9 => h9) rfl dX8_turnTide_11 ?_
    refine lv_iload_n hx hb dX8_turnTide_14 rfl (lv_at hl 1 rfl) ?_
    refine g_iald (n := 36) hx hb hC.1 hG 11 (by decide) rfl (by omega) (by omega) (by decide) dX8_turnTide_15 ?_
    have q_5 := i11 p1.toNat (by omega)
    refine lv_iload_n hx hb dX8_turnTide_16 rfl (lv_at hl 3 rfl) ?_
    refine z_icmp_eq (tgt := 24) hx hb dX8_turnTide_17 (by decide) (by omega) (by omega) (by omega) (by omega) (fun c_6 => ?_) (fun c_6 => ?_)
    · refine z_iconst hx hb dX8_turnTide_24 ?_
      refine lv_istore (lv' := [(4, .int (zI 0)), (0, .ref (ad 1)), (1, .int (zI p1)), (2, .int (zI p2)), (3, .int (zI p3))]) hx hb dX8_turnTide_25 hl (by decide) rfl (fun ls hl => ?_)
      refine lv_aload_n hx hb dX8_turnTide_27 rfl (lv_at hl 1 rfl) ?_
      refine g_get (C := RX8) (T := TX8) (N := 4) (ci := 7) hx hb hts (fun _ h => (List.mem_cons_of_mem _ (List.mem_append_right _ h))) hown hC.1 hG 1 (by decide) rfl rfl 2 (by decide) (hts (.fieldLink RX8 19 "StraitSwim$Strait" "east" "[I") (List.mem_cons_of_mem _ (List.mem_append_left _ (List.mem_of_getElem? (i := 0) rfl)))) (fun _ h9 => h9) rfl dX8_turnTide_28 ?_
      refine lv_iload_n hx hb dX8_turnTide_31 rfl (lv_at hl 2 rfl) ?_
      refine lv_iload_n hx hb dX8_turnTide_32 rfl (lv_at hl 3 rfl) ?_
      refine g_iast (n := 36) hx hb hC.1 hG hS 10 (by decide) rfl rfl (by omega) (by omega) (by decide) dX8_turnTide_33 (fun u7 H locs hu7 hG hS => ?_)
      refine lv_aload_n hx hb dX8_turnTide_34 rfl (lv_at hl 1 rfl) ?_
      refine g_get (C := RX8) (T := TX8) (N := 4) (ci := 7) hx hb hts (fun _ h => (List.mem_cons_of_mem _ (List.mem_append_right _ h))) hown hC.1 hG 1 (by decide) rfl rfl 3 (by decide) (hts (.fieldLink RX8 23 "StraitSwim$Strait" "north" "[I") (List.mem_cons_of_mem _ (List.mem_append_left _ (List.mem_of_getElem? (i := 1) rfl)))) (fun _ h9 => h9) rfl dX8_turnTide_35 ?_
      refine lv_iload_n hx hb dX8_turnTide_38 rfl (lv_at hl 2 rfl) ?_
      refine lv_iload_n hx hb dX8_turnTide_39 rfl (lv_at hl 4 rfl) ?_
      refine g_iast (n := 36) hx hb hC.1 hG hS 11 (by decide) rfl rfl (by omega) (by omega) (by decide) dX8_turnTide_40 (fun u8 H locs hu8 hG hS => ?_)
      refine lv_iload hx hb dX8_turnTide_41 (lv_at hl 0 rfl) ?_
      exact W.zret (ty := .boolean) (v := zI 0) hx hb hr (nar_b (by omega)) (fun t9 ht9_ hW => ⟨⟨zI 0, u8, rfl, (by subst hu8; subst hu7; refine ⟨?_, ?_⟩ <;> unfold cTurn <;> (repeat (first | rw [if_pos (by omega)] | rw [if_neg (by omega)])) <;> first | done | rfl | (congr 1; omega) | (subst_vars; rfl)), gB.mk' hG hC hS ht9_ hW⟩, hS.F ht9_⟩) hS.2.2 dX8_turnTide_43
    · refine z_iconst hx hb dX8_turnTide_20 ?_
      refine lv_goto (tgt := 25) hx hb dX8_turnTide_21 (by decide) ?_
      refine lv_istore (lv' := [(4, .int (zI 1)), (0, .ref (ad 1)), (1, .int (zI p1)), (2, .int (zI p2)), (3, .int (zI p3))]) hx hb dX8_turnTide_25 hl (by decide) rfl (fun ls hl => ?_)
      refine lv_aload_n hx hb dX8_turnTide_27 rfl (lv_at hl 1 rfl) ?_
      refine g_get (C := RX8) (T := TX8) (N := 4) (ci := 7) hx hb hts (fun _ h => (List.mem_cons_of_mem _ (List.mem_append_right _ h))) hown hC.1 hG 1 (by decide) rfl rfl 2 (by decide) (hts (.fieldLink RX8 19 "StraitSwim$Strait" "east" "[I") (List.mem_cons_of_mem _ (List.mem_append_left _ (List.mem_of_getElem? (i := 0) rfl)))) (fun _ h9 => h9) rfl dX8_turnTide_28 ?_
      refine lv_iload_n hx hb dX8_turnTide_31 rfl (lv_at hl 2 rfl) ?_
      refine lv_iload_n hx hb dX8_turnTide_32 rfl (lv_at hl 3 rfl) ?_
      refine g_iast (n := 36) hx hb hC.1 hG hS 10 (by decide) rfl rfl (by omega) (by omega) (by decide) dX8_turnTide_33 (fun u9 H locs hu9 hG hS => ?_)
      refine lv_aload_n hx hb dX8_turnTide_34 rfl (lv_at hl 1 rfl) ?_
      refine g_get (C := RX8) (T := TX8) (N := 4) (ci := 7) hx hb hts (fun _ h => (List.mem_cons_of_mem _ (List.mem_append_right _ h))) hown hC.1 hG 1 (by decide) rfl rfl 3 (by decide) (hts (.fieldLink RX8 23 "StraitSwim$Strait" "north" "[I") (List.mem_cons_of_mem _ (List.mem_append_left _ (List.mem_of_getElem? (i := 1) rfl)))) (fun _ h9 => h9) rfl dX8_turnTide_35 ?_
      refine lv_iload_n hx hb dX8_turnTide_38 rfl (lv_at hl 2 rfl) ?_
      refine lv_iload_n hx hb dX8_turnTide_39 rfl (lv_at hl 4 rfl) ?_
      refine g_iast (n := 36) hx hb hC.1 hG hS 11 (by decide) rfl rfl (by omega) (by omega) (by decide) dX8_turnTide_40 (fun u10 H locs hu10 hG hS => ?_)
      refine lv_iload hx hb dX8_turnTide_41 (lv_at hl 0 rfl) ?_
      exact W.zret (ty := .boolean) (v := zI 1) hx hb hr (nar_b (by omega)) (fun t9 ht9_ hW => ⟨⟨zI 1, u10, rfl, (by subst hu10; subst hu9; refine ⟨?_, ?_⟩ <;> unfold cTurn <;> (repeat (first | rw [if_pos (by omega)] | rw [if_neg (by omega)])) <;> first | done | rfl | (congr 1; omega) | (subst_vars; rfl)), gB.mk' hG hC hS ht9_ hW⟩, hS.F ht9_⟩) hS.2.2 dX8_turnTide_43
set_option maxHeartbeats 4000000 in
set_option maxRecDepth 100000 in
theorem kX8_raise (l : Launch) (D : va_G) (cy : Nat → ClassId) (ad : Nat → Nat) (jf : Nat → Int64) (A : Nat → Prop) (u : gS) (p1 p2 p3 p4 : Int) (j_1 : 0 ≤ p1 ∧ p1 ≤ 11) (j_2 : 0 ≤ p2 ∧ p2 ≤ p3) (j_3 : p3 ≤ 23) (j_b : p4 = 0 ∨ p4 = 1) (hd : ∀ j, j < 288 → u.2.1 9 j = 0 ∨ u.2.1 9 j = 1) : Met l yX8_raise wsX8_raise ({ frames := 0, cells := 0, slots := 0, locals := 0 }) (va_Pc [.ref (ad 1), .int (zI p1), .int (zI p2), .int (zI p3), .int (zI p4)] (gB D cy ad jf A u)) (va_Qi (fun (r : Int32) (v : gS) => r = zI (cRaise u p1 p2 p3 p4).1 ∧ v = (cRaise u p1 p2 p3 p4).2) (gB D cy ad jf A) A) 0 0 A := by
  refine Met.ofW (cc := cX8_raise) (maxL := 8) (ret := (some .int)) (by decide) rfl ?_
  intro p e s m args below meth c s₁ B hml hv
  obtain ⟨rfl, hG, hC⟩ := hv
  have hx := B.exec
  have hb := B.bytes
  have hr := B.returns
  have hts := atoms_spec (ws := wsX8_raise) B.pre
  have hown : s.vm.findClass RX8 = some m.cls := findClass_of_methodNamed B.named
  have hlocks := B.notSynchronized
  have hS : va_S A s.heap s.heap [] := va_S.rf
  have hl := lv_entry ([.ref (ad 1), .int (zI p1), .int (zI p2), .int (zI p3), .int (zI p4)]) (n := 8) (Nat.le_of_ble_eq_true rfl)
  rw [lg_entry_eq]
  generalize (lg_sl ([.ref (ad 1), .int (zI p1), .int (zI p2), .int (zI p3), .int (zI p4)]) ++ List.replicate (8 - (lg_sl ([.ref (ad 1), .int (zI p1), .int (zI p2), .int (zI p3), .int (zI p4)])).length) Slot.unset).toArray = ls at hl ⊢
  have hl : lv_has ls 8 [(0, .ref (ad 1)), (1, .int (zI p1)), (2, .int (zI p2)), (3, .int (zI p3)), (4, .int (zI p4))] := hl
  refine z_iconst hx hb dX8_raise_0 ?_
  refine lv_istore (lv' := [(5, .int (zI 0)), (0, .ref (ad 1)), (1, .int (zI p1)), (2, .int (zI p2)), (3, .int (zI p3)), (4, .int (zI p4))]) hx hb dX8_raise_1 hl (by decide) rfl (fun ls hl => ?_)
  refine lv_iload_n hx hb dX8_raise_3 rfl (lv_at hl 3 rfl) ?_
  refine lv_istore (lv' := [(6, .int (zI p2)), (5, .int (zI 0)), (0, .ref (ad 1)), (1, .int (zI p1)), (2, .int (zI p2)), (3, .int (zI p3)), (4, .int (zI p4))]) hx hb dX8_raise_4 hl (by decide) rfl (fun ls hl => ?_)
  have loop6 : ∀ (n : Nat) (i k : Int) (w : gS) (H : Heap) (locs : List Loc) (ls : Array Slot), (p3 + 1 - i).toNat < n → (0 ≤ i ∧ i ≤ p3 + 1) → (0 ≤ k ∧ k ≤ i) → (∀ j, j < 288 → w.2.1 9 j = 0 ∨ w.2.1 9 j = 1) → (cRaiseL p1 p3 p4 25 p2 0 u = cRaiseL p1 p3 p4 n i k w) → gH D cy ad jf A w H → va_S A s.heap H locs → lv_has ls 8 [(6, .int (zI i)), (5, .int (zI k)), (0, .ref (ad 1)), (1, .int (zI p1)), (2, .int (zI p2)), (3, .int (zI p3)), (4, .int (zI p4))] → W p l e (headSpec wsX8_raise ({ frames := 0, cells := 0, slots := 0, locals := 0 })).room s m ([.ref (ad 1), .int (zI p1), .int (zI p2), .int (zI p3), .int (zI p4)]).toArray below meth c H locs 0 0 (MQ below (va_Qi (fun (r : Int32) (v : gS) => r = zI (cRaise u p1 p2 p3 p4).1 ∧ v = (cRaise u p1 p2 p3 p4).2) (gB D cy ad jf A) A) ([.ref (ad 1), .int (zI p1), .int (zI p2), .int (zI p3), .int (zI p4)]).toArray s 0 0 A) (F0 m 6 ls []) := by
    intro n
    induction n with
    | zero => intro i k w H locs ls hm; exact absurd hm (Nat.not_lt_zero _)
    | succ n ih6 =>
      intro i k w H locs ls hm hi hk9 i9 hT hG hS hl
      refine lv_iload hx hb dX8_raise_6 (lv_at hl 0 rfl) ?_
      refine lv_iload_n hx hb dX8_raise_8 rfl (lv_at hl 5 rfl) ?_
      refine z_icmp_gt (tgt := 51) hx hb dX8_raise_9 (by decide) (by omega) (by omega) (by omega) (by omega) (fun c_1 => ?_) (fun c_1 => ?_)
      · have hE : cRaiseL p1 p3 p4 25 p2 0 u = (k, w) := by rw [hT, cRaiseL, if_neg (by omega)]
        refine lv_aload_n hx hb dX8_raise_51 rfl (lv_at hl 2 rfl) ?_
        refine lv_dup hx hb dX8_raise_52 rfl ?_
        refine g_get (C := RX8) (T := TX8) (N := 4) (ci := 7) hx hb hts (fun _ h => (List.mem_cons_of_mem _ (List.mem_append_right _ h))) hown hC.1 hG 1 (by decide) rfl rfl 1 (by decide) (hts (.fieldLink RX8 15 "StraitSwim$Strait" "dryCells" "I") (List.mem_cons_of_mem _ (List.mem_append_left _ (List.mem_of_getElem? (i := 1) rfl)))) (fun _ h9 => h9) rfl dX8_raise_53 ?_
        refine lv_iload hx hb dX8_raise_56 (lv_at hl 6 rfl) ?_
        refine z_if_eq (tgt := 66) hx hb dX8_raise_58 (by decide) (by omega) (by omega) (fun c_2 => ?_) (fun c_2 => ?_)
        · refine lv_iload hx hb dX8_raise_66 (lv_at hl 1 rfl) ?_
          refine z_ineg hx hb dX8_raise_68 ?_
          refine z_iadd hx hb dX8_raise_69 ?_
          refine g_put (C := RX8) (T := TX8) (N := 4) (ci := 7) (ty := .int) hx hb hts (fun _ h => (List.mem_cons_of_mem _ (List.mem_append_right _ h))) tyX8 tyX8_ok nmX8 hown hC.1 hG hS 1 (by decide) rfl rfl 1 4 (by decide) (hts (.fieldLink RX8 15 "StraitSwim$Strait" "dryCells" "I") (List.mem_cons_of_mem _ (List.mem_append_left _ (List.mem_of_getElem? (i := 1) rfl)))) (fun _ h9 => h9) rfl (by decide +kernel) rfl rfl (Nat.le_of_ble_eq_true rfl) rfl (gO_4 ad _ _) dX8_raise_70 (fun u3 H locs hu3 hG hS => ?_)
          refine lv_iload hx hb dX8_raise_73 (lv_at hl 1 rfl) ?_
          exact W.iret (v := zI k) hx hb hr (fun t9 ht9_ hW => ⟨⟨zI k, u3, rfl, (by unfold cRaise; rw [hE]; dsimp only; (repeat (first | rw [if_pos (by omega)] | rw [if_neg (by omega)])); subst hu3; exact ⟨rfl, rfl⟩), gB.mk' hG hC hS ht9_ hW⟩, hS.F ht9_⟩) hS.2.2 dX8_raise_75
        · refine lv_iload hx hb dX8_raise_61 (lv_at hl 1 rfl) ?_
          refine lv_goto (tgt := 69) hx hb dX8_raise_63 (by decide) ?_
          refine z_iadd hx hb dX8_raise_69 ?_
          refine g_put (C := RX8) (T := TX8) (N := 4) (ci := 7) (ty := .int) hx hb hts (fun _ h => (List.mem_cons_of_mem _ (List.mem_append_right _ h))) tyX8 tyX8_ok nmX8 hown hC.1 hG hS 1 (by decide) rfl rfl 1 4 (by decide) (hts (.fieldLink RX8 15 "StraitSwim$Strait" "dryCells" "I") (List.mem_cons_of_mem _ (List.mem_append_left _ (List.mem_of_getElem? (i := 1) rfl)))) (fun _ h9 => h9) rfl (by decide +kernel) rfl rfl (Nat.le_of_ble_eq_true rfl) rfl (gO_4 ad _ _) dX8_raise_70 (fun u4 H locs hu4 hG hS => ?_)
          refine lv_iload hx hb dX8_raise_73 (lv_at hl 1 rfl) ?_
          exact W.iret (v := zI k) hx hb hr (fun t9 ht9_ hW => ⟨⟨zI k, u4, rfl, (by unfold cRaise; rw [hE]; dsimp only; (repeat (first | rw [if_pos (by omega)] | rw [if_neg (by omega)])); subst hu4; exact ⟨rfl, rfl⟩), gB.mk' hG hC hS ht9_ hW⟩, hS.F ht9_⟩) hS.2.2 dX8_raise_75
      · refine lv_iload_n hx hb dX8_raise_12 rfl (lv_at hl 3 rfl) ?_
        refine z_bipush hx hb dX8_raise_13 (by decide) ?_
        refine z_imul hx hb dX8_raise_15 ?_
        refine lv_iload hx hb dX8_raise_16 (lv_at hl 0 rfl) ?_
        refine z_iadd hx hb dX8_raise_18 ?_
        refine lv_istore (lv' := [(7, .int (zI ((p1 * 24) + i))), (6, .int (zI i)), (5, .int (zI k)), (0, .ref (ad 1)), (1, .int (zI p1)), (2, .int (zI p2)), (3, .int (zI p3)), (4, .int (zI p4))]) hx hb dX8_raise_19 hl (by decide) rfl (fun ls hl => ?_)
        refine lv_aload_n hx hb dX8_raise_21 rfl (lv_at hl 3 rfl) ?_
        refine g_get (C := RX8) (T := TX8) (N := 4) (ci := 7) hx hb hts (fun _ h => (List.mem_cons_of_mem _ (List.mem_append_right _ h))) hown hC.1 hG 1 (by decide) rfl rfl 0 (by decide) (hts (.fieldLink RX8 9 "StraitSwim$Strait" "dry" "[Z") (List.mem_cons_of_mem _ (List.mem_append_left _ (List.mem_of_getElem? (i := 0) rfl)))) (fun _ h9 => h9) rfl dX8_raise_22 ?_
        refine lv_iload hx hb dX8_raise_25 (lv_at hl 0 rfl) ?_
        refine g_zald (n := 288) hx hb hC.1 hG 9 (by decide) rfl (by omega) (by omega) (by decide) dX8_raise_27 ?_
        have q_5 := i9 ((p1 * 24) + i).toNat (by omega)
        refine lv_iload hx hb dX8_raise_28 (lv_at hl 7 rfl) ?_
        refine z_icmp_eq (tgt := 45) hx hb dX8_raise_30 (by decide) (by omega) (by omega) (by omega) (by omega) (fun c_6 => ?_) (fun c_6 => ?_)
        · refine z_iinc (lv' := [(6, .int (zI (i + 1))), (7, .int (zI ((p1 * 24) + i))), (5, .int (zI k)), (0, .ref (ad 1)), (1, .int (zI p1)), (2, .int (zI p2)), (3, .int (zI p3)), (4, .int (zI p4))]) hx hb dX8_raise_45 hl (k := 1) rfl (by decide) rfl (fun ls hl => ?_)
          refine lv_goto (tgt := 6) hx hb dX8_raise_48 (by decide) ?_
          exact ih6 (i + 1) k w _ _ _ (by omega) (by omega) (by omega) (by exact i9) (by rw [hT, cRaiseL]; skip; (repeat (first | rw [if_pos (by omega)] | rw [if_neg (by omega)])); all_goals rfl) hG hS (lv_sub hl [0, 2, 3, 4, 5, 6, 7] rfl)
        · refine lv_aload_n hx hb dX8_raise_33 rfl (lv_at hl 3 rfl) ?_
          refine g_get (C := RX8) (T := TX8) (N := 4) (ci := 7) hx hb hts (fun _ h => (List.mem_cons_of_mem _ (List.mem_append_right _ h))) hown hC.1 hG 1 (by decide) rfl rfl 0 (by decide) (hts (.fieldLink RX8 9 "StraitSwim$Strait" "dry" "[Z") (List.mem_cons_of_mem _ (List.mem_append_left _ (List.mem_of_getElem? (i := 0) rfl)))) (fun _ h9 => h9) rfl dX8_raise_34 ?_
          refine lv_iload hx hb dX8_raise_37 (lv_at hl 0 rfl) ?_
          refine lv_iload hx hb dX8_raise_39 (lv_at hl 7 rfl) ?_
          refine g_zast (n := 288) hx hb hC.1 hG hS 9 (by decide) (by omega) rfl rfl (by omega) (by omega) (by decide) dX8_raise_41 (fun u7 H locs hu7 hG hS => ?_)
          refine z_iinc (lv' := [(5, .int (zI (k + 1))), (7, .int (zI ((p1 * 24) + i))), (6, .int (zI i)), (0, .ref (ad 1)), (1, .int (zI p1)), (2, .int (zI p2)), (3, .int (zI p3)), (4, .int (zI p4))]) hx hb dX8_raise_42 hl (k := 2) rfl (by decide) rfl (fun ls hl => ?_)
          refine z_iinc (lv' := [(6, .int (zI (i + 1))), (5, .int (zI (k + 1))), (7, .int (zI ((p1 * 24) + i))), (0, .ref (ad 1)), (1, .int (zI p1)), (2, .int (zI p2)), (3, .int (zI p3)), (4, .int (zI p4))]) hx hb dX8_raise_45 hl (k := 2) rfl (by decide) rfl (fun ls hl => ?_)
          refine lv_goto (tgt := 6) hx hb dX8_raise_48 (by decide) ?_
          exact ih6 (i + 1) (k + 1) u7 _ _ _ (by omega) (by omega) (by omega) (by subst hu7; exact up_b i9 j_b) (by rw [hT, cRaiseL]; subst hu7; (repeat (first | rw [if_pos (by omega)] | rw [if_neg (by omega)])); all_goals rfl) hG hS (lv_sub hl [0, 1, 3, 4, 5, 6, 7] rfl)
  exact loop6 25 p2 0 u _ _ _ (by omega) (by omega) (by omega) (by exact hd) (by rfl) hG hS (lv_sub hl [0, 1, 2, 3, 4, 5, 6] rfl)
set_option maxHeartbeats 4000000 in
set_option maxRecDepth 100000 in
theorem kX11_land (l : Launch) (D : va_G) (cy : Nat → ClassId) (ad : Nat → Nat) (jf : Nat → Int64) (A : Nat → Prop) (u : gS) (p1 p2 p3 p4 : Int) (j_p1 : -2147483648 ≤ p1 ∧ p1 < 2147483648) (j_p2 : -2147483648 ≤ p2 ∧ p2 < 2147483648) (j_p3 : -2147483648 ≤ p3 ∧ p3 < 2147483648) (j_b : p4 = 0 ∨ p4 = 1) (hd : ∀ j, j < 288 → u.2.1 9 j = 0 ∨ u.2.1 9 j = 1) : Met l yX11_land wsX11_land ({ frames := 1, cells := 0, slots := 0, locals := 27 }) (va_Pc [.ref (ad 0), .int (zI p1), .int (zI p2), .int (zI p3), .int (zI p4)] (gB D cy ad jf A u)) (va_Qi (fun (r : Int32) (v : gS) => r = zI (cLand u p1 p2 p3 p4).1 ∧ v = (cLand u p1 p2 p3 p4).2) (gB D cy ad jf A) A) 0 0 A := by
  refine Met.ofW (cc := cX11_land) (maxL := 5) (ret := (some .int)) (by decide) rfl ?_
  intro p e s m args below meth c s₁ B hml hv
  obtain ⟨rfl, hG, hC⟩ := hv
  have hx := B.exec
  have hb := B.bytes
  have hr := B.returns
  have hts := atoms_spec (ws := wsX11_land) B.pre
  have hown : s.vm.findClass RX11 = some m.cls := findClass_of_methodNamed B.named
  have hlocks := B.notSynchronized
  have hS : va_S A s.heap s.heap [] := va_S.rf
  have hl := lv_entry ([.ref (ad 0), .int (zI p1), .int (zI p2), .int (zI p3), .int (zI p4)]) (n := 5) (Nat.le_of_ble_eq_true rfl)
  rw [lg_entry_eq]
  generalize (lg_sl ([.ref (ad 0), .int (zI p1), .int (zI p2), .int (zI p3), .int (zI p4)]) ++ List.replicate (5 - (lg_sl ([.ref (ad 0), .int (zI p1), .int (zI p2), .int (zI p3), .int (zI p4)])).length) Slot.unset).toArray = ls at hl ⊢
  have hl : lv_has ls 5 [(0, .ref (ad 0)), (1, .int (zI p1)), (2, .int (zI p2)), (3, .int (zI p3)), (4, .int (zI p4))] := hl
  refine lv_iload_n hx hb dX11_land_0 rfl (lv_at hl 1 rfl) ?_
  refine z_iconst hx hb dX11_land_1 ?_
  refine z_bipush hx hb dX11_land_2 (by decide) ?_
  refine g_calli (va_runS (As := [.int (zI p1), .int (zI 0), .int (zI 11)]) (rest := []) ⟨hx, hb, hml, hown, hts⟩ (kX11_isWithin l D cy ad jf A u p1 0 11 (by omega) (by omega) (by omega)) (va_cwS 3 hts gX11_land_X11_isWithin rfl rfl rfl (by decide +kernel) ⟨by decide, by decide⟩) (g_preS hG hC hS) rfl rfl hl.1 rfl (lv_room (Nat.le_of_ble_eq_true rfl)) dX11_land_4 ⟨Nat.le_of_ble_eq_true rfl, Nat.le_of_ble_eq_true rfl⟩) hS (fun r1 u2 H locs p_3 hG hS => ?_)
  obtain ⟨⟨b4, rfl, q_5⟩, he_⟩ := p_3
  rw [he_] at hG; clear he_
  have hbb4 : 0 ≤ b4 ∧ b4 ≤ 1 := by rcases q_5 with ⟨h, _⟩ | ⟨h, _⟩ <;> omega
  refine z_if_eq (tgt := 35) hx hb dX11_land_7 (by decide) (by omega) (by omega) (fun c_6 => ?_) (fun c_6 => ?_)
  · refine z_iconst hx hb dX11_land_35 ?_
    exact W.iret (v := zI ((-1))) hx hb hr (fun t9 ht9_ hW => ⟨⟨zI ((-1)), u, rfl, (by skip; unfold cLand; (repeat (first | rw [if_pos (by omega)] | rw [if_neg (by omega)])); all_goals exact ⟨rfl, rfl⟩), gB.mk' hG hC hS ht9_ hW⟩, hS.F ht9_⟩) hS.2.2 dX11_land_36
  · refine lv_iload_n hx hb dX11_land_10 rfl (lv_at hl 2 rfl) ?_
    refine z_iconst hx hb dX11_land_11 ?_
    refine z_bipush hx hb dX11_land_12 (by decide) ?_
    refine g_calli (va_runS (As := [.int (zI p2), .int (zI 0), .int (zI 23)]) (rest := []) ⟨hx, hb, hml, hown, hts⟩ (kX11_isWithin l D cy ad jf A u p2 0 23 (by omega) (by omega) (by omega)) (va_cwS 3 hts gX11_land_X11_isWithin rfl rfl rfl (by decide +kernel) ⟨by decide, by decide⟩) (g_preS hG hC hS) rfl rfl hl.1 rfl (lv_room (Nat.le_of_ble_eq_true rfl)) dX11_land_14 ⟨Nat.le_of_ble_eq_true rfl, Nat.le_of_ble_eq_true rfl⟩) hS (fun r7 u8 H locs p_9 hG hS => ?_)
    obtain ⟨⟨b10, rfl, q_11⟩, he_⟩ := p_9
    rw [he_] at hG; clear he_
    have hbb10 : 0 ≤ b10 ∧ b10 ≤ 1 := by rcases q_11 with ⟨h, _⟩ | ⟨h, _⟩ <;> omega
    refine z_if_eq (tgt := 35) hx hb dX11_land_17 (by decide) (by omega) (by omega) (fun c_12 => ?_) (fun c_12 => ?_)
    · refine z_iconst hx hb dX11_land_35 ?_
      exact W.iret (v := zI ((-1))) hx hb hr (fun t9 ht9_ hW => ⟨⟨zI ((-1)), u, rfl, (by skip; unfold cLand; (repeat (first | rw [if_pos (by omega)] | rw [if_neg (by omega)])); all_goals exact ⟨rfl, rfl⟩), gB.mk' hG hC hS ht9_ hW⟩, hS.F ht9_⟩) hS.2.2 dX11_land_36
    · refine lv_iload_n hx hb dX11_land_20 rfl (lv_at hl 3 rfl) ?_
      refine z_iconst hx hb dX11_land_21 ?_
      refine z_bipush hx hb dX11_land_22 (by decide) ?_
      refine g_calli (va_runS (As := [.int (zI p3), .int (zI 0), .int (zI 23)]) (rest := []) ⟨hx, hb, hml, hown, hts⟩ (kX11_isWithin l D cy ad jf A u p3 0 23 (by omega) (by omega) (by omega)) (va_cwS 3 hts gX11_land_X11_isWithin rfl rfl rfl (by decide +kernel) ⟨by decide, by decide⟩) (g_preS hG hC hS) rfl rfl hl.1 rfl (lv_room (Nat.le_of_ble_eq_true rfl)) dX11_land_24 ⟨Nat.le_of_ble_eq_true rfl, Nat.le_of_ble_eq_true rfl⟩) hS (fun r13 u14 H locs p_15 hG hS => ?_)
      obtain ⟨⟨b16, rfl, q_17⟩, he_⟩ := p_15
      rw [he_] at hG; clear he_
      have hbb16 : 0 ≤ b16 ∧ b16 ≤ 1 := by rcases q_17 with ⟨h, _⟩ | ⟨h, _⟩ <;> omega
      refine z_if_eq (tgt := 35) hx hb dX11_land_27 (by decide) (by omega) (by omega) (fun c_18 => ?_) (fun c_18 => ?_)
      · refine z_iconst hx hb dX11_land_35 ?_
        exact W.iret (v := zI ((-1))) hx hb hr (fun t9 ht9_ hW => ⟨⟨zI ((-1)), u, rfl, (by skip; unfold cLand; (repeat (first | rw [if_pos (by omega)] | rw [if_neg (by omega)])); all_goals exact ⟨rfl, rfl⟩), gB.mk' hG hC hS ht9_ hW⟩, hS.F ht9_⟩) hS.2.2 dX11_land_36
      · refine lv_iload_n hx hb dX11_land_30 rfl (lv_at hl 2 rfl) ?_
        refine lv_iload_n hx hb dX11_land_31 rfl (lv_at hl 3 rfl) ?_
        refine z_icmp_le (tgt := 37) hx hb dX11_land_32 (by decide) (by omega) (by omega) (by omega) (by omega) (fun c_19 => ?_) (fun c_19 => ?_)
        · refine lv_aload_n hx hb dX11_land_37 rfl (lv_at hl 0 rfl) ?_
          refine g_get (C := RX11) (T := TX11) (N := 14) (ci := 10) hx hb hts (fun _ h => (List.mem_cons_of_mem _ (List.mem_append_left _ (List.mem_append_right _ h)))) hown hC.1 hG 0 (by decide) rfl rfl 0 (by decide) (hts (.fieldLink RX11 10 "StraitSwim" "strait" "LStraitSwim$Strait;") (List.mem_cons_of_mem _ (List.mem_append_left _ (List.mem_append_left _ (List.mem_of_getElem? (i := 0) rfl))))) (fun _ h9 => h9) rfl dX11_land_38 ?_
          refine lv_iload_n hx hb dX11_land_41 rfl (lv_at hl 1 rfl) ?_
          refine lv_iload_n hx hb dX11_land_42 rfl (lv_at hl 2 rfl) ?_
          refine lv_iload_n hx hb dX11_land_43 rfl (lv_at hl 3 rfl) ?_
          refine lv_iload hx hb dX11_land_44 (lv_at hl 4 rfl) ?_
          refine g_calli (va_runV (As := [.int (zI p1), .int (zI p2), .int (zI p3), .int (zI p4)]) (rest := []) ⟨hx, hb, hml, hown, hts⟩ (kX8_raise l D cy ad jf A u p1 p2 p3 p4 (by omega) (by omega) (by omega) (by omega) hd) (cwV 4 hts gX11_land_X8_raise rfl rfl rfl (by decide +kernel) ⟨by decide, by decide⟩) (g_preV (C := RX8) hG hC hS 1 (by decide) rfl rfl) rfl rfl hl.1 rfl (lv_room (Nat.le_of_ble_eq_true rfl)) dX11_land_46 ⟨Nat.le_of_ble_eq_true rfl, Nat.le_of_ble_eq_true rfl⟩) hS (fun r20 u21 H locs p_22 hG hS => ?_)
          obtain ⟨rfl, hu21⟩ := p_22
          exact W.iret (v := zI ((cRaise u p1 p2 p3 p4).1)) hx hb hr (fun t9 ht9_ hW => ⟨⟨zI ((cRaise u p1 p2 p3 p4).1), u21, rfl, (by subst hu21; unfold cLand; (repeat (first | rw [if_pos (by omega)] | rw [if_neg (by omega)])); all_goals exact ⟨rfl, rfl⟩), gB.mk' hG hC hS ht9_ hW⟩, hS.F ht9_⟩) hS.2.2 dX11_land_49
        · refine z_iconst hx hb dX11_land_35 ?_
          exact W.iret (v := zI ((-1))) hx hb hr (fun t9 ht9_ hW => ⟨⟨zI ((-1)), u, rfl, (by skip; unfold cLand; (repeat (first | rw [if_pos (by omega)] | rw [if_neg (by omega)])); all_goals exact ⟨rfl, rfl⟩), gB.mk' hG hC hS ht9_ hW⟩, hS.F ht9_⟩) hS.2.2 dX11_land_36
set_option maxHeartbeats 4000000 in
set_option maxRecDepth 100000 in
theorem kX11_isLand (l : Launch) (D : va_G) (cy : Nat → ClassId) (ad : Nat → Nat) (jf : Nat → Int64) (A : Nat → Prop) (u : gS) (x y : Int) (j_x : -2147483648 ≤ x ∧ x < 2147483648) (j_y : -2147483648 ≤ y ∧ y < 2147483648) (hd : ∀ j, j < 288 → u.2.1 9 j = 0 ∨ u.2.1 9 j = 1) : Met l yX11_isLand wsX11_isLand ({ frames := 3, cells := 0, slots := 0, locals := 65 }) (va_Pc [.ref (ad 0), .int (zI x), .int (zI y)] (gB D cy ad jf A u)) (va_Qi (fun (r : Int32) (v : gS) => r = zI (spIsLand (u.2.1 9) x y) ∧ v = u) (gB D cy ad jf A) A) 0 0 A := by
  refine Met.ofW (cc := cX11_isLand) (maxL := 3) (ret := (some .int)) (by decide) rfl ?_
  intro p e s m args below meth c s₁ B hml hv
  obtain ⟨rfl, hG, hC⟩ := hv
  have hx := B.exec
  have hb := B.bytes
  have hr := B.returns
  have hts := atoms_spec (ws := wsX11_isLand) B.pre
  have hown : s.vm.findClass RX11 = some m.cls := findClass_of_methodNamed B.named
  have hlocks := B.notSynchronized
  have hS : va_S A s.heap s.heap [] := va_S.rf
  have hl := lv_entry ([.ref (ad 0), .int (zI x), .int (zI y)]) (n := 3) (Nat.le_of_ble_eq_true rfl)
  rw [lg_entry_eq]
  generalize (lg_sl ([.ref (ad 0), .int (zI x), .int (zI y)]) ++ List.replicate (3 - (lg_sl ([.ref (ad 0), .int (zI x), .int (zI y)])).length) Slot.unset).toArray = ls at hl ⊢
  have hl : lv_has ls 3 [(0, .ref (ad 0)), (1, .int (zI x)), (2, .int (zI y))] := hl
  refine lv_iload_n hx hb dX11_isLand_0 rfl (lv_at hl 1 rfl) ?_
  refine lv_iload_n hx hb dX11_isLand_1 rfl (lv_at hl 2 rfl) ?_
  refine g_calli (va_runS (As := [.int (zI x), .int (zI y)]) (rest := []) ⟨hx, hb, hml, hown, hts⟩ (kX11_isPlace l D cy ad jf A u x y (by omega) (by omega)) (va_cwS 2 hts gX11_isLand_X11_isPlace rfl rfl rfl (by decide +kernel) ⟨by decide, by decide⟩) (g_preS hG hC hS) rfl rfl hl.1 rfl (lv_room (Nat.le_of_ble_eq_true rfl)) dX11_isLand_2 ⟨Nat.le_of_ble_eq_true rfl, Nat.le_of_ble_eq_true rfl⟩) hS (fun r1 u2 H locs p_3 hG hS => ?_)
  obtain ⟨⟨b4, rfl, q_5⟩, he_⟩ := p_3
  rw [he_] at hG; clear he_
  have hbb4 : 0 ≤ b4 ∧ b4 ≤ 1 := by rcases q_5 with ⟨h, _⟩ | ⟨h, _⟩ <;> omega
  refine z_if_ne (tgt := 10) hx hb dX11_isLand_5 (by decide) (by omega) (by omega) (fun c_6 => ?_) (fun c_6 => ?_)
  · refine lv_aload_n hx hb dX11_isLand_10 rfl (lv_at hl 0 rfl) ?_
    refine g_get (C := RX11) (T := TX11) (N := 14) (ci := 10) hx hb hts (fun _ h => (List.mem_cons_of_mem _ (List.mem_append_left _ (List.mem_append_right _ h)))) hown hC.1 hG 0 (by decide) rfl rfl 0 (by decide) (hts (.fieldLink RX11 10 "StraitSwim" "strait" "LStraitSwim$Strait;") (List.mem_cons_of_mem _ (List.mem_append_left _ (List.mem_append_left _ (List.mem_of_getElem? (i := 0) rfl))))) (fun _ h9 => h9) rfl dX11_isLand_11 ?_
    refine lv_iload_n hx hb dX11_isLand_14 rfl (lv_at hl 1 rfl) ?_
    refine lv_iload_n hx hb dX11_isLand_15 rfl (lv_at hl 2 rfl) ?_
    refine g_calli (va_runV (As := [.int (zI x), .int (zI y)]) (rest := []) ⟨hx, hb, hml, hown, hts⟩ (kX8_isDry l D cy ad jf A u x y (by omega) (by omega) hd) (cwV 2 hts gX11_isLand_X8_isDry rfl rfl rfl (by decide +kernel) ⟨by decide, by decide⟩) (g_preV (C := RX8) hG hC hS 1 (by decide) rfl rfl) rfl rfl hl.1 rfl (lv_room (Nat.le_of_ble_eq_true rfl)) dX11_isLand_16 ⟨Nat.le_of_ble_eq_true rfl, Nat.le_of_ble_eq_true rfl⟩) hS (fun r7 u8 H locs p_9 hG hS => ?_)
    obtain ⟨rfl, he_⟩ := p_9
    rw [he_] at hG; clear he_
    obtain ⟨z11, hz11⟩ : ∃ z : Int, z = spDry (u.2.1 9) x y := ⟨_, rfl⟩
    rw [← hz11]
    have q_10 : z11 = 0 ∨ z11 = 1 := by rw [hz11]; exact hd _ (by omega)
    refine z_if_eq (tgt := 26) hx hb dX11_isLand_19 (by decide) (by omega) (by omega) (fun c_12 => ?_) (fun c_12 => ?_)
    · refine z_iconst hx hb dX11_isLand_26 ?_
      exact W.iret (v := zI 0) hx hb hr (fun t9 ht9_ hW => ⟨⟨zI 0, u, rfl, (by refine ⟨?_, rfl⟩; unfold spIsLand; first | (rw [if_neg (by omega)]; done) | (rw [if_pos (by omega)]; congr 1; omega)), gB.mk' hG hC hS ht9_ hW⟩, hS.F ht9_⟩) hS.2.2 dX11_isLand_27
    · refine z_iconst hx hb dX11_isLand_22 ?_
      refine lv_goto (tgt := 27) hx hb dX11_isLand_23 (by decide) ?_
      exact W.iret (v := zI 1) hx hb hr (fun t9 ht9_ hW => ⟨⟨zI 1, u, rfl, (by refine ⟨?_, rfl⟩; unfold spIsLand; first | (rw [if_neg (by omega)]; done) | (rw [if_pos (by omega)]; congr 1; omega)), gB.mk' hG hC hS ht9_ hW⟩, hS.F ht9_⟩) hS.2.2 dX11_isLand_27
  · refine z_iconst hx hb dX11_isLand_8 ?_
    exact W.iret (v := zI ((-1))) hx hb hr (fun t9 ht9_ hW => ⟨⟨zI ((-1)), u, rfl, (by refine ⟨?_, rfl⟩; unfold spIsLand; first | (rw [if_neg (by omega)]; done) | (rw [if_pos (by omega)]; congr 1; omega)), gB.mk' hG hC hS ht9_ hW⟩, hS.F ht9_⟩) hS.2.2 dX11_isLand_9
set_option maxHeartbeats 4000000 in
set_option maxRecDepth 100000 in
theorem kX11_tide (l : Launch) (D : va_G) (cy : Nat → ClassId) (ad : Nat → Nat) (jf : Nat → Int64) (A : Nat → Prop) (u : gS) (p1 p2 p3 p4 : Int) (j_p1 : -2147483648 ≤ p1 ∧ p1 < 2147483648) (j_p2 : -2147483648 ≤ p2 ∧ p2 < 2147483648) (j_p3 : -2147483648 ≤ p3 ∧ p3 < 2147483648) (j_p4 : -2147483648 ≤ p4 ∧ p4 < 2147483648) (i10 : ∀ j, j < 36 → -9 ≤ u.2.1 10 j ∧ u.2.1 10 j ≤ 9) (i11 : ∀ j, j < 36 → -9 ≤ u.2.1 11 j ∧ u.2.1 11 j ≤ 9) : Met l yX11_tide wsX11_tide ({ frames := 1, cells := 0, slots := 0, locals := 24 }) (va_Pc [.ref (ad 0), .int (zI p1), .int (zI p2), .int (zI p3), .int (zI p4)] (gB D cy ad jf A u)) (va_Qi (fun (r : Int32) (v : gS) => r = zI (cTide u p1 p2 p3 p4).1 ∧ v = (cTide u p1 p2 p3 p4).2) (gB D cy ad jf A) A) 0 0 A := by
  refine Met.ofW (cc := cX11_tide) (maxL := 5) (ret := (some .int)) (by decide) rfl ?_
  intro p e s m args below meth c s₁ B hml hv
  obtain ⟨rfl, hG, hC⟩ := hv
  have hx := B.exec
  have hb := B.bytes
  have hr := B.returns
  have hts := atoms_spec (ws := wsX11_tide) B.pre
  have hown : s.vm.findClass RX11 = some m.cls := findClass_of_methodNamed B.named
  have hlocks := B.notSynchronized
  have hS : va_S A s.heap s.heap [] := va_S.rf
  have hl := lv_entry ([.ref (ad 0), .int (zI p1), .int (zI p2), .int (zI p3), .int (zI p4)]) (n := 5) (Nat.le_of_ble_eq_true rfl)
  rw [lg_entry_eq]
  generalize (lg_sl ([.ref (ad 0), .int (zI p1), .int (zI p2), .int (zI p3), .int (zI p4)]) ++ List.replicate (5 - (lg_sl ([.ref (ad 0), .int (zI p1), .int (zI p2), .int (zI p3), .int (zI p4)])).length) Slot.unset).toArray = ls at hl ⊢
  have hl : lv_has ls 5 [(0, .ref (ad 0)), (1, .int (zI p1)), (2, .int (zI p2)), (3, .int (zI p3)), (4, .int (zI p4))] := hl
  refine lv_iload_n hx hb dX11_tide_0 rfl (lv_at hl 1 rfl) ?_
  refine z_iconst hx hb dX11_tide_1 ?_
  refine z_iconst hx hb dX11_tide_2 ?_
  refine g_calli (va_runS (As := [.int (zI p1), .int (zI 0), .int (zI 2)]) (rest := []) ⟨hx, hb, hml, hown, hts⟩ (kX11_isWithin l D cy ad jf A u p1 0 2 (by omega) (by omega) (by omega)) (va_cwS 3 hts gX11_tide_X11_isWithin rfl rfl rfl (by decide +kernel) ⟨by decide, by decide⟩) (g_preS hG hC hS) rfl rfl hl.1 rfl (lv_room (Nat.le_of_ble_eq_true rfl)) dX11_tide_3 ⟨Nat.le_of_ble_eq_true rfl, Nat.le_of_ble_eq_true rfl⟩) hS (fun r1 u2 H locs p_3 hG hS => ?_)
  obtain ⟨⟨b4, rfl, q_5⟩, he_⟩ := p_3
  rw [he_] at hG; clear he_
  have hbb4 : 0 ≤ b4 ∧ b4 ≤ 1 := by rcases q_5 with ⟨h, _⟩ | ⟨h, _⟩ <;> omega
  refine z_if_eq (tgt := 42) hx hb dX11_tide_6 (by decide) (by omega) (by omega) (fun c_6 => ?_) (fun c_6 => ?_)
  · refine z_iconst hx hb dX11_tide_42 ?_
    exact W.iret (v := zI ((-1))) hx hb hr (fun t9 ht9_ hW => ⟨⟨zI ((-1)), u, rfl, (by unfold cTide; rw [if_neg (by omega)]; exact ⟨rfl, rfl⟩), gB.mk' hG hC hS ht9_ hW⟩, hS.F ht9_⟩) hS.2.2 dX11_tide_43
  · refine lv_iload_n hx hb dX11_tide_9 rfl (lv_at hl 2 rfl) ?_
    refine z_iconst hx hb dX11_tide_10 ?_
    refine z_bipush hx hb dX11_tide_11 (by decide) ?_
    refine g_calli (va_runS (As := [.int (zI p2), .int (zI 0), .int (zI 11)]) (rest := []) ⟨hx, hb, hml, hown, hts⟩ (kX11_isWithin l D cy ad jf A u p2 0 11 (by omega) (by omega) (by omega)) (va_cwS 3 hts gX11_tide_X11_isWithin rfl rfl rfl (by decide +kernel) ⟨by decide, by decide⟩) (g_preS hG hC hS) rfl rfl hl.1 rfl (lv_room (Nat.le_of_ble_eq_true rfl)) dX11_tide_13 ⟨Nat.le_of_ble_eq_true rfl, Nat.le_of_ble_eq_true rfl⟩) hS (fun r7 u8 H locs p_9 hG hS => ?_)
    obtain ⟨⟨b10, rfl, q_11⟩, he_⟩ := p_9
    rw [he_] at hG; clear he_
    have hbb10 : 0 ≤ b10 ∧ b10 ≤ 1 := by rcases q_11 with ⟨h, _⟩ | ⟨h, _⟩ <;> omega
    refine z_if_eq (tgt := 42) hx hb dX11_tide_16 (by decide) (by omega) (by omega) (fun c_12 => ?_) (fun c_12 => ?_)
    · refine z_iconst hx hb dX11_tide_42 ?_
      exact W.iret (v := zI ((-1))) hx hb hr (fun t9 ht9_ hW => ⟨⟨zI ((-1)), u, rfl, (by unfold cTide; rw [if_neg (by omega)]; exact ⟨rfl, rfl⟩), gB.mk' hG hC hS ht9_ hW⟩, hS.F ht9_⟩) hS.2.2 dX11_tide_43
    · refine lv_iload_n hx hb dX11_tide_19 rfl (lv_at hl 3 rfl) ?_
      refine z_bipush hx hb dX11_tide_20 (by decide) ?_
      refine z_bipush hx hb dX11_tide_22 (by decide) ?_
      refine g_calli (va_runS (As := [.int (zI p3), .int (zI ((-9))), .int (zI 9)]) (rest := []) ⟨hx, hb, hml, hown, hts⟩ (kX11_isWithin l D cy ad jf A u p3 ((-9)) 9 (by omega) (by omega) (by omega)) (va_cwS 3 hts gX11_tide_X11_isWithin rfl rfl rfl (by decide +kernel) ⟨by decide, by decide⟩) (g_preS hG hC hS) rfl rfl hl.1 rfl (lv_room (Nat.le_of_ble_eq_true rfl)) dX11_tide_24 ⟨Nat.le_of_ble_eq_true rfl, Nat.le_of_ble_eq_true rfl⟩) hS (fun r13 u14 H locs p_15 hG hS => ?_)
      obtain ⟨⟨b16, rfl, q_17⟩, he_⟩ := p_15
      rw [he_] at hG; clear he_
      have hbb16 : 0 ≤ b16 ∧ b16 ≤ 1 := by rcases q_17 with ⟨h, _⟩ | ⟨h, _⟩ <;> omega
      refine z_if_eq (tgt := 42) hx hb dX11_tide_27 (by decide) (by omega) (by omega) (fun c_18 => ?_) (fun c_18 => ?_)
      · refine z_iconst hx hb dX11_tide_42 ?_
        exact W.iret (v := zI ((-1))) hx hb hr (fun t9 ht9_ hW => ⟨⟨zI ((-1)), u, rfl, (by unfold cTide; rw [if_neg (by omega)]; exact ⟨rfl, rfl⟩), gB.mk' hG hC hS ht9_ hW⟩, hS.F ht9_⟩) hS.2.2 dX11_tide_43
      · refine lv_iload hx hb dX11_tide_30 (lv_at hl 4 rfl) ?_
        refine z_bipush hx hb dX11_tide_32 (by decide) ?_
        refine z_bipush hx hb dX11_tide_34 (by decide) ?_
        refine g_calli (va_runS (As := [.int (zI p4), .int (zI ((-9))), .int (zI 9)]) (rest := []) ⟨hx, hb, hml, hown, hts⟩ (kX11_isWithin l D cy ad jf A u p4 ((-9)) 9 (by omega) (by omega) (by omega)) (va_cwS 3 hts gX11_tide_X11_isWithin rfl rfl rfl (by decide +kernel) ⟨by decide, by decide⟩) (g_preS hG hC hS) rfl rfl hl.1 rfl (lv_room (Nat.le_of_ble_eq_true rfl)) dX11_tide_36 ⟨Nat.le_of_ble_eq_true rfl, Nat.le_of_ble_eq_true rfl⟩) hS (fun r19 u20 H locs p_21 hG hS => ?_)
        obtain ⟨⟨b22, rfl, q_23⟩, he_⟩ := p_21
        rw [he_] at hG; clear he_
        have hbb22 : 0 ≤ b22 ∧ b22 ≤ 1 := by rcases q_23 with ⟨h, _⟩ | ⟨h, _⟩ <;> omega
        refine z_if_ne (tgt := 44) hx hb dX11_tide_39 (by decide) (by omega) (by omega) (fun c_24 => ?_) (fun c_24 => ?_)
        · refine lv_aload_n hx hb dX11_tide_44 rfl (lv_at hl 0 rfl) ?_
          refine g_get (C := RX11) (T := TX11) (N := 14) (ci := 10) hx hb hts (fun _ h => (List.mem_cons_of_mem _ (List.mem_append_left _ (List.mem_append_right _ h)))) hown hC.1 hG 0 (by decide) rfl rfl 0 (by decide) (hts (.fieldLink RX11 10 "StraitSwim" "strait" "LStraitSwim$Strait;") (List.mem_cons_of_mem _ (List.mem_append_left _ (List.mem_append_left _ (List.mem_of_getElem? (i := 0) rfl))))) (fun _ h9 => h9) rfl dX11_tide_45 ?_
          refine lv_iload_n hx hb dX11_tide_48 rfl (lv_at hl 1 rfl) ?_
          refine z_bipush hx hb dX11_tide_49 (by decide) ?_
          refine z_imul hx hb dX11_tide_51 ?_
          refine lv_iload_n hx hb dX11_tide_52 rfl (lv_at hl 2 rfl) ?_
          refine z_iadd hx hb dX11_tide_53 ?_
          refine lv_iload_n hx hb dX11_tide_54 rfl (lv_at hl 3 rfl) ?_
          refine lv_iload hx hb dX11_tide_55 (lv_at hl 4 rfl) ?_
          refine g_calli (va_runV (As := [.int (zI ((p1 * 12) + p2)), .int (zI p3), .int (zI p4)]) (rest := []) ⟨hx, hb, hml, hown, hts⟩ (kX8_turnTide l D cy ad jf A u ((p1 * 12) + p2) p3 p4 (by omega) (by omega) (by omega) i10 i11) (cwV 3 hts gX11_tide_X8_turnTide rfl rfl rfl (by decide +kernel) ⟨by decide, by decide⟩) (g_preV (C := RX8) hG hC hS 1 (by decide) rfl rfl) rfl rfl hl.1 rfl (lv_room (Nat.le_of_ble_eq_true rfl)) dX11_tide_57 ⟨Nat.le_of_ble_eq_true rfl, Nat.le_of_ble_eq_true rfl⟩) hS (fun r25 u26 H locs p_27 hG hS => ?_)
          obtain ⟨rfl, hu26⟩ := p_27
          obtain ⟨z28, hz28⟩ : ∃ z : Int, z = (cTurn u ((p1 * 12) + p2) p3 p4).1 := ⟨_, rfl⟩
          rw [← hz28]
          have qz28 : z28 = 0 ∨ z28 = 1 := by rw [hz28]; unfold cTurn; dsimp only; split <;> omega
          refine z_if_eq (tgt := 67) hx hb dX11_tide_60 (by decide) (by omega) (by omega) (fun c_29 => ?_) (fun c_29 => ?_)
          · refine z_iconst hx hb dX11_tide_67 ?_
            exact W.iret (v := zI 0) hx hb hr (fun t9 ht9_ hW => ⟨⟨zI 0, u26, rfl, (by unfold cTide; rw [if_pos (by omega)]; subst hu26; refine ⟨?_, rfl⟩; congr 1; omega), gB.mk' hG hC hS ht9_ hW⟩, hS.F ht9_⟩) hS.2.2 dX11_tide_68
          · refine z_iconst hx hb dX11_tide_63 ?_
            refine lv_goto (tgt := 68) hx hb dX11_tide_64 (by decide) ?_
            exact W.iret (v := zI 1) hx hb hr (fun t9 ht9_ hW => ⟨⟨zI 1, u26, rfl, (by unfold cTide; rw [if_pos (by omega)]; subst hu26; refine ⟨?_, rfl⟩; congr 1; omega), gB.mk' hG hC hS ht9_ hW⟩, hS.F ht9_⟩) hS.2.2 dX11_tide_68
        · refine z_iconst hx hb dX11_tide_42 ?_
          exact W.iret (v := zI ((-1))) hx hb hr (fun t9 ht9_ hW => ⟨⟨zI ((-1)), u, rfl, (by unfold cTide; rw [if_neg (by omega)]; exact ⟨rfl, rfl⟩), gB.mk' hG hC hS ht9_ hW⟩, hS.F ht9_⟩) hS.2.2 dX11_tide_43
set_option maxHeartbeats 4000000 in
set_option maxRecDepth 100000 in
theorem kX11_set (l : Launch) (D : va_G) (cy : Nat → ClassId) (ad : Nat → Nat) (jf : Nat → Int64) (A : Nat → Prop) (u : gS) (p1 p2 : Int) (j_p1 : -2147483648 ≤ p1 ∧ p1 < 2147483648) (j_p2 : -2147483648 ≤ p2 ∧ p2 < 2147483648) (i1 : 0 ≤ u.1 1 ∧ u.1 1 ≤ 20) (i2 : 1 ≤ u.1 2 ∧ u.1 2 ≤ 60) : Met l yX11_set wsX11_set ({ frames := 1, cells := 0, slots := 0, locals := 22 }) (va_Pc [.ref (ad 0), .int (zI p1), .int (zI p2)] (gB D cy ad jf A u)) (va_Qi (fun (r : Int32) (v : gS) => r = zI (cSet u p1 p2).1 ∧ v = (cSet u p1 p2).2) (gB D cy ad jf A) A) 0 0 A := by
  refine Met.ofW (cc := cX11_set) (maxL := 4) (ret := (some .int)) (by decide) rfl ?_
  intro p e s m args below meth c s₁ B hml hv
  obtain ⟨rfl, hG, hC⟩ := hv
  have hx := B.exec
  have hb := B.bytes
  have hr := B.returns
  have hts := atoms_spec (ws := wsX11_set) B.pre
  have hown : s.vm.findClass RX11 = some m.cls := findClass_of_methodNamed B.named
  have hlocks := B.notSynchronized
  have hS : va_S A s.heap s.heap [] := va_S.rf
  have hl := lv_entry ([.ref (ad 0), .int (zI p1), .int (zI p2)]) (n := 4) (Nat.le_of_ble_eq_true rfl)
  rw [lg_entry_eq]
  generalize (lg_sl ([.ref (ad 0), .int (zI p1), .int (zI p2)]) ++ List.replicate (4 - (lg_sl ([.ref (ad 0), .int (zI p1), .int (zI p2)])).length) Slot.unset).toArray = ls at hl ⊢
  have hl : lv_has ls 4 [(0, .ref (ad 0)), (1, .int (zI p1)), (2, .int (zI p2))] := hl
  refine lv_iload_n hx hb dX11_set_0 rfl (lv_at hl 1 rfl) ?_
  refine z_if_ne (tgt := 26) hx hb dX11_set_1 (by decide) (by omega) (by omega) (fun c_1 => ?_) (fun c_1 => ?_)
  · refine lv_iload_n hx hb dX11_set_26 rfl (lv_at hl 1 rfl) ?_
    refine z_iconst hx hb dX11_set_27 ?_
    refine z_icmp_ne (tgt := 53) hx hb dX11_set_28 (by decide) (by omega) (by omega) (by omega) (by omega) (fun c_2 => ?_) (fun c_2 => ?_)
    · refine z_iconst hx hb dX11_set_53 ?_
      exact W.iret (v := zI ((-1))) hx hb hr (fun t9 ht9_ hW => ⟨⟨zI ((-1)), u, rfl, (by skip; refine ⟨?_, ?_⟩ <;> unfold cSet <;> (repeat (first | rw [if_pos (by omega)] | rw [if_neg (by omega)])) <;> first | done | rfl | (congr 1; omega) | (subst_vars; rfl)), gB.mk' hG hC hS ht9_ hW⟩, hS.F ht9_⟩) hS.2.2 dX11_set_54
    · refine lv_iload_n hx hb dX11_set_31 rfl (lv_at hl 2 rfl) ?_
      refine z_iconst hx hb dX11_set_32 ?_
      refine z_bipush hx hb dX11_set_33 (by decide) ?_
      refine g_calli (va_runS (As := [.int (zI p2), .int (zI 1), .int (zI 60)]) (rest := []) ⟨hx, hb, hml, hown, hts⟩ (kX11_isWithin l D cy ad jf A u p2 1 60 (by omega) (by omega) (by omega)) (va_cwS 3 hts gX11_set_X11_isWithin rfl rfl rfl (by decide +kernel) ⟨by decide, by decide⟩) (g_preS hG hC hS) rfl rfl hl.1 rfl (lv_room (Nat.le_of_ble_eq_true rfl)) dX11_set_35 ⟨Nat.le_of_ble_eq_true rfl, Nat.le_of_ble_eq_true rfl⟩) hS (fun r3 u4 H locs p_5 hG hS => ?_)
      obtain ⟨⟨b6, rfl, q_7⟩, he_⟩ := p_5
      rw [he_] at hG; clear he_
      have hbb6 : 0 ≤ b6 ∧ b6 ≤ 1 := by rcases q_7 with ⟨h, _⟩ | ⟨h, _⟩ <;> omega
      refine z_if_eq (tgt := 53) hx hb dX11_set_38 (by decide) (by omega) (by omega) (fun c_8 => ?_) (fun c_8 => ?_)
      · refine z_iconst hx hb dX11_set_53 ?_
        exact W.iret (v := zI ((-1))) hx hb hr (fun t9 ht9_ hW => ⟨⟨zI ((-1)), u, rfl, (by skip; refine ⟨?_, ?_⟩ <;> unfold cSet <;> (repeat (first | rw [if_pos (by omega)] | rw [if_neg (by omega)])) <;> first | done | rfl | (congr 1; omega) | (subst_vars; rfl)), gB.mk' hG hC hS ht9_ hW⟩, hS.F ht9_⟩) hS.2.2 dX11_set_54
      · refine lv_aload_n hx hb dX11_set_41 rfl (lv_at hl 0 rfl) ?_
        refine g_get (C := RX11) (T := TX11) (N := 14) (ci := 10) hx hb hts (fun _ h => (List.mem_cons_of_mem _ (List.mem_append_right _ h))) hown hC.1 hG 0 (by decide) rfl rfl 4 (by decide) (hts (.fieldLink RX11 29 "StraitSwim" "nearness" "I") (List.mem_cons_of_mem _ (List.mem_append_left _ (List.mem_of_getElem? (i := 1) rfl)))) (fun _ h9 => h9) rfl dX11_set_42 ?_
        refine lv_istore_n (lv' := [(3, .int (zI (u.1 2))), (0, .ref (ad 0)), (1, .int (zI p1)), (2, .int (zI p2))]) hx hb dX11_set_45 rfl hl (by decide) rfl (fun ls hl => ?_)
        refine lv_aload_n hx hb dX11_set_46 rfl (lv_at hl 1 rfl) ?_
        refine lv_iload_n hx hb dX11_set_47 rfl (lv_at hl 3 rfl) ?_
        refine g_put (C := RX11) (T := TX11) (N := 14) (ci := 10) (ty := .int) hx hb hts (fun _ h => (List.mem_cons_of_mem _ (List.mem_append_right _ h))) tyX11 tyX11_ok nmX11 hown hC.1 hG hS 0 (by decide) rfl rfl 4 2 (by decide) (hts (.fieldLink RX11 29 "StraitSwim" "nearness" "I") (List.mem_cons_of_mem _ (List.mem_append_left _ (List.mem_of_getElem? (i := 1) rfl)))) (fun _ h9 => h9) rfl (by decide +kernel) rfl rfl (Nat.le_of_ble_eq_true rfl) rfl (gO_2 ad _ _) dX11_set_48 (fun u9 H locs hu9 hG hS => ?_)
        refine lv_iload_n hx hb dX11_set_51 rfl (lv_at hl 0 rfl) ?_
        exact W.iret (v := zI (u.1 2)) hx hb hr (fun t9 ht9_ hW => ⟨⟨zI (u.1 2), u9, rfl, (by subst hu9; refine ⟨?_, ?_⟩ <;> unfold cSet <;> (repeat (first | rw [if_pos (by omega)] | rw [if_neg (by omega)])) <;> first | done | rfl | (congr 1; omega) | (subst_vars; rfl)), gB.mk' hG hC hS ht9_ hW⟩, hS.F ht9_⟩) hS.2.2 dX11_set_52
  · refine lv_iload_n hx hb dX11_set_4 rfl (lv_at hl 2 rfl) ?_
    refine z_iconst hx hb dX11_set_5 ?_
    refine z_bipush hx hb dX11_set_6 (by decide) ?_
    refine g_calli (va_runS (As := [.int (zI p2), .int (zI 0), .int (zI 20)]) (rest := []) ⟨hx, hb, hml, hown, hts⟩ (kX11_isWithin l D cy ad jf A u p2 0 20 (by omega) (by omega) (by omega)) (va_cwS 3 hts gX11_set_X11_isWithin rfl rfl rfl (by decide +kernel) ⟨by decide, by decide⟩) (g_preS hG hC hS) rfl rfl hl.1 rfl (lv_room (Nat.le_of_ble_eq_true rfl)) dX11_set_8 ⟨Nat.le_of_ble_eq_true rfl, Nat.le_of_ble_eq_true rfl⟩) hS (fun r10 u11 H locs p_12 hG hS => ?_)
    obtain ⟨⟨b13, rfl, q_14⟩, he_⟩ := p_12
    rw [he_] at hG; clear he_
    have hbb13 : 0 ≤ b13 ∧ b13 ≤ 1 := by rcases q_14 with ⟨h, _⟩ | ⟨h, _⟩ <;> omega
    refine z_if_eq (tgt := 26) hx hb dX11_set_11 (by decide) (by omega) (by omega) (fun c_15 => ?_) (fun c_15 => ?_)
    · refine lv_iload_n hx hb dX11_set_26 rfl (lv_at hl 1 rfl) ?_
      refine z_iconst hx hb dX11_set_27 ?_
      refine z_icmp_ne (tgt := 53) hx hb dX11_set_28 (by decide) (by omega) (by omega) (by omega) (by omega) (fun c_16 => ?_) (fun c_16 => ?_)
      · refine z_iconst hx hb dX11_set_53 ?_
        exact W.iret (v := zI ((-1))) hx hb hr (fun t9 ht9_ hW => ⟨⟨zI ((-1)), u, rfl, (by skip; refine ⟨?_, ?_⟩ <;> unfold cSet <;> (repeat (first | rw [if_pos (by omega)] | rw [if_neg (by omega)])) <;> first | done | rfl | (congr 1; omega) | (subst_vars; rfl)), gB.mk' hG hC hS ht9_ hW⟩, hS.F ht9_⟩) hS.2.2 dX11_set_54
      · refine lv_iload_n hx hb dX11_set_31 rfl (lv_at hl 2 rfl) ?_
        refine z_iconst hx hb dX11_set_32 ?_
        refine z_bipush hx hb dX11_set_33 (by decide) ?_
        refine g_calli (va_runS (As := [.int (zI p2), .int (zI 1), .int (zI 60)]) (rest := []) ⟨hx, hb, hml, hown, hts⟩ (kX11_isWithin l D cy ad jf A u p2 1 60 (by omega) (by omega) (by omega)) (va_cwS 3 hts gX11_set_X11_isWithin rfl rfl rfl (by decide +kernel) ⟨by decide, by decide⟩) (g_preS hG hC hS) rfl rfl hl.1 rfl (lv_room (Nat.le_of_ble_eq_true rfl)) dX11_set_35 ⟨Nat.le_of_ble_eq_true rfl, Nat.le_of_ble_eq_true rfl⟩) hS (fun r17 u18 H locs p_19 hG hS => ?_)
        obtain ⟨⟨b20, rfl, q_21⟩, he_⟩ := p_19
        rw [he_] at hG; clear he_
        have hbb20 : 0 ≤ b20 ∧ b20 ≤ 1 := by rcases q_21 with ⟨h, _⟩ | ⟨h, _⟩ <;> omega
        refine z_if_eq (tgt := 53) hx hb dX11_set_38 (by decide) (by omega) (by omega) (fun c_22 => ?_) (fun c_22 => ?_)
        · refine z_iconst hx hb dX11_set_53 ?_
          exact W.iret (v := zI ((-1))) hx hb hr (fun t9 ht9_ hW => ⟨⟨zI ((-1)), u, rfl, (by skip; refine ⟨?_, ?_⟩ <;> unfold cSet <;> (repeat (first | rw [if_pos (by omega)] | rw [if_neg (by omega)])) <;> first | done | rfl | (congr 1; omega) | (subst_vars; rfl)), gB.mk' hG hC hS ht9_ hW⟩, hS.F ht9_⟩) hS.2.2 dX11_set_54
        · refine lv_aload_n hx hb dX11_set_41 rfl (lv_at hl 0 rfl) ?_
          refine g_get (C := RX11) (T := TX11) (N := 14) (ci := 10) hx hb hts (fun _ h => (List.mem_cons_of_mem _ (List.mem_append_right _ h))) hown hC.1 hG 0 (by decide) rfl rfl 4 (by decide) (hts (.fieldLink RX11 29 "StraitSwim" "nearness" "I") (List.mem_cons_of_mem _ (List.mem_append_left _ (List.mem_of_getElem? (i := 1) rfl)))) (fun _ h9 => h9) rfl dX11_set_42 ?_
          refine lv_istore_n (lv' := [(3, .int (zI (u.1 2))), (0, .ref (ad 0)), (1, .int (zI p1)), (2, .int (zI p2))]) hx hb dX11_set_45 rfl hl (by decide) rfl (fun ls hl => ?_)
          refine lv_aload_n hx hb dX11_set_46 rfl (lv_at hl 1 rfl) ?_
          refine lv_iload_n hx hb dX11_set_47 rfl (lv_at hl 3 rfl) ?_
          refine g_put (C := RX11) (T := TX11) (N := 14) (ci := 10) (ty := .int) hx hb hts (fun _ h => (List.mem_cons_of_mem _ (List.mem_append_right _ h))) tyX11 tyX11_ok nmX11 hown hC.1 hG hS 0 (by decide) rfl rfl 4 2 (by decide) (hts (.fieldLink RX11 29 "StraitSwim" "nearness" "I") (List.mem_cons_of_mem _ (List.mem_append_left _ (List.mem_of_getElem? (i := 1) rfl)))) (fun _ h9 => h9) rfl (by decide +kernel) rfl rfl (Nat.le_of_ble_eq_true rfl) rfl (gO_2 ad _ _) dX11_set_48 (fun u23 H locs hu23 hG hS => ?_)
          refine lv_iload_n hx hb dX11_set_51 rfl (lv_at hl 0 rfl) ?_
          exact W.iret (v := zI (u.1 2)) hx hb hr (fun t9 ht9_ hW => ⟨⟨zI (u.1 2), u23, rfl, (by subst hu23; refine ⟨?_, ?_⟩ <;> unfold cSet <;> (repeat (first | rw [if_pos (by omega)] | rw [if_neg (by omega)])) <;> first | done | rfl | (congr 1; omega) | (subst_vars; rfl)), gB.mk' hG hC hS ht9_ hW⟩, hS.F ht9_⟩) hS.2.2 dX11_set_52
    · refine lv_aload_n hx hb dX11_set_14 rfl (lv_at hl 0 rfl) ?_
      refine g_get (C := RX11) (T := TX11) (N := 14) (ci := 10) hx hb hts (fun _ h => (List.mem_cons_of_mem _ (List.mem_append_right _ h))) hown hC.1 hG 0 (by decide) rfl rfl 3 (by decide) (hts (.fieldLink RX11 26 "StraitSwim" "chill" "I") (List.mem_cons_of_mem _ (List.mem_append_left _ (List.mem_of_getElem? (i := 0) rfl)))) (fun _ h9 => h9) rfl dX11_set_15 ?_
      refine lv_istore_n (lv' := [(3, .int (zI (u.1 1))), (0, .ref (ad 0)), (1, .int (zI p1)), (2, .int (zI p2))]) hx hb dX11_set_18 rfl hl (by decide) rfl (fun ls hl => ?_)
      refine lv_aload_n hx hb dX11_set_19 rfl (lv_at hl 1 rfl) ?_
      refine lv_iload_n hx hb dX11_set_20 rfl (lv_at hl 3 rfl) ?_
      refine g_put (C := RX11) (T := TX11) (N := 14) (ci := 10) (ty := .int) hx hb hts (fun _ h => (List.mem_cons_of_mem _ (List.mem_append_right _ h))) tyX11 tyX11_ok nmX11 hown hC.1 hG hS 0 (by decide) rfl rfl 3 1 (by decide) (hts (.fieldLink RX11 26 "StraitSwim" "chill" "I") (List.mem_cons_of_mem _ (List.mem_append_left _ (List.mem_of_getElem? (i := 0) rfl)))) (fun _ h9 => h9) rfl (by decide +kernel) rfl rfl (Nat.le_of_ble_eq_true rfl) rfl (gO_1 ad _ _) dX11_set_21 (fun u24 H locs hu24 hG hS => ?_)
      refine lv_iload_n hx hb dX11_set_24 rfl (lv_at hl 0 rfl) ?_
      exact W.iret (v := zI (u.1 1)) hx hb hr (fun t9 ht9_ hW => ⟨⟨zI (u.1 1), u24, rfl, (by subst hu24; refine ⟨?_, ?_⟩ <;> unfold cSet <;> (repeat (first | rw [if_pos (by omega)] | rw [if_neg (by omega)])) <;> first | done | rfl | (congr 1; omega) | (subst_vars; rfl)), gB.mk' hG hC hS ht9_ hW⟩, hS.F ht9_⟩) hS.2.2 dX11_set_25
set_option maxHeartbeats 4000000 in
set_option maxRecDepth 100000 in
theorem kX11_stroke (l : Launch) (D : va_G) (cy : Nat → ClassId) (ad : Nat → Nat) (jf : Nat → Int64) (A : Nat → Prop) (u : gS) (p1 : Int) (j_p1 : -2147483648 ≤ p1 ∧ p1 < 2147483648) (hz : 0 ≤ u.1 15 ∧ u.1 15 ≤ 60) : Met l yX11_stroke wsX11_stroke ({ frames := 2, cells := 0, slots := 0, locals := 41 }) (va_Pc [.ref (ad 0), .int (zI p1)] (gB D cy ad jf A u)) (va_Qi (fun (r : Int32) (v : gS) => r = zI (cStroke u p1).1 ∧ v = (cStroke u p1).2) (gB D cy ad jf A) A) 0 0 A := by
  refine Met.ofW (cc := cX11_stroke) (maxL := 2) (ret := (some .int)) (by decide) rfl ?_
  intro p e s m args below meth c s₁ B hml hv
  obtain ⟨rfl, hG, hC⟩ := hv
  have hx := B.exec
  have hb := B.bytes
  have hr := B.returns
  have hts := atoms_spec (ws := wsX11_stroke) B.pre
  have hown : s.vm.findClass RX11 = some m.cls := findClass_of_methodNamed B.named
  have hlocks := B.notSynchronized
  have hS : va_S A s.heap s.heap [] := va_S.rf
  have hl := lv_entry ([.ref (ad 0), .int (zI p1)]) (n := 2) (Nat.le_of_ble_eq_true rfl)
  rw [lg_entry_eq]
  generalize (lg_sl ([.ref (ad 0), .int (zI p1)]) ++ List.replicate (2 - (lg_sl ([.ref (ad 0), .int (zI p1)])).length) Slot.unset).toArray = ls at hl ⊢
  have hl : lv_has ls 2 [(0, .ref (ad 0)), (1, .int (zI p1))] := hl
  refine lv_iload_n hx hb dX11_stroke_0 rfl (lv_at hl 1 rfl) ?_
  refine z_iconst hx hb dX11_stroke_1 ?_
  refine z_bipush hx hb dX11_stroke_2 (by decide) ?_
  refine g_calli (va_runS (As := [.int (zI p1), .int (zI 0), .int (zI 99)]) (rest := []) ⟨hx, hb, hml, hown, hts⟩ (kX11_isWithin l D cy ad jf A u p1 0 99 (by omega) (by omega) (by omega)) (va_cwS 3 hts gX11_stroke_X11_isWithin rfl rfl rfl (by decide +kernel) ⟨by decide, by decide⟩) (g_preS hG hC hS) rfl rfl hl.1 rfl (lv_room (Nat.le_of_ble_eq_true rfl)) dX11_stroke_4 ⟨Nat.le_of_ble_eq_true rfl, Nat.le_of_ble_eq_true rfl⟩) hS (fun r1 u2 H locs p_3 hG hS => ?_)
  obtain ⟨⟨b4, rfl, q_5⟩, he_⟩ := p_3
  rw [he_] at hG; clear he_
  have hbb4 : 0 ≤ b4 ∧ b4 ≤ 1 := by rcases q_5 with ⟨h, _⟩ | ⟨h, _⟩ <;> omega
  refine z_if_ne (tgt := 12) hx hb dX11_stroke_7 (by decide) (by omega) (by omega) (fun c_6 => ?_) (fun c_6 => ?_)
  · refine lv_aload_n hx hb dX11_stroke_12 rfl (lv_at hl 0 rfl) ?_
    refine g_get (C := RX11) (T := TX11) (N := 14) (ci := 10) hx hb hts (fun _ h => (List.mem_cons_of_mem _ (List.mem_append_left _ (List.mem_append_right _ h)))) hown hC.1 hG 0 (by decide) rfl rfl 9 (by decide) (hts (.fieldLink RX11 56 "StraitSwim" "counts" "LStraitSwim$Tally;") (List.mem_cons_of_mem _ (List.mem_append_left _ (List.mem_append_left _ (List.mem_of_getElem? (i := 0) rfl))))) (fun _ h9 => h9) rfl dX11_stroke_13 ?_
    refine g_calli (va_runV (As := []) (rest := []) ⟨hx, hb, hml, hown, hts⟩ (kX10_isFull_4 l D cy ad jf A u  (by omega)) (cwV 0 hts gX11_stroke_X10_isFull rfl rfl rfl (by decide +kernel) ⟨by decide, by decide⟩) (g_preV (C := RX10) hG hC hS 4 (by decide) rfl rfl) rfl rfl hl.1 rfl (lv_room (Nat.le_of_ble_eq_true rfl)) dX11_stroke_16 ⟨Nat.le_of_ble_eq_true rfl, Nat.le_of_ble_eq_true rfl⟩) hS (fun r7 u8 H locs p_9 hG hS => ?_)
    obtain ⟨⟨b10, rfl, q_11⟩, he_⟩ := p_9
    rw [he_] at hG; clear he_
    have hbb10 : 0 ≤ b10 ∧ b10 ≤ 1 := by rcases q_11 with ⟨h, _⟩ | ⟨h, _⟩ <;> omega
    refine z_if_eq (tgt := 25) hx hb dX11_stroke_19 (by decide) (by omega) (by omega) (fun c_12 => ?_) (fun c_12 => ?_)
    · refine lv_aload_n hx hb dX11_stroke_25 rfl (lv_at hl 0 rfl) ?_
      refine g_get (C := RX11) (T := TX11) (N := 14) (ci := 10) hx hb hts (fun _ h => (List.mem_cons_of_mem _ (List.mem_append_left _ (List.mem_append_right _ h)))) hown hC.1 hG 0 (by decide) rfl rfl 9 (by decide) (hts (.fieldLink RX11 56 "StraitSwim" "counts" "LStraitSwim$Tally;") (List.mem_cons_of_mem _ (List.mem_append_left _ (List.mem_append_left _ (List.mem_of_getElem? (i := 0) rfl))))) (fun _ h9 => h9) rfl dX11_stroke_26 ?_
      refine lv_iload_n hx hb dX11_stroke_29 rfl (lv_at hl 1 rfl) ?_
      refine g_callv (va_runV (As := [.int (zI p1)]) (rest := []) ⟨hx, hb, hml, hown, hts⟩ (kX10_add_4 l D cy ad jf A u p1 (by omega)) (cwV 1 hts gX11_stroke_X10_add rfl rfl rfl (by decide +kernel) ⟨by decide, by decide⟩) (g_preV (C := RX10) hG hC hS 4 (by decide) rfl rfl) rfl rfl hl.1 rfl (lv_room (Nat.le_of_ble_eq_true rfl)) dX11_stroke_30 ⟨Nat.le_of_ble_eq_true rfl, Nat.le_of_ble_eq_true rfl⟩) hS (fun u14 H locs p_15 hG hS => ?_)
      refine lv_aload_n hx hb dX11_stroke_33 rfl (lv_at hl 0 rfl) ?_
      refine g_get (C := RX11) (T := TX11) (N := 14) (ci := 10) hx hb hts (fun _ h => (List.mem_cons_of_mem _ (List.mem_append_left _ (List.mem_append_right _ h)))) hown hC.1 hG 0 (by decide) rfl rfl 9 (by decide) (hts (.fieldLink RX11 56 "StraitSwim" "counts" "LStraitSwim$Tally;") (List.mem_cons_of_mem _ (List.mem_append_left _ (List.mem_append_left _ (List.mem_of_getElem? (i := 0) rfl))))) (fun _ h9 => h9) rfl dX11_stroke_34 ?_
      refine g_get (C := RX10) (T := TX10) (N := 2) (ci := 9) hx hb hts (fun _ h => (List.mem_cons_of_mem _ (List.mem_append_right _ h))) hown hC.1 hG 4 (by decide) rfl rfl 1 (by decide) (hts (.fieldLink RX11 173 "StraitSwim$Tally" "size" "I") (List.mem_cons_of_mem _ (List.mem_append_left _ (List.mem_append_left _ (List.mem_of_getElem? (i := 1) rfl))))) (fun _ h9 => h9) rfl dX11_stroke_37 ?_
      have e_16 : u14.1 15 = (u.1 15) + 1 := by subst p_15; rfl
      rw [e_16]
      exact W.iret (v := zI ((u.1 15) + 1)) hx hb hr (fun t9 ht9_ hW => ⟨⟨zI ((u.1 15) + 1), u14, rfl, (by subst p_15; refine ⟨?_, ?_⟩ <;> unfold cStroke <;> (repeat (first | rw [if_pos (by omega)] | rw [if_neg (by omega)])) <;> first | done | rfl | (congr 1; omega) | (subst_vars; rfl)), gB.mk' hG hC hS ht9_ hW⟩, hS.F ht9_⟩) hS.2.2 dX11_stroke_40
    · refine z_bipush hx hb dX11_stroke_22 (by decide) ?_
      exact W.iret (v := zI ((-2))) hx hb hr (fun t9 ht9_ hW => ⟨⟨zI ((-2)), u, rfl, (by skip; refine ⟨?_, ?_⟩ <;> unfold cStroke <;> (repeat (first | rw [if_pos (by omega)] | rw [if_neg (by omega)])) <;> first | done | rfl | (congr 1; omega) | (subst_vars; rfl)), gB.mk' hG hC hS ht9_ hW⟩, hS.F ht9_⟩) hS.2.2 dX11_stroke_24
  · refine z_iconst hx hb dX11_stroke_10 ?_
    exact W.iret (v := zI ((-1))) hx hb hr (fun t9 ht9_ hW => ⟨⟨zI ((-1)), u, rfl, (by skip; refine ⟨?_, ?_⟩ <;> unfold cStroke <;> (repeat (first | rw [if_pos (by omega)] | rw [if_neg (by omega)])) <;> first | done | rfl | (congr 1; omega) | (subst_vars; rfl)), gB.mk' hG hC hS ht9_ hW⟩, hS.F ht9_⟩) hS.2.2 dX11_stroke_11
set_option maxHeartbeats 4000000 in
set_option maxRecDepth 100000 in
theorem kX11_strokes (l : Launch) (D : va_G) (cy : Nat → ClassId) (ad : Nat → Nat) (jf : Nat → Int64) (A : Nat → Prop) (u : gS) (hz : 0 ≤ u.1 15 ∧ u.1 15 ≤ 60) : Met l yX11_strokes wsX11_strokes ({ frames := 0, cells := 0, slots := 0, locals := 0 }) (va_Pc [.ref (ad 0)] (gB D cy ad jf A u)) (va_Qi (fun (r : Int32) (v : gS) => r = zI (u.1 15) ∧ v = sI u 15 0) (gB D cy ad jf A) A) 0 0 A := by
  refine Met.ofW (cc := cX11_strokes) (maxL := 2) (ret := (some .int)) (by decide) rfl ?_
  intro p e s m args below meth c s₁ B hml hv
  obtain ⟨rfl, hG, hC⟩ := hv
  have hx := B.exec
  have hb := B.bytes
  have hr := B.returns
  have hts := atoms_spec (ws := wsX11_strokes) B.pre
  have hown : s.vm.findClass RX11 = some m.cls := findClass_of_methodNamed B.named
  have hlocks := B.notSynchronized
  have hS : va_S A s.heap s.heap [] := va_S.rf
  have hl := lv_entry ([.ref (ad 0)]) (n := 2) (Nat.le_of_ble_eq_true rfl)
  rw [lg_entry_eq]
  generalize (lg_sl ([.ref (ad 0)]) ++ List.replicate (2 - (lg_sl ([.ref (ad 0)])).length) Slot.unset).toArray = ls at hl ⊢
  have hl : lv_has ls 2 [(0, .ref (ad 0))] := hl
  refine lv_aload_n hx hb dX11_strokes_0 rfl (lv_at hl 0 rfl) ?_
  refine g_get (C := RX11) (T := TX11) (N := 14) (ci := 10) hx hb hts (fun _ h => (List.mem_cons_of_mem _ (List.mem_append_left _ (List.mem_append_right _ h)))) hown hC.1 hG 0 (by decide) rfl rfl 9 (by decide) (hts (.fieldLink RX11 56 "StraitSwim" "counts" "LStraitSwim$Tally;") (List.mem_cons_of_mem _ (List.mem_append_left _ (List.mem_append_left _ (List.mem_of_getElem? (i := 0) rfl))))) (fun _ h9 => h9) rfl dX11_strokes_1 ?_
  refine g_get (C := RX10) (T := TX10) (N := 2) (ci := 9) hx hb hts (fun _ h => (List.mem_cons_of_mem _ (List.mem_append_right _ h))) hown hC.1 hG 4 (by decide) rfl rfl 1 (by decide) (hts (.fieldLink RX11 173 "StraitSwim$Tally" "size" "I") (List.mem_cons_of_mem _ (List.mem_append_left _ (List.mem_append_left _ (List.mem_of_getElem? (i := 1) rfl))))) (fun _ h9 => h9) rfl dX11_strokes_4 ?_
  refine lv_istore_n (lv' := [(1, .int (zI (u.1 15))), (0, .ref (ad 0))]) hx hb dX11_strokes_7 rfl hl (by decide) rfl (fun ls hl => ?_)
  refine lv_aload_n hx hb dX11_strokes_8 rfl (lv_at hl 1 rfl) ?_
  refine g_get (C := RX11) (T := TX11) (N := 14) (ci := 10) hx hb hts (fun _ h => (List.mem_cons_of_mem _ (List.mem_append_left _ (List.mem_append_right _ h)))) hown hC.1 hG 0 (by decide) rfl rfl 9 (by decide) (hts (.fieldLink RX11 56 "StraitSwim" "counts" "LStraitSwim$Tally;") (List.mem_cons_of_mem _ (List.mem_append_left _ (List.mem_append_left _ (List.mem_of_getElem? (i := 0) rfl))))) (fun _ h9 => h9) rfl dX11_strokes_9 ?_
  refine z_iconst hx hb dX11_strokes_12 ?_
  refine g_put (C := RX10) (T := TX10) (N := 2) (ci := 9) (ty := .int) hx hb hts (fun _ h => (List.mem_cons_of_mem _ (List.mem_append_right _ h))) tyX10 tyX10_ok nmX10 hown hC.1 hG hS 4 (by decide) rfl rfl 1 15 (by decide) (hts (.fieldLink RX11 173 "StraitSwim$Tally" "size" "I") (List.mem_cons_of_mem _ (List.mem_append_left _ (List.mem_append_left _ (List.mem_of_getElem? (i := 1) rfl))))) (fun _ h9 => h9) rfl (by decide +kernel) rfl rfl (Nat.le_of_ble_eq_true rfl) rfl (gO_15 ad _ _) dX11_strokes_13 (fun u1 H locs hu1 hG hS => ?_)
  refine lv_iload_n hx hb dX11_strokes_16 rfl (lv_at hl 0 rfl) ?_
  exact W.iret (v := zI (u.1 15)) hx hb hr (fun t9 ht9_ hW => ⟨⟨zI (u.1 15), u1, rfl, (by subst hu1; exact ⟨rfl, rfl⟩), gB.mk' hG hC hS ht9_ hW⟩, hS.F ht9_⟩) hS.2.2 dX11_strokes_17
set_option maxHeartbeats 4000000 in
set_option maxRecDepth 100000 in
theorem kX11_stopsAt (l : Launch) (D : va_G) (cy : Nat → ClassId) (ad : Nat → Nat) (jf : Nat → Int64) (A : Nat → Prop) (u : gS) (p1 p2 : Int) (j_p1 : -2147483648 ≤ p1 ∧ p1 < 2147483648) (j_p2 : -2147483648 ≤ p2 ∧ p2 < 2147483648) (hz : 0 ≤ u.1 15 ∧ u.1 15 ≤ 60) (i22 : ∀ j, j < 60 → 0 ≤ u.2.1 22 j ∧ u.2.1 22 j ≤ 99) : Met l yX11_stopsAt wsX11_stopsAt ({ frames := 0, cells := 0, slots := 0, locals := 0 }) (va_Pc [.ref (ad 0), .int (zI p1), .int (zI p2)] (gB D cy ad jf A u)) (va_Qi (fun (r : Int32) (v : gS) => r = zI (spStop (u.2.1 22) (u.1 15) p1 p2 61 0 0) ∧ v = u) (gB D cy ad jf A) A) 0 0 A := by
  refine Met.ofW (cc := cX11_stopsAt) (maxL := 5) (ret := (some .int)) (by decide) rfl ?_
  intro p e s m args below meth c s₁ B hml hv
  obtain ⟨rfl, hG, hC⟩ := hv
  have hx := B.exec
  have hb := B.bytes
  have hr := B.returns
  have hts := atoms_spec (ws := wsX11_stopsAt) B.pre
  have hown : s.vm.findClass RX11 = some m.cls := findClass_of_methodNamed B.named
  have hlocks := B.notSynchronized
  have hS : va_S A s.heap s.heap [] := va_S.rf
  have hl := lv_entry ([.ref (ad 0), .int (zI p1), .int (zI p2)]) (n := 5) (Nat.le_of_ble_eq_true rfl)
  rw [lg_entry_eq]
  generalize (lg_sl ([.ref (ad 0), .int (zI p1), .int (zI p2)]) ++ List.replicate (5 - (lg_sl ([.ref (ad 0), .int (zI p1), .int (zI p2)])).length) Slot.unset).toArray = ls at hl ⊢
  have hl : lv_has ls 5 [(0, .ref (ad 0)), (1, .int (zI p1)), (2, .int (zI p2))] := hl
  refine z_iconst hx hb dX11_stopsAt_0 ?_
  refine lv_istore_n (lv' := [(3, .int (zI 0)), (0, .ref (ad 0)), (1, .int (zI p1)), (2, .int (zI p2))]) hx hb dX11_stopsAt_1 rfl hl (by decide) rfl (fun ls hl => ?_)
  refine z_iconst hx hb dX11_stopsAt_2 ?_
  refine lv_istore (lv' := [(4, .int (zI 0)), (3, .int (zI 0)), (0, .ref (ad 0)), (1, .int (zI p1)), (2, .int (zI p2))]) hx hb dX11_stopsAt_3 hl (by decide) rfl (fun ls hl => ?_)
  have loop5 : ∀ (n : Nat) (i run : Int) (H : Heap) (locs : List Loc) (ls : Array Slot), (u.1 15 - i).toNat < n → (0 ≤ i ∧ i ≤ 60) → (0 ≤ run ∧ run ≤ i) → (spStop (u.2.1 22) (u.1 15) p1 p2 61 0 0 = spStop (u.2.1 22) (u.1 15) p1 p2 n i run) → gH D cy ad jf A u H → va_S A s.heap H locs → lv_has ls 5 [(4, .int (zI i)), (3, .int (zI run)), (0, .ref (ad 0)), (1, .int (zI p1)), (2, .int (zI p2))] → W p l e (headSpec wsX11_stopsAt ({ frames := 0, cells := 0, slots := 0, locals := 0 })).room s m ([.ref (ad 0), .int (zI p1), .int (zI p2)]).toArray below meth c H locs 0 0 (MQ below (va_Qi (fun (r : Int32) (v : gS) => r = zI (spStop (u.2.1 22) (u.1 15) p1 p2 61 0 0) ∧ v = u) (gB D cy ad jf A) A) ([.ref (ad 0), .int (zI p1), .int (zI p2)]).toArray s 0 0 A) (F0 m 5 ls []) := by
    intro n
    induction n with
    | zero => intro i run  H locs ls hm; exact absurd hm (Nat.not_lt_zero _)
    | succ n ih5 =>
      intro i run  H locs ls hm hi hr9 hT hG hS hl
      refine lv_iload hx hb dX11_stopsAt_5 (lv_at hl 0 rfl) ?_
      refine lv_aload_n hx hb dX11_stopsAt_7 rfl (lv_at hl 2 rfl) ?_
      refine g_get (C := RX11) (T := TX11) (N := 14) (ci := 10) hx hb hts (fun _ h => (List.mem_cons_of_mem _ (List.mem_append_left _ (List.mem_append_right _ h)))) hown hC.1 hG 0 (by decide) rfl rfl 9 (by decide) (hts (.fieldLink RX11 56 "StraitSwim" "counts" "LStraitSwim$Tally;") (List.mem_cons_of_mem _ (List.mem_append_left _ (List.mem_append_left _ (List.mem_of_getElem? (i := 0) rfl))))) (fun _ h9 => h9) rfl dX11_stopsAt_8 ?_
      refine g_get (C := RX10) (T := TX10) (N := 2) (ci := 9) hx hb hts (fun _ h => (List.mem_cons_of_mem _ (List.mem_append_right _ h))) hown hC.1 hG 4 (by decide) rfl rfl 1 (by decide) (hts (.fieldLink RX11 173 "StraitSwim$Tally" "size" "I") (List.mem_cons_of_mem _ (List.mem_append_left _ (List.mem_append_left _ (List.mem_of_getElem? (i := 1) rfl))))) (fun _ h9 => h9) rfl dX11_stopsAt_11 ?_
      refine z_icmp_ge (tgt := 53) hx hb dX11_stopsAt_14 (by decide) (by omega) (by omega) (by omega) (by omega) (fun c_1 => ?_) (fun c_1 => ?_)
      · refine z_bipush hx hb dX11_stopsAt_53 (by decide) ?_
        exact W.iret (v := zI ((-4))) hx hb hr (fun t9 ht9_ hW => ⟨⟨zI ((-4)), u, rfl, (by refine ⟨?_, rfl⟩; rw [hT, spStop]; (repeat (first | rw [if_pos (by omega)] | rw [if_neg (by omega)])); all_goals rfl), gB.mk' hG hC hS ht9_ hW⟩, hS.F ht9_⟩) hS.2.2 dX11_stopsAt_55
      · refine lv_aload_n hx hb dX11_stopsAt_17 rfl (lv_at hl 2 rfl) ?_
        refine g_get (C := RX11) (T := TX11) (N := 14) (ci := 10) hx hb hts (fun _ h => (List.mem_cons_of_mem _ (List.mem_append_left _ (List.mem_append_right _ h)))) hown hC.1 hG 0 (by decide) rfl rfl 9 (by decide) (hts (.fieldLink RX11 56 "StraitSwim" "counts" "LStraitSwim$Tally;") (List.mem_cons_of_mem _ (List.mem_append_left _ (List.mem_append_left _ (List.mem_of_getElem? (i := 0) rfl))))) (fun _ h9 => h9) rfl dX11_stopsAt_18 ?_
        refine g_get (C := RX10) (T := TX10) (N := 2) (ci := 9) hx hb hts (fun _ h => (List.mem_cons_of_mem _ (List.mem_append_right _ h))) hown hC.1 hG 4 (by decide) rfl rfl 0 (by decide) (hts (.fieldLink RX11 185 "StraitSwim$Tally" "items" "[I") (List.mem_cons_of_mem _ (List.mem_append_left _ (List.mem_append_left _ (List.mem_of_getElem? (i := 2) rfl))))) (fun _ h9 => h9) rfl dX11_stopsAt_21 ?_
        refine lv_iload hx hb dX11_stopsAt_24 (lv_at hl 0 rfl) ?_
        refine g_iald (n := 60) hx hb hC.1 hG 22 (by decide) rfl (by omega) (by omega) (by decide) dX11_stopsAt_26 ?_
        have q_2 := i22 i.toNat (by omega)
        refine lv_iload_n hx hb dX11_stopsAt_27 rfl (lv_at hl 3 rfl) ?_
        refine z_icmp_ge (tgt := 37) hx hb dX11_stopsAt_28 (by decide) (by omega) (by omega) (by omega) (by omega) (fun c_3 => ?_) (fun c_3 => ?_)
        · refine z_iconst hx hb dX11_stopsAt_37 ?_
          refine lv_istore_n (lv' := [(3, .int (zI 0)), (4, .int (zI i)), (0, .ref (ad 0)), (1, .int (zI p1)), (2, .int (zI p2))]) hx hb dX11_stopsAt_38 rfl hl (by decide) rfl (fun ls hl => ?_)
          refine lv_iload_n hx hb dX11_stopsAt_39 rfl (lv_at hl 0 rfl) ?_
          refine lv_iload_n hx hb dX11_stopsAt_40 rfl (lv_at hl 4 rfl) ?_
          refine z_icmp_ne (tgt := 47) hx hb dX11_stopsAt_41 (by decide) (by omega) (by omega) (by omega) (by omega) (fun c_4 => ?_) (fun c_4 => ?_)
          · refine z_iinc (lv' := [(4, .int (zI (i + 1))), (3, .int (zI 0)), (0, .ref (ad 0)), (1, .int (zI p1)), (2, .int (zI p2))]) hx hb dX11_stopsAt_47 hl (k := 1) rfl (by decide) rfl (fun ls hl => ?_)
            refine lv_goto (tgt := 5) hx hb dX11_stopsAt_50 (by decide) ?_
            exact ih5 (i + 1) 0 _ _ _ (by omega) (by omega) (by omega) (by rw [hT, spStop]; (repeat (first | rw [if_pos (by omega)] | rw [if_neg (by omega)]))) hG hS (lv_sub hl [0, 1, 2, 3, 4] rfl)
          · refine lv_iload hx hb dX11_stopsAt_44 (lv_at hl 1 rfl) ?_
            exact W.iret (v := zI i) hx hb hr (fun t9 ht9_ hW => ⟨⟨zI i, u, rfl, (by refine ⟨?_, rfl⟩; rw [hT, spStop]; (repeat (first | rw [if_pos (by omega)] | rw [if_neg (by omega)])); all_goals rfl), gB.mk' hG hC hS ht9_ hW⟩, hS.F ht9_⟩) hS.2.2 dX11_stopsAt_46
        · refine lv_iload_n hx hb dX11_stopsAt_31 rfl (lv_at hl 1 rfl) ?_
          refine z_iconst hx hb dX11_stopsAt_32 ?_
          refine z_iadd hx hb dX11_stopsAt_33 ?_
          refine lv_goto (tgt := 38) hx hb dX11_stopsAt_34 (by decide) ?_
          refine lv_istore_n (lv' := [(3, .int (zI (run + 1))), (4, .int (zI i)), (0, .ref (ad 0)), (1, .int (zI p1)), (2, .int (zI p2))]) hx hb dX11_stopsAt_38 rfl hl (by decide) rfl (fun ls hl => ?_)
          refine lv_iload_n hx hb dX11_stopsAt_39 rfl (lv_at hl 0 rfl) ?_
          refine lv_iload_n hx hb dX11_stopsAt_40 rfl (lv_at hl 4 rfl) ?_
          refine z_icmp_ne (tgt := 47) hx hb dX11_stopsAt_41 (by decide) (by omega) (by omega) (by omega) (by omega) (fun c_5 => ?_) (fun c_5 => ?_)
          · refine z_iinc (lv' := [(4, .int (zI (i + 1))), (3, .int (zI (run + 1))), (0, .ref (ad 0)), (1, .int (zI p1)), (2, .int (zI p2))]) hx hb dX11_stopsAt_47 hl (k := 1) rfl (by decide) rfl (fun ls hl => ?_)
            refine lv_goto (tgt := 5) hx hb dX11_stopsAt_50 (by decide) ?_
            exact ih5 (i + 1) (run + 1) _ _ _ (by omega) (by omega) (by omega) (by rw [hT, spStop]; (repeat (first | rw [if_pos (by omega)] | rw [if_neg (by omega)]))) hG hS (lv_sub hl [0, 1, 2, 3, 4] rfl)
          · refine lv_iload hx hb dX11_stopsAt_44 (lv_at hl 1 rfl) ?_
            exact W.iret (v := zI i) hx hb hr (fun t9 ht9_ hW => ⟨⟨zI i, u, rfl, (by refine ⟨?_, rfl⟩; rw [hT, spStop]; (repeat (first | rw [if_pos (by omega)] | rw [if_neg (by omega)])); all_goals rfl), gB.mk' hG hC hS ht9_ hW⟩, hS.F ht9_⟩) hS.2.2 dX11_stopsAt_46
  exact loop5 61 0 0 _ _ _ (by omega) (by omega) (by omega) (by rfl) hG hS (lv_sub hl [0, 1, 2, 3, 4] rfl)
set_option maxHeartbeats 4000000 in
set_option maxRecDepth 100000 in
theorem kX11_stop (l : Launch) (D : va_G) (cy : Nat → ClassId) (ad : Nat → Nat) (jf : Nat → Int64) (A : Nat → Prop) (u : gS) (p1 p2 : Int) (j_p1 : -2147483648 ≤ p1 ∧ p1 < 2147483648) (j_p2 : -2147483648 ≤ p2 ∧ p2 < 2147483648) (hz : 0 ≤ u.1 15 ∧ u.1 15 ≤ 60) (i22 : ∀ j, j < 60 → 0 ≤ u.2.1 22 j ∧ u.2.1 22 j ≤ 99) : Met l yX11_stop wsX11_stop ({ frames := 1, cells := 0, slots := 0, locals := 24 }) (va_Pc [.ref (ad 0), .int (zI p1), .int (zI p2)] (gB D cy ad jf A u)) (va_Qi (fun (r : Int32) (v : gS) => r = zI (cStop u p1 p2) ∧ v = u) (gB D cy ad jf A) A) 0 0 A := by
  refine Met.ofW (cc := cX11_stop) (maxL := 3) (ret := (some .int)) (by decide) rfl ?_
  intro p e s m args below meth c s₁ B hml hv
  obtain ⟨rfl, hG, hC⟩ := hv
  have hx := B.exec
  have hb := B.bytes
  have hr := B.returns
  have hts := atoms_spec (ws := wsX11_stop) B.pre
  have hown : s.vm.findClass RX11 = some m.cls := findClass_of_methodNamed B.named
  have hlocks := B.notSynchronized
  have hS : va_S A s.heap s.heap [] := va_S.rf
  have hl := lv_entry ([.ref (ad 0), .int (zI p1), .int (zI p2)]) (n := 3) (Nat.le_of_ble_eq_true rfl)
  rw [lg_entry_eq]
  generalize (lg_sl ([.ref (ad 0), .int (zI p1), .int (zI p2)]) ++ List.replicate (3 - (lg_sl ([.ref (ad 0), .int (zI p1), .int (zI p2)])).length) Slot.unset).toArray = ls at hl ⊢
  have hl : lv_has ls 3 [(0, .ref (ad 0)), (1, .int (zI p1)), (2, .int (zI p2))] := hl
  refine lv_iload_n hx hb dX11_stop_0 rfl (lv_at hl 1 rfl) ?_
  refine z_iconst hx hb dX11_stop_1 ?_
  refine z_bipush hx hb dX11_stop_2 (by decide) ?_
  refine g_calli (va_runS (As := [.int (zI p1), .int (zI 0), .int (zI 99)]) (rest := []) ⟨hx, hb, hml, hown, hts⟩ (kX11_isWithin l D cy ad jf A u p1 0 99 (by omega) (by omega) (by omega)) (va_cwS 3 hts gX11_stop_X11_isWithin rfl rfl rfl (by decide +kernel) ⟨by decide, by decide⟩) (g_preS hG hC hS) rfl rfl hl.1 rfl (lv_room (Nat.le_of_ble_eq_true rfl)) dX11_stop_4 ⟨Nat.le_of_ble_eq_true rfl, Nat.le_of_ble_eq_true rfl⟩) hS (fun r1 u2 H locs p_3 hG hS => ?_)
  obtain ⟨⟨b4, rfl, q_5⟩, he_⟩ := p_3
  rw [he_] at hG; clear he_
  have hbb4 : 0 ≤ b4 ∧ b4 ≤ 1 := by rcases q_5 with ⟨h, _⟩ | ⟨h, _⟩ <;> omega
  refine z_if_eq (tgt := 20) hx hb dX11_stop_7 (by decide) (by omega) (by omega) (fun c_6 => ?_) (fun c_6 => ?_)
  · refine z_iconst hx hb dX11_stop_20 ?_
    exact W.iret (v := zI ((-1))) hx hb hr (fun t9 ht9_ hW => ⟨⟨zI ((-1)), u, rfl, (by refine ⟨?_, rfl⟩; unfold cStop; (repeat (first | rw [if_pos (by omega)] | rw [if_neg (by omega)])); all_goals (first | rfl | (congr 1; omega) | (subst_vars; rfl))), gB.mk' hG hC hS ht9_ hW⟩, hS.F ht9_⟩) hS.2.2 dX11_stop_21
  · refine lv_iload_n hx hb dX11_stop_10 rfl (lv_at hl 2 rfl) ?_
    refine z_iconst hx hb dX11_stop_11 ?_
    refine z_bipush hx hb dX11_stop_12 (by decide) ?_
    refine g_calli (va_runS (As := [.int (zI p2), .int (zI 1), .int (zI 10)]) (rest := []) ⟨hx, hb, hml, hown, hts⟩ (kX11_isWithin l D cy ad jf A u p2 1 10 (by omega) (by omega) (by omega)) (va_cwS 3 hts gX11_stop_X11_isWithin rfl rfl rfl (by decide +kernel) ⟨by decide, by decide⟩) (g_preS hG hC hS) rfl rfl hl.1 rfl (lv_room (Nat.le_of_ble_eq_true rfl)) dX11_stop_14 ⟨Nat.le_of_ble_eq_true rfl, Nat.le_of_ble_eq_true rfl⟩) hS (fun r7 u8 H locs p_9 hG hS => ?_)
    obtain ⟨⟨b10, rfl, q_11⟩, he_⟩ := p_9
    rw [he_] at hG; clear he_
    have hbb10 : 0 ≤ b10 ∧ b10 ≤ 1 := by rcases q_11 with ⟨h, _⟩ | ⟨h, _⟩ <;> omega
    refine z_if_ne (tgt := 22) hx hb dX11_stop_17 (by decide) (by omega) (by omega) (fun c_12 => ?_) (fun c_12 => ?_)
    · refine lv_aload_n hx hb dX11_stop_22 rfl (lv_at hl 0 rfl) ?_
      refine lv_iload_n hx hb dX11_stop_23 rfl (lv_at hl 1 rfl) ?_
      refine lv_iload_n hx hb dX11_stop_24 rfl (lv_at hl 2 rfl) ?_
      refine g_calli (va_runV (As := [.int (zI p1), .int (zI p2)]) (rest := []) ⟨hx, hb, hml, hown, hts⟩ (kX11_stopsAt l D cy ad jf A u p1 p2 (by omega) (by omega) hz i22) (cwV 2 hts gX11_stop_X11_stopsAt rfl rfl rfl (by decide +kernel) ⟨by decide, by decide⟩) (g_preV (C := RX11) hG hC hS 0 (by decide) rfl rfl) rfl rfl hl.1 rfl (lv_room (Nat.le_of_ble_eq_true rfl)) dX11_stop_25 ⟨Nat.le_of_ble_eq_true rfl, Nat.le_of_ble_eq_true rfl⟩) hS (fun r13 u14 H locs p_15 hG hS => ?_)
      obtain ⟨rfl, he_⟩ := p_15
      rw [he_] at hG; clear he_
      obtain ⟨z16, hz16⟩ : ∃ z : Int, z = spStop (u.2.1 22) (u.1 15) p1 p2 61 0 0 := ⟨_, rfl⟩
      rw [← hz16]
      have qz16 : -4 ≤ z16 ∧ z16 ≤ 60 := by rw [hz16]; exact spStop_bnd _ _ _ _ (by omega) _ _ _ (by omega)
      exact W.iret (v := zI z16) hx hb hr (fun t9 ht9_ hW => ⟨⟨zI z16, u, rfl, (by refine ⟨?_, rfl⟩; unfold cStop; (repeat (first | rw [if_pos (by omega)] | rw [if_neg (by omega)])); all_goals (first | rfl | (congr 1; omega) | (subst_vars; rfl))), gB.mk' hG hC hS ht9_ hW⟩, hS.F ht9_⟩) hS.2.2 dX11_stop_28
    · refine z_iconst hx hb dX11_stop_20 ?_
      exact W.iret (v := zI ((-1))) hx hb hr (fun t9 ht9_ hW => ⟨⟨zI ((-1)), u, rfl, (by refine ⟨?_, rfl⟩; unfold cStop; (repeat (first | rw [if_pos (by omega)] | rw [if_neg (by omega)])); all_goals (first | rfl | (congr 1; omega) | (subst_vars; rfl))), gB.mk' hG hC hS ht9_ hW⟩, hS.F ht9_⟩) hS.2.2 dX11_stop_21
set_option maxHeartbeats 4000000 in
set_option maxRecDepth 100000 in
theorem kX11_floor (l : Launch) (D : va_G) (cy : Nat → ClassId) (ad : Nat → Nat) (jf : Nat → Int64) (A : Nat → Prop) (u : gS) (p1 : Int) (j_p1 : -2147483648 ≤ p1 ∧ p1 < 2147483648) (hz : 0 ≤ u.1 15 ∧ u.1 15 ≤ 60) (i22 : ∀ j, j < 60 → 0 ≤ u.2.1 22 j ∧ u.2.1 22 j ≤ 99) : Met l yX11_floor wsX11_floor ({ frames := 1, cells := 0, slots := 0, locals := 24 }) (va_Pc [.ref (ad 0), .int (zI p1)] (gB D cy ad jf A u)) (va_Qi (fun (r : Int32) (v : gS) => r = zI (cFloor u p1) ∧ v = u) (gB D cy ad jf A) A) 0 0 A := by
  refine Met.ofW (cc := cX11_floor) (maxL := 3) (ret := (some .int)) (by decide) rfl ?_
  intro p e s m args below meth c s₁ B hml hv
  obtain ⟨rfl, hG, hC⟩ := hv
  have hx := B.exec
  have hb := B.bytes
  have hr := B.returns
  have hts := atoms_spec (ws := wsX11_floor) B.pre
  have hown : s.vm.findClass RX11 = some m.cls := findClass_of_methodNamed B.named
  have hlocks := B.notSynchronized
  have hS : va_S A s.heap s.heap [] := va_S.rf
  have hl := lv_entry ([.ref (ad 0), .int (zI p1)]) (n := 3) (Nat.le_of_ble_eq_true rfl)
  rw [lg_entry_eq]
  generalize (lg_sl ([.ref (ad 0), .int (zI p1)]) ++ List.replicate (3 - (lg_sl ([.ref (ad 0), .int (zI p1)])).length) Slot.unset).toArray = ls at hl ⊢
  have hl : lv_has ls 3 [(0, .ref (ad 0)), (1, .int (zI p1))] := hl
  refine lv_iload_n hx hb dX11_floor_0 rfl (lv_at hl 1 rfl) ?_
  refine z_iconst hx hb dX11_floor_1 ?_
  refine z_bipush hx hb dX11_floor_2 (by decide) ?_
  refine g_calli (va_runS (As := [.int (zI p1), .int (zI 1), .int (zI 10)]) (rest := []) ⟨hx, hb, hml, hown, hts⟩ (kX11_isWithin l D cy ad jf A u p1 1 10 (by omega) (by omega) (by omega)) (va_cwS 3 hts gX11_floor_X11_isWithin rfl rfl rfl (by decide +kernel) ⟨by decide, by decide⟩) (g_preS hG hC hS) rfl rfl hl.1 rfl (lv_room (Nat.le_of_ble_eq_true rfl)) dX11_floor_4 ⟨Nat.le_of_ble_eq_true rfl, Nat.le_of_ble_eq_true rfl⟩) hS (fun r1 u2 H locs p_3 hG hS => ?_)
  obtain ⟨⟨b4, rfl, q_5⟩, he_⟩ := p_3
  rw [he_] at hG; clear he_
  have hbb4 : 0 ≤ b4 ∧ b4 ≤ 1 := by rcases q_5 with ⟨h, _⟩ | ⟨h, _⟩ <;> omega
  refine z_if_ne (tgt := 12) hx hb dX11_floor_7 (by decide) (by omega) (by omega) (fun c_6 => ?_) (fun c_6 => ?_)
  · refine z_iconst hx hb dX11_floor_12 ?_
    refine lv_istore_n (lv' := [(2, .int (zI 0)), (0, .ref (ad 0)), (1, .int (zI p1))]) hx hb dX11_floor_13 rfl hl (by decide) rfl (fun ls hl => ?_)
    have loop14 : ∀ (n : Nat) (f : Int) (H : Heap) (locs : List Loc) (ls : Array Slot), (100 - f).toNat < n → (0 ≤ f ∧ f ≤ 100) → (spFloor (u.2.1 22) (u.1 15) p1 101 0 = spFloor (u.2.1 22) (u.1 15) p1 n f) → gH D cy ad jf A u H → va_S A s.heap H locs → lv_has ls 3 [(2, .int (zI f)), (0, .ref (ad 0)), (1, .int (zI p1))] → W p l e (headSpec wsX11_floor ({ frames := 1, cells := 0, slots := 0, locals := 24 })).room s m ([.ref (ad 0), .int (zI p1)]).toArray below meth c H locs 0 0 (MQ below (va_Qi (fun (r : Int32) (v : gS) => r = zI (cFloor u p1) ∧ v = u) (gB D cy ad jf A) A) ([.ref (ad 0), .int (zI p1)]).toArray s 0 0 A) (F0 m 14 ls []) := by
      intro n
      induction n with
      | zero => intro f  H locs ls hm; exact absurd hm (Nat.not_lt_zero _)
      | succ n ih14 =>
        intro f  H locs ls hm hi hT hG hS hl
        refine lv_iload_n hx hb dX11_floor_14 rfl (lv_at hl 0 rfl) ?_
        refine z_bipush hx hb dX11_floor_15 (by decide) ?_
        refine z_icmp_gt (tgt := 39) hx hb dX11_floor_17 (by decide) (by omega) (by omega) (by omega) (by omega) (fun c_7 => ?_) (fun c_7 => ?_)
        · refine z_bipush hx hb dX11_floor_39 (by decide) ?_
          exact W.iret (v := zI ((-4))) hx hb hr (fun t9 ht9_ hW => ⟨⟨zI ((-4)), u, rfl, (by refine ⟨?_, rfl⟩; unfold cFloor; (repeat (first | rw [if_pos (by omega)] | rw [if_neg (by omega)])); all_goals (rw [hT, spFloor]; subst_vars; (repeat (first | rw [if_pos (by omega)] | rw [if_neg (by omega)])); all_goals rfl)), gB.mk' hG hC hS ht9_ hW⟩, hS.F ht9_⟩) hS.2.2 dX11_floor_41
        · refine lv_aload_n hx hb dX11_floor_20 rfl (lv_at hl 1 rfl) ?_
          refine lv_iload_n hx hb dX11_floor_21 rfl (lv_at hl 0 rfl) ?_
          refine lv_iload_n hx hb dX11_floor_22 rfl (lv_at hl 2 rfl) ?_
          refine g_calli (va_runV (As := [.int (zI f), .int (zI p1)]) (rest := []) ⟨hx, hb, hml, hown, hts⟩ (kX11_stopsAt l D cy ad jf A u f p1 (by omega) (by omega) hz i22) (cwV 2 hts gX11_floor_X11_stopsAt rfl rfl rfl (by decide +kernel) ⟨by decide, by decide⟩) (g_preV (C := RX11) hG hC hS 0 (by decide) rfl rfl) rfl rfl hl.1 rfl (lv_room (Nat.le_of_ble_eq_true rfl)) dX11_floor_23 ⟨Nat.le_of_ble_eq_true rfl, Nat.le_of_ble_eq_true rfl⟩) hS (fun r8 u9 H locs p_10 hG hS => ?_)
          obtain ⟨rfl, he_⟩ := p_10
          rw [he_] at hG; clear he_
          obtain ⟨z11, hz11⟩ : ∃ z : Int, z = spStop (u.2.1 22) (u.1 15) f p1 61 0 0 := ⟨_, rfl⟩
          rw [← hz11]
          have qz11 : -4 ≤ z11 ∧ z11 ≤ 60 := by rw [hz11]; exact spStop_bnd _ _ _ _ (by omega) _ _ _ (by omega)
          refine z_bipush hx hb dX11_floor_26 (by decide) ?_
          refine z_icmp_eq (tgt := 33) hx hb dX11_floor_28 (by decide) (by omega) (by omega) (by omega) (by omega) (fun c_12 => ?_) (fun c_12 => ?_)
          · refine z_iinc (lv' := [(2, .int (zI (f + 1))), (0, .ref (ad 0)), (1, .int (zI p1))]) hx hb dX11_floor_33 hl (k := 0) rfl (by decide) rfl (fun ls hl => ?_)
            refine lv_goto (tgt := 14) hx hb dX11_floor_36 (by decide) ?_
            exact ih14 (f + 1) _ _ _ (by omega) (by omega) (by rw [hT, spFloor]; subst_vars; (repeat (first | rw [if_pos (by omega)] | rw [if_neg (by omega)]))) hG hS (lv_sub hl [0, 1, 2] rfl)
          · refine lv_iload_n hx hb dX11_floor_31 rfl (lv_at hl 0 rfl) ?_
            exact W.iret (v := zI f) hx hb hr (fun t9 ht9_ hW => ⟨⟨zI f, u, rfl, (by refine ⟨?_, rfl⟩; unfold cFloor; (repeat (first | rw [if_pos (by omega)] | rw [if_neg (by omega)])); all_goals (rw [hT, spFloor]; subst_vars; (repeat (first | rw [if_pos (by omega)] | rw [if_neg (by omega)])); all_goals rfl)), gB.mk' hG hC hS ht9_ hW⟩, hS.F ht9_⟩) hS.2.2 dX11_floor_32
    exact loop14 101 0 _ _ _ (by omega) (by omega) (by rfl) hG hS (lv_sub hl [0, 1, 2] rfl)
  · refine z_iconst hx hb dX11_floor_10 ?_
    exact W.iret (v := zI ((-1))) hx hb hr (fun t9 ht9_ hW => ⟨⟨zI ((-1)), u, rfl, (by refine ⟨?_, rfl⟩; unfold cFloor; (repeat (first | rw [if_pos (by omega)] | rw [if_neg (by omega)])); all_goals rfl), gB.mk' hG hC hS ht9_ hW⟩, hS.F ht9_⟩) hS.2.2 dX11_floor_11
set_option maxHeartbeats 4000000 in
set_option maxRecDepth 100000 in
theorem kX11_voided (l : Launch) (D : va_G) (cy : Nat → ClassId) (ad : Nat → Nat) (jf : Nat → Int64) (A : Nat → Prop) (u : gS) (i16 : 0 ≤ u.1 16 ∧ u.1 16 ≤ 6) (i17 : 0 ≤ u.1 17 ∧ u.1 17 ≤ 40) (i23 : ∀ j, j < 6 → 0 ≤ u.2.1 23 j ∧ u.2.1 23 j ≤ 15) (i24 : ∀ j, j < 40 → 0 ≤ u.2.1 24 j ∧ u.2.1 24 j ≤ 15) : Met l yX11_voided wsX11_voided ({ frames := 0, cells := 0, slots := 0, locals := 0 }) (va_Pc [.ref (ad 0)] (gB D cy ad jf A u)) (va_Qi (fun (r : Int32) (v : gS) => r = zI (cVoided u) ∧ v = u) (gB D cy ad jf A) A) 0 0 A := by
  refine Met.ofW (cc := cX11_voided) (maxL := 3) (ret := (some .int)) (by decide) rfl ?_
  intro p e s m args below meth c s₁ B hml hv
  obtain ⟨rfl, hG, hC⟩ := hv
  have hx := B.exec
  have hb := B.bytes
  have hr := B.returns
  have hts := atoms_spec (ws := wsX11_voided) B.pre
  have hown : s.vm.findClass RX11 = some m.cls := findClass_of_methodNamed B.named
  have hlocks := B.notSynchronized
  have hS : va_S A s.heap s.heap [] := va_S.rf
  have hl := lv_entry ([.ref (ad 0)]) (n := 3) (Nat.le_of_ble_eq_true rfl)
  rw [lg_entry_eq]
  generalize (lg_sl ([.ref (ad 0)]) ++ List.replicate (3 - (lg_sl ([.ref (ad 0)])).length) Slot.unset).toArray = ls at hl ⊢
  have hl : lv_has ls 3 [(0, .ref (ad 0))] := hl
  refine lv_aload_n hx hb dX11_voided_0 rfl (lv_at hl 0 rfl) ?_
  refine g_get (C := RX11) (T := TX11) (N := 14) (ci := 10) hx hb hts (fun _ h => (List.mem_cons_of_mem _ (List.mem_append_left _ (List.mem_append_right _ h)))) hown hC.1 hG 0 (by decide) rfl rfl 10 (by decide) (hts (.fieldLink RX11 60 "StraitSwim" "relay" "LStraitSwim$Tally;") (List.mem_cons_of_mem _ (List.mem_append_left _ (List.mem_append_left _ (List.mem_of_getElem? (i := 0) rfl))))) (fun _ h9 => h9) rfl dX11_voided_1 ?_
  refine g_get (C := RX10) (T := TX10) (N := 2) (ci := 9) hx hb hts (fun _ h => (List.mem_cons_of_mem _ (List.mem_append_right _ h))) hown hC.1 hG 5 (by decide) rfl rfl 1 (by decide) (hts (.fieldLink RX11 173 "StraitSwim$Tally" "size" "I") (List.mem_cons_of_mem _ (List.mem_append_left _ (List.mem_append_left _ (List.mem_of_getElem? (i := 1) rfl))))) (fun _ h9 => h9) rfl dX11_voided_4 ?_
  refine lv_istore_n (lv' := [(1, .int (zI (u.1 16))), (0, .ref (ad 0))]) hx hb dX11_voided_7 rfl hl (by decide) rfl (fun ls hl => ?_)
  refine lv_iload_n hx hb dX11_voided_8 rfl (lv_at hl 0 rfl) ?_
  refine z_if_ne (tgt := 15) hx hb dX11_voided_9 (by decide) (by omega) (by omega) (fun c_1 => ?_) (fun c_1 => ?_)
  · refine z_iconst hx hb dX11_voided_15 ?_
    refine lv_istore_n (lv' := [(2, .int (zI 0)), (1, .int (zI (u.1 16))), (0, .ref (ad 0))]) hx hb dX11_voided_16 rfl hl (by decide) rfl (fun ls hl => ?_)
    have loop17 : ∀ (n : Nat) (i : Int) (H : Heap) (locs : List Loc) (ls : Array Slot), (u.1 17 - i).toNat < n → (0 ≤ i ∧ i ≤ 40) → (mVoidL (u.2.1 24) (u.2.1 23) (u.1 17) (u.1 16) 41 0 = mVoidL (u.2.1 24) (u.2.1 23) (u.1 17) (u.1 16) n i) → gH D cy ad jf A u H → va_S A s.heap H locs → lv_has ls 3 [(2, .int (zI i)), (1, .int (zI (u.1 16))), (0, .ref (ad 0))] → W p l e (headSpec wsX11_voided ({ frames := 0, cells := 0, slots := 0, locals := 0 })).room s m ([.ref (ad 0)]).toArray below meth c H locs 0 0 (MQ below (va_Qi (fun (r : Int32) (v : gS) => r = zI (cVoided u) ∧ v = u) (gB D cy ad jf A) A) ([.ref (ad 0)]).toArray s 0 0 A) (F0 m 17 ls []) := by
      intro n
      induction n with
      | zero => intro i  H locs ls hm; exact absurd hm (Nat.not_lt_zero _)
      | succ n ih17 =>
        intro i  H locs ls hm hi hT hG hS hl
        refine lv_iload_n hx hb dX11_voided_17 rfl (lv_at hl 0 rfl) ?_
        refine lv_aload_n hx hb dX11_voided_18 rfl (lv_at hl 2 rfl) ?_
        refine g_get (C := RX11) (T := TX11) (N := 14) (ci := 10) hx hb hts (fun _ h => (List.mem_cons_of_mem _ (List.mem_append_left _ (List.mem_append_right _ h)))) hown hC.1 hG 0 (by decide) rfl rfl 11 (by decide) (hts (.fieldLink RX11 63 "StraitSwim" "turns" "LStraitSwim$Tally;") (List.mem_cons_of_mem _ (List.mem_append_left _ (List.mem_append_left _ (List.mem_of_getElem? (i := 2) rfl))))) (fun _ h9 => h9) rfl dX11_voided_19 ?_
        refine g_get (C := RX10) (T := TX10) (N := 2) (ci := 9) hx hb hts (fun _ h => (List.mem_cons_of_mem _ (List.mem_append_right _ h))) hown hC.1 hG 6 (by decide) rfl rfl 1 (by decide) (hts (.fieldLink RX11 173 "StraitSwim$Tally" "size" "I") (List.mem_cons_of_mem _ (List.mem_append_left _ (List.mem_append_left _ (List.mem_of_getElem? (i := 1) rfl))))) (fun _ h9 => h9) rfl dX11_voided_22 ?_
        refine z_icmp_ge (tgt := 59) hx hb dX11_voided_25 (by decide) (by omega) (by omega) (by omega) (by omega) (fun c_2 => ?_) (fun c_2 => ?_)
        · refine z_bipush hx hb dX11_voided_59 (by decide) ?_
          exact W.iret (v := zI ((-4))) hx hb hr (fun t9 ht9_ hW => ⟨⟨zI ((-4)), u, rfl, (by refine ⟨?_, rfl⟩; unfold cVoided; (repeat (first | rw [if_pos (by omega)] | rw [if_neg (by omega)])); all_goals (rw [hT, mVoidL]; (repeat (first | rw [if_pos (by omega)] | rw [if_neg (by omega)])); all_goals rfl)), gB.mk' hG hC hS ht9_ hW⟩, hS.F ht9_⟩) hS.2.2 dX11_voided_61
        · refine lv_aload_n hx hb dX11_voided_28 rfl (lv_at hl 2 rfl) ?_
          refine g_get (C := RX11) (T := TX11) (N := 14) (ci := 10) hx hb hts (fun _ h => (List.mem_cons_of_mem _ (List.mem_append_left _ (List.mem_append_right _ h)))) hown hC.1 hG 0 (by decide) rfl rfl 11 (by decide) (hts (.fieldLink RX11 63 "StraitSwim" "turns" "LStraitSwim$Tally;") (List.mem_cons_of_mem _ (List.mem_append_left _ (List.mem_append_left _ (List.mem_of_getElem? (i := 2) rfl))))) (fun _ h9 => h9) rfl dX11_voided_29 ?_
          refine g_get (C := RX10) (T := TX10) (N := 2) (ci := 9) hx hb hts (fun _ h => (List.mem_cons_of_mem _ (List.mem_append_right _ h))) hown hC.1 hG 6 (by decide) rfl rfl 0 (by decide) (hts (.fieldLink RX11 185 "StraitSwim$Tally" "items" "[I") (List.mem_cons_of_mem _ (List.mem_append_left _ (List.mem_append_left _ (List.mem_of_getElem? (i := 3) rfl))))) (fun _ h9 => h9) rfl dX11_voided_32 ?_
          refine lv_iload_n hx hb dX11_voided_35 rfl (lv_at hl 0 rfl) ?_
          refine g_iald (n := 40) hx hb hC.1 hG 24 (by decide) rfl (by omega) (by omega) (by decide) dX11_voided_36 ?_
          have q_3 := i24 i.toNat (by omega)
          refine lv_aload_n hx hb dX11_voided_37 rfl (lv_at hl 2 rfl) ?_
          refine g_get (C := RX11) (T := TX11) (N := 14) (ci := 10) hx hb hts (fun _ h => (List.mem_cons_of_mem _ (List.mem_append_left _ (List.mem_append_right _ h)))) hown hC.1 hG 0 (by decide) rfl rfl 10 (by decide) (hts (.fieldLink RX11 60 "StraitSwim" "relay" "LStraitSwim$Tally;") (List.mem_cons_of_mem _ (List.mem_append_left _ (List.mem_append_left _ (List.mem_of_getElem? (i := 0) rfl))))) (fun _ h9 => h9) rfl dX11_voided_38 ?_
          refine g_get (C := RX10) (T := TX10) (N := 2) (ci := 9) hx hb hts (fun _ h => (List.mem_cons_of_mem _ (List.mem_append_right _ h))) hown hC.1 hG 5 (by decide) rfl rfl 0 (by decide) (hts (.fieldLink RX11 185 "StraitSwim$Tally" "items" "[I") (List.mem_cons_of_mem _ (List.mem_append_left _ (List.mem_append_left _ (List.mem_of_getElem? (i := 3) rfl))))) (fun _ h9 => h9) rfl dX11_voided_41 ?_
          refine lv_iload_n hx hb dX11_voided_44 rfl (lv_at hl 0 rfl) ?_
          refine lv_iload_n hx hb dX11_voided_45 rfl (lv_at hl 1 rfl) ?_
          have q_4 : 0 ≤ i % (u.1 16) ∧ i % (u.1 16) < (u.1 16) := ⟨Int.emod_nonneg _ (by omega), Int.emod_lt_of_pos _ (by omega)⟩
          refine z_irem hx hb dX11_voided_46 (by omega) (by omega) (by omega) (by omega) ?_
          refine g_iald (n := 6) hx hb hC.1 hG 23 (by decide) rfl (by omega) (by omega) (by decide) dX11_voided_47 ?_
          have q_5 := i23 (i % (u.1 16)).toNat (by omega)
          refine z_icmp_eq (tgt := 53) hx hb dX11_voided_48 (by decide) (by omega) (by omega) (by omega) (by omega) (fun c_6 => ?_) (fun c_6 => ?_)
          · refine z_iinc (lv' := [(2, .int (zI (i + 1))), (1, .int (zI (u.1 16))), (0, .ref (ad 0))]) hx hb dX11_voided_53 hl (k := 0) rfl (by decide) rfl (fun ls hl => ?_)
            refine lv_goto (tgt := 17) hx hb dX11_voided_56 (by decide) ?_
            exact ih17 (i + 1) _ _ _ (by omega) (by omega) (by rw [hT, mVoidL]; (repeat (first | rw [if_pos (by omega)] | rw [if_neg (by omega)]))) hG hS (lv_sub hl [0, 1, 2] rfl)
          · refine lv_iload_n hx hb dX11_voided_51 rfl (lv_at hl 0 rfl) ?_
            exact W.iret (v := zI i) hx hb hr (fun t9 ht9_ hW => ⟨⟨zI i, u, rfl, (by refine ⟨?_, rfl⟩; unfold cVoided; (repeat (first | rw [if_pos (by omega)] | rw [if_neg (by omega)])); all_goals (rw [hT, mVoidL]; (repeat (first | rw [if_pos (by omega)] | rw [if_neg (by omega)])); all_goals rfl)), gB.mk' hG hC hS ht9_ hW⟩, hS.F ht9_⟩) hS.2.2 dX11_voided_52
    exact loop17 41 0 _ _ _ (by omega) (by omega) (by rfl) hG hS (lv_sub hl [0, 1, 2] rfl)
  · refine z_bipush hx hb dX11_voided_12 (by decide) ?_
    exact W.iret (v := zI ((-3))) hx hb hr (fun t9 ht9_ hW => ⟨⟨zI ((-3)), u, rfl, (by refine ⟨?_, rfl⟩; unfold cVoided; (repeat (first | rw [if_pos (by omega)] | rw [if_neg (by omega)])); all_goals rfl), gB.mk' hG hC hS ht9_ hW⟩, hS.F ht9_⟩) hS.2.2 dX11_voided_14
set_option maxHeartbeats 4000000 in
set_option maxRecDepth 100000 in
theorem kX11_calm (l : Launch) (D : va_G) (cy : Nat → ClassId) (ad : Nat → Nat) (jf : Nat → Int64) (A : Nat → Prop) (u : gS) (p1 p2 : Int) (j_p1 : -2147483648 ≤ p1 ∧ p1 < 2147483648) (j_b : p2 = 0 ∨ p2 = 1) (i18 : 0 ≤ u.1 18 ∧ u.1 18 ≤ 65535) : Met l yX11_calm wsX11_calm ({ frames := 1, cells := 0, slots := 0, locals := 22 }) (va_Pc [.ref (ad 0), .int (zI p1), .int (zI p2)] (gB D cy ad jf A u)) (va_Qi (fun (r : Int32) (v : gS) => r = zI (cCalm u p1 p2).1 ∧ v = (cCalm u p1 p2).2) (gB D cy ad jf A) A) 0 0 A := by
  refine Met.ofW (cc := cX11_calm) (maxL := 4) (ret := (some .int)) (by decide) rfl ?_
  intro p e s m args below meth c s₁ B hml hv
  obtain ⟨rfl, hG, hC⟩ := hv
  have hx := B.exec
  have hb := B.bytes
  have hr := B.returns
  have hts := atoms_spec (ws := wsX11_calm) B.pre
  have hown : s.vm.findClass RX11 = some m.cls := findClass_of_methodNamed B.named
  have hlocks := B.notSynchronized
  have hS : va_S A s.heap s.heap [] := va_S.rf
  have hl := lv_entry ([.ref (ad 0), .int (zI p1), .int (zI p2)]) (n := 4) (Nat.le_of_ble_eq_true rfl)
  rw [lg_entry_eq]
  generalize (lg_sl ([.ref (ad 0), .int (zI p1), .int (zI p2)]) ++ List.replicate (4 - (lg_sl ([.ref (ad 0), .int (zI p1), .int (zI p2)])).length) Slot.unset).toArray = ls at hl ⊢
  have hl : lv_has ls 4 [(0, .ref (ad 0)), (1, .int (zI p1)), (2, .int (zI p2))] := hl
  refine lv_iload_n hx hb dX11_calm_0 rfl (lv_at hl 1 rfl) ?_
  refine z_iconst hx hb dX11_calm_1 ?_
  refine z_bipush hx hb dX11_calm_2 (by decide) ?_
  refine g_calli (va_runS (As := [.int (zI p1), .int (zI 0), .int (zI 15)]) (rest := []) ⟨hx, hb, hml, hown, hts⟩ (kX11_isWithin l D cy ad jf A u p1 0 15 (by omega) (by omega) (by omega)) (va_cwS 3 hts gX11_calm_X11_isWithin rfl rfl rfl (by decide +kernel) ⟨by decide, by decide⟩) (g_preS hG hC hS) rfl rfl hl.1 rfl (lv_room (Nat.le_of_ble_eq_true rfl)) dX11_calm_4 ⟨Nat.le_of_ble_eq_true rfl, Nat.le_of_ble_eq_true rfl⟩) hS (fun r1 u2 H locs p_3 hG hS => ?_)
  obtain ⟨⟨b4, rfl, q_5⟩, he_⟩ := p_3
  rw [he_] at hG; clear he_
  have hbb4 : 0 ≤ b4 ∧ b4 ≤ 1 := by rcases q_5 with ⟨h, _⟩ | ⟨h, _⟩ <;> omega
  refine z_if_ne (tgt := 12) hx hb dX11_calm_7 (by decide) (by omega) (by omega) (fun c_6 => ?_) (fun c_6 => ?_)
  · refine lv_aload_n hx hb dX11_calm_12 rfl (lv_at hl 0 rfl) ?_
    refine g_get (C := RX11) (T := TX11) (N := 14) (ci := 10) hx hb hts (fun _ h => (List.mem_cons_of_mem _ (List.mem_append_left _ (List.mem_append_right _ h)))) hown hC.1 hG 0 (by decide) rfl rfl 12 (by decide) (hts (.fieldLink RX11 69 "StraitSwim" "neap" "LStraitSwim$Neap;") (List.mem_cons_of_mem _ (List.mem_append_left _ (List.mem_append_left _ (List.mem_of_getElem? (i := 0) rfl))))) (fun _ h9 => h9) rfl dX11_calm_13 ?_
    refine g_get (C := RX2) (T := TX2) (N := 7) (ci := 1) hx hb hts (fun _ h => (List.mem_cons_of_mem _ (List.mem_append_right _ h))) hown hC.1 hG 7 (by decide) rfl rfl 0 (by decide) (hts (.fieldLink RX11 188 "StraitSwim$Neap" "calmDays" "I") (List.mem_cons_of_mem _ (List.mem_append_left _ (List.mem_append_left _ (List.mem_of_getElem? (i := 1) rfl))))) (fun _ h9 => h9) rfl dX11_calm_16 ?_
    refine lv_istore_n (lv' := [(3, .int (zI (u.1 18))), (0, .ref (ad 0)), (1, .int (zI p1)), (2, .int (zI p2))]) hx hb dX11_calm_19 rfl hl (by decide) rfl (fun ls hl => ?_)
    refine lv_aload_n hx hb dX11_calm_20 rfl (lv_at hl 1 rfl) ?_
    refine g_get (C := RX11) (T := TX11) (N := 14) (ci := 10) hx hb hts (fun _ h => (List.mem_cons_of_mem _ (List.mem_append_left _ (List.mem_append_right _ h)))) hown hC.1 hG 0 (by decide) rfl rfl 12 (by decide) (hts (.fieldLink RX11 69 "StraitSwim" "neap" "LStraitSwim$Neap;") (List.mem_cons_of_mem _ (List.mem_append_left _ (List.mem_append_left _ (List.mem_of_getElem? (i := 0) rfl))))) (fun _ h9 => h9) rfl dX11_calm_21 ?_
    refine lv_iload_n hx hb dX11_calm_24 rfl (lv_at hl 3 rfl) ?_
    refine z_if_eq (tgt := 36) hx hb dX11_calm_25 (by decide) (by omega) (by omega) (fun c_7 => ?_) (fun c_7 => ?_)
    · refine lv_iload_n hx hb dX11_calm_36 rfl (lv_at hl 0 rfl) ?_
      refine z_iconst hx hb dX11_calm_37 ?_
      refine lv_iload_n hx hb dX11_calm_38 rfl (lv_at hl 2 rfl) ?_
      have q_8 := bShl_bnd 1 p1
      refine z_ishl hx hb dX11_calm_39 ?_
      refine z_iconst hx hb dX11_calm_40 ?_
      have q_9 := bXor_bnd (bShl 1 p1) ((-1))
      refine z_ixor hx hb dX11_calm_41 ?_
      have q_10 := bAnd_bnd (u.1 18) (bXor (bShl 1 p1) ((-1)))
      refine z_iand hx hb dX11_calm_42 ?_
      refine g_put (C := RX2) (T := TX2) (N := 7) (ci := 1) (ty := .int) hx hb hts (fun _ h => (List.mem_cons_of_mem _ (List.mem_append_right _ h))) tyX2 tyX2_ok nmX2 hown hC.1 hG hS 7 (by decide) rfl rfl 0 18 (by decide) (hts (.fieldLink RX11 188 "StraitSwim$Neap" "calmDays" "I") (List.mem_cons_of_mem _ (List.mem_append_left _ (List.mem_append_left _ (List.mem_of_getElem? (i := 1) rfl))))) (fun _ h9 => h9) rfl (by decide +kernel) rfl rfl (Nat.le_of_ble_eq_true rfl) rfl (gO_18 ad _ _) dX11_calm_43 (fun u11 H locs hu11 hG hS => ?_)
      refine lv_aload_n hx hb dX11_calm_46 rfl (lv_at hl 1 rfl) ?_
      refine g_get (C := RX11) (T := TX11) (N := 14) (ci := 10) hx hb hts (fun _ h => (List.mem_cons_of_mem _ (List.mem_append_left _ (List.mem_append_right _ h)))) hown hC.1 hG 0 (by decide) rfl rfl 12 (by decide) (hts (.fieldLink RX11 69 "StraitSwim" "neap" "LStraitSwim$Neap;") (List.mem_cons_of_mem _ (List.mem_append_left _ (List.mem_append_left _ (List.mem_of_getElem? (i := 0) rfl))))) (fun _ h9 => h9) rfl dX11_calm_47 ?_
      refine g_get (C := RX2) (T := TX2) (N := 7) (ci := 1) hx hb hts (fun _ h => (List.mem_cons_of_mem _ (List.mem_append_right _ h))) hown hC.1 hG 7 (by decide) rfl rfl 0 (by decide) (hts (.fieldLink RX11 188 "StraitSwim$Neap" "calmDays" "I") (List.mem_cons_of_mem _ (List.mem_append_left _ (List.mem_append_left _ (List.mem_of_getElem? (i := 1) rfl))))) (fun _ h9 => h9) rfl dX11_calm_50 ?_
      have e_12 : u11.1 18 = bAnd (u.1 18) (bXor (bShl 1 p1) ((-1))) := by subst hu11; rfl
      rw [e_12]
      refine lv_iload_n hx hb dX11_calm_53 rfl (lv_at hl 0 rfl) ?_
      refine z_icmp_eq (tgt := 61) hx hb dX11_calm_54 (by decide) (by omega) (by omega) (by omega) (by omega) (fun c_13 => ?_) (fun c_13 => ?_)
      · refine z_iconst hx hb dX11_calm_61 ?_
        exact W.iret (v := zI 0) hx hb hr (fun t9 ht9_ hW => ⟨⟨zI 0, u11, rfl, (by unfold cCalm cCalmV; (repeat (first | rw [if_pos (by omega)] | rw [if_neg (by omega)])); subst hu11; all_goals exact ⟨rfl, rfl⟩), gB.mk' hG hC hS ht9_ hW⟩, hS.F ht9_⟩) hS.2.2 dX11_calm_62
      · refine z_iconst hx hb dX11_calm_57 ?_
        refine lv_goto (tgt := 62) hx hb dX11_calm_58 (by decide) ?_
        exact W.iret (v := zI 1) hx hb hr (fun t9 ht9_ hW => ⟨⟨zI 1, u11, rfl, (by unfold cCalm cCalmV; (repeat (first | rw [if_pos (by omega)] | rw [if_neg (by omega)])); subst hu11; all_goals exact ⟨rfl, rfl⟩), gB.mk' hG hC hS ht9_ hW⟩, hS.F ht9_⟩) hS.2.2 dX11_calm_62
    · refine lv_iload_n hx hb dX11_calm_28 rfl (lv_at hl 0 rfl) ?_
      refine z_iconst hx hb dX11_calm_29 ?_
      refine lv_iload_n hx hb dX11_calm_30 rfl (lv_at hl 2 rfl) ?_
      have q_14 := bShl_bnd 1 p1
      refine z_ishl hx hb dX11_calm_31 ?_
      have q_15 := bOr_bnd (u.1 18) (bShl 1 p1)
      refine z_ior hx hb dX11_calm_32 ?_
      refine lv_goto (tgt := 43) hx hb dX11_calm_33 (by decide) ?_
      refine g_put (C := RX2) (T := TX2) (N := 7) (ci := 1) (ty := .int) hx hb hts (fun _ h => (List.mem_cons_of_mem _ (List.mem_append_right _ h))) tyX2 tyX2_ok nmX2 hown hC.1 hG hS 7 (by decide) rfl rfl 0 18 (by decide) (hts (.fieldLink RX11 188 "StraitSwim$Neap" "calmDays" "I") (List.mem_cons_of_mem _ (List.mem_append_left _ (List.mem_append_left _ (List.mem_of_getElem? (i := 1) rfl))))) (fun _ h9 => h9) rfl (by decide +kernel) rfl rfl (Nat.le_of_ble_eq_true rfl) rfl (gO_18 ad _ _) dX11_calm_43 (fun u16 H locs hu16 hG hS => ?_)
      refine lv_aload_n hx hb dX11_calm_46 rfl (lv_at hl 1 rfl) ?_
      refine g_get (C := RX11) (T := TX11) (N := 14) (ci := 10) hx hb hts (fun _ h => (List.mem_cons_of_mem _ (List.mem_append_left _ (List.mem_append_right _ h)))) hown hC.1 hG 0 (by decide) rfl rfl 12 (by decide) (hts (.fieldLink RX11 69 "StraitSwim" "neap" "LStraitSwim$Neap;") (List.mem_cons_of_mem _ (List.mem_append_left _ (List.mem_append_left _ (List.mem_of_getElem? (i := 0) rfl))))) (fun _ h9 => h9) rfl dX11_calm_47 ?_
      refine g_get (C := RX2) (T := TX2) (N := 7) (ci := 1) hx hb hts (fun _ h => (List.mem_cons_of_mem _ (List.mem_append_right _ h))) hown hC.1 hG 7 (by decide) rfl rfl 0 (by decide) (hts (.fieldLink RX11 188 "StraitSwim$Neap" "calmDays" "I") (List.mem_cons_of_mem _ (List.mem_append_left _ (List.mem_append_left _ (List.mem_of_getElem? (i := 1) rfl))))) (fun _ h9 => h9) rfl dX11_calm_50 ?_
      have e_17 : u16.1 18 = bOr (u.1 18) (bShl 1 p1) := by subst hu16; rfl
      rw [e_17]
      refine lv_iload_n hx hb dX11_calm_53 rfl (lv_at hl 0 rfl) ?_
      refine z_icmp_eq (tgt := 61) hx hb dX11_calm_54 (by decide) (by omega) (by omega) (by omega) (by omega) (fun c_18 => ?_) (fun c_18 => ?_)
      · refine z_iconst hx hb dX11_calm_61 ?_
        exact W.iret (v := zI 0) hx hb hr (fun t9 ht9_ hW => ⟨⟨zI 0, u16, rfl, (by unfold cCalm cCalmV; (repeat (first | rw [if_pos (by omega)] | rw [if_neg (by omega)])); subst hu16; all_goals exact ⟨rfl, rfl⟩), gB.mk' hG hC hS ht9_ hW⟩, hS.F ht9_⟩) hS.2.2 dX11_calm_62
      · refine z_iconst hx hb dX11_calm_57 ?_
        refine lv_goto (tgt := 62) hx hb dX11_calm_58 (by decide) ?_
        exact W.iret (v := zI 1) hx hb hr (fun t9 ht9_ hW => ⟨⟨zI 1, u16, rfl, (by unfold cCalm cCalmV; (repeat (first | rw [if_pos (by omega)] | rw [if_neg (by omega)])); subst hu16; all_goals exact ⟨rfl, rfl⟩), gB.mk' hG hC hS ht9_ hW⟩, hS.F ht9_⟩) hS.2.2 dX11_calm_62
  · refine z_iconst hx hb dX11_calm_10 ?_
    exact W.iret (v := zI ((-1))) hx hb hr (fun t9 ht9_ hW => ⟨⟨zI ((-1)), u, rfl, (by unfold cCalm cCalmV; (repeat (first | rw [if_pos (by omega)] | rw [if_neg (by omega)])); skip; all_goals exact ⟨rfl, rfl⟩), gB.mk' hG hC hS ht9_ hW⟩, hS.F ht9_⟩) hS.2.2 dX11_calm_11
set_option maxHeartbeats 4000000 in
set_option maxRecDepth 100000 in
theorem kX9_hasBeen_2 (l : Launch) (D : va_G) (cy : Nat → ClassId) (ad : Nat → Nat) (jf : Nat → Int64) (A : Nat → Prop) (u : gS) (hq : 0 ≤ u.1 6 ∧ u.1 6 ≤ 100) : Met l yX9_hasBeen wsX9_hasBeen ({ frames := 0, cells := 0, slots := 0, locals := 0 }) (va_Pc [.ref (ad 2)] (gB D cy ad jf A u)) (va_Qi (fun (r : Int32) (v : gS) => (∃ b : Int, r = zI b ∧ (b = 1 ∧ 0 < u.1 6 ∨ b = 0 ∧ ¬ (0 < u.1 6))) ∧ v = u) (gB D cy ad jf A) A) 0 0 A := by
  refine Met.ofW (cc := cX9_hasBeen) (maxL := 1) (ret := (some .boolean)) (by decide) rfl ?_
  intro p e s m args below meth c s₁ B hml hv
  obtain ⟨rfl, hG, hC⟩ := hv
  have hx := B.exec
  have hb := B.bytes
  have hr := B.returns
  have hts := atoms_spec (ws := wsX9_hasBeen) B.pre
  have hown : s.vm.findClass RX9 = some m.cls := findClass_of_methodNamed B.named
  have hlocks := B.notSynchronized
  have hS : va_S A s.heap s.heap [] := va_S.rf
  have hl := lv_entry ([.ref (ad 2)]) (n := 1) (Nat.le_of_ble_eq_true rfl)
  rw [lg_entry_eq]
  generalize (lg_sl ([.ref (ad 2)]) ++ List.replicate (1 - (lg_sl ([.ref (ad 2)])).length) Slot.unset).toArray = ls at hl ⊢
  have hl : lv_has ls 1 [(0, .ref (ad 2))] := hl
  refine lv_aload_n hx hb dX9_hasBeen_0 rfl (lv_at hl 0 rfl) ?_
  refine g_get (C := RX9) (T := TX9) (N := 9) (ci := 8) hx hb hts (fun _ h => (List.mem_cons_of_mem _ (List.mem_append_right _ h))) hown hC.1 hG 2 (by decide) rfl rfl 1 (by decide) (hts (.fieldLink RX9 15 "StraitSwim$Swim" "quarters" "I") (List.mem_cons_of_mem _ (List.mem_append_left _ (List.mem_of_getElem? (i := 0) rfl)))) (fun _ h9 => h9) rfl dX9_hasBeen_1 ?_
  refine z_if_le (tgt := 11) hx hb dX9_hasBeen_4 (by decide) (by omega) (by omega) (fun c_1 => ?_) (fun c_1 => ?_)
  · refine z_iconst hx hb dX9_hasBeen_11 ?_
    exact W.zret (ty := .boolean) (v := zI 0) hx hb hr (nar_b (by omega)) (fun t9 ht9_ hW => ⟨⟨zI 0, u, rfl, (by exact ⟨⟨0, rfl, by omega⟩, rfl⟩), gB.mk' hG hC hS ht9_ hW⟩, hS.F ht9_⟩) hS.2.2 dX9_hasBeen_12
  · refine z_iconst hx hb dX9_hasBeen_7 ?_
    refine lv_goto (tgt := 12) hx hb dX9_hasBeen_8 (by decide) ?_
    exact W.zret (ty := .boolean) (v := zI 1) hx hb hr (nar_b (by omega)) (fun t9 ht9_ hW => ⟨⟨zI 1, u, rfl, (by exact ⟨⟨1, rfl, by omega⟩, rfl⟩), gB.mk' hG hC hS ht9_ hW⟩, hS.F ht9_⟩) hS.2.2 dX9_hasBeen_12
set_option maxHeartbeats 4000000 in
set_option maxRecDepth 100000 in
theorem kX11_ended (l : Launch) (D : va_G) (cy : Nat → ClassId) (ad : Nat → Nat) (jf : Nat → Int64) (A : Nat → Prop) (u : gS) (p1 : Int) (j_p1 : -2147483648 ≤ p1 ∧ p1 < 2147483648) (hq : 0 ≤ u.1 6 ∧ u.1 6 ≤ 100) (i13 : ∀ j, j < 101 → -1000 ≤ u.2.1 13 j ∧ u.2.1 13 j ≤ 1000) (i14 : ∀ j, j < 101 → -1000 ≤ u.2.1 14 j ∧ u.2.1 14 j ≤ 1000) : Met l yX11_ended wsX11_ended ({ frames := 1, cells := 0, slots := 0, locals := 22 }) (va_Pc [.ref (ad 0), .int (zI p1)] (gB D cy ad jf A u)) (va_Qi (fun (r : Int32) (v : gS) => r = zI (cEnded u p1) ∧ v = u) (gB D cy ad jf A) A) 0 0 A := by
  refine Met.ofW (cc := cX11_ended) (maxL := 2) (ret := (some .int)) (by decide) rfl ?_
  intro p e s m args below meth c s₁ B hml hv
  obtain ⟨rfl, hG, hC⟩ := hv
  have hx := B.exec
  have hb := B.bytes
  have hr := B.returns
  have hts := atoms_spec (ws := wsX11_ended) B.pre
  have hown : s.vm.findClass RX11 = some m.cls := findClass_of_methodNamed B.named
  have hlocks := B.notSynchronized
  have hS : va_S A s.heap s.heap [] := va_S.rf
  have hl := lv_entry ([.ref (ad 0), .int (zI p1)]) (n := 2) (Nat.le_of_ble_eq_true rfl)
  rw [lg_entry_eq]
  generalize (lg_sl ([.ref (ad 0), .int (zI p1)]) ++ List.replicate (2 - (lg_sl ([.ref (ad 0), .int (zI p1)])).length) Slot.unset).toArray = ls at hl ⊢
  have hl : lv_has ls 2 [(0, .ref (ad 0)), (1, .int (zI p1))] := hl
  refine lv_iload_n hx hb dX11_ended_0 rfl (lv_at hl 1 rfl) ?_
  refine z_iconst hx hb dX11_ended_1 ?_
  refine z_iconst hx hb dX11_ended_2 ?_
  refine g_calli (va_runS (As := [.int (zI p1), .int (zI 0), .int (zI 4)]) (rest := []) ⟨hx, hb, hml, hown, hts⟩ (kX11_isWithin l D cy ad jf A u p1 0 4 (by omega) (by omega) (by omega)) (va_cwS 3 hts gX11_ended_X11_isWithin rfl rfl rfl (by decide +kernel) ⟨by decide, by decide⟩) (g_preS hG hC hS) rfl rfl hl.1 rfl (lv_room (Nat.le_of_ble_eq_true rfl)) dX11_ended_3 ⟨Nat.le_of_ble_eq_true rfl, Nat.le_of_ble_eq_true rfl⟩) hS (fun r1 u2 H locs p_3 hG hS => ?_)
  obtain ⟨⟨b4, rfl, q_5⟩, he_⟩ := p_3
  rw [he_] at hG; clear he_
  have hbb4 : 0 ≤ b4 ∧ b4 ≤ 1 := by rcases q_5 with ⟨h, _⟩ | ⟨h, _⟩ <;> omega
  refine z_if_ne (tgt := 11) hx hb dX11_ended_6 (by decide) (by omega) (by omega) (fun c_6 => ?_) (fun c_6 => ?_)
  · refine lv_aload_n hx hb dX11_ended_11 rfl (lv_at hl 0 rfl) ?_
    refine g_get (C := RX11) (T := TX11) (N := 14) (ci := 10) hx hb hts (fun _ h => (List.mem_cons_of_mem _ (List.mem_append_left _ (List.mem_append_right _ h)))) hown hC.1 hG 0 (by decide) rfl rfl 5 (by decide) (hts (.fieldLink RX11 35 "StraitSwim" "latest" "LStraitSwim$Swim;") (List.mem_cons_of_mem _ (List.mem_append_left _ (List.mem_append_left _ (List.mem_of_getElem? (i := 0) rfl))))) (fun _ h9 => h9) rfl dX11_ended_12 ?_
    refine g_calli (va_runV (As := []) (rest := []) ⟨hx, hb, hml, hown, hts⟩ (kX9_hasBeen_2 l D cy ad jf A u  (by omega)) (cwV 0 hts gX11_ended_X9_hasBeen rfl rfl rfl (by decide +kernel) ⟨by decide, by decide⟩) (g_preV (C := RX9) hG hC hS 2 (by decide) rfl rfl) rfl rfl hl.1 rfl (lv_room (Nat.le_of_ble_eq_true rfl)) dX11_ended_15 ⟨Nat.le_of_ble_eq_true rfl, Nat.le_of_ble_eq_true rfl⟩) hS (fun r7 u8 H locs p_9 hG hS => ?_)
    obtain ⟨⟨b10, rfl, q_11⟩, he_⟩ := p_9
    rw [he_] at hG; clear he_
    have hbb10 : 0 ≤ b10 ∧ b10 ≤ 1 := by rcases q_11 with ⟨h, _⟩ | ⟨h, _⟩ <;> omega
    refine z_if_ne (tgt := 24) hx hb dX11_ended_18 (by decide) (by omega) (by omega) (fun c_12 => ?_) (fun c_12 => ?_)
    · refine lv_iload_n hx hb dX11_ended_24 rfl (lv_at hl 1 rfl) ?_
      rcases (show (p1 < 0 ∨ 3 < p1) ∨ p1 = 0 ∨ p1 = 1 ∨ p1 = 2 ∨ p1 = 3 by omega) with c_13 | c_13 | c_13 | c_13 | c_13
      · refine lv_tableOut (tgt := 104) hx hb dX11_ended_25 (by rw [zI_toInt (by omega) (by omega)]; omega) (by decide) ?_
        refine lv_aload_n hx hb dX11_ended_104 rfl (lv_at hl 0 rfl) ?_
        refine g_get (C := RX11) (T := TX11) (N := 14) (ci := 10) hx hb hts (fun _ h => (List.mem_cons_of_mem _ (List.mem_append_left _ (List.mem_append_right _ h)))) hown hC.1 hG 0 (by decide) rfl rfl 5 (by decide) (hts (.fieldLink RX11 35 "StraitSwim" "latest" "LStraitSwim$Swim;") (List.mem_cons_of_mem _ (List.mem_append_left _ (List.mem_append_left _ (List.mem_of_getElem? (i := 0) rfl))))) (fun _ h9 => h9) rfl dX11_ended_105 ?_
        refine g_get (C := RX9) (T := TX9) (N := 9) (ci := 8) hx hb hts (fun _ h => (List.mem_cons_of_mem _ (List.mem_append_right _ h))) hown hC.1 hG 2 (by decide) rfl rfl 0 (by decide) (hts (.fieldLink RX11 157 "StraitSwim$Swim" "number" "I") (List.mem_cons_of_mem _ (List.mem_append_left _ (List.mem_append_left _ (List.mem_of_getElem? (i := 5) rfl))))) (fun _ h9 => h9) rfl dX11_ended_108 ?_
        exact W.iret (v := zI (u.1 5)) hx hb hr (fun t9 ht9_ hW => ⟨⟨zI (u.1 5), u, rfl, (by refine ⟨?_, rfl⟩; unfold cEnded; (repeat (first | rw [if_pos (by omega)] | rw [if_neg (by omega)])); all_goals (first | rfl | (congr 1; omega) | (subst_vars; rfl))), gB.mk' hG hC hS ht9_ hW⟩, hS.F ht9_⟩) hS.2.2 dX11_ended_111
      · refine lv_tableIn (off := 31) (tgt := 56) hx hb dX11_ended_25 (by rw [c_13]; decide) (by rw [c_13]; decide) (by rw [c_13]; decide) (by decide) ?_
        refine lv_aload_n hx hb dX11_ended_56 rfl (lv_at hl 0 rfl) ?_
        refine g_get (C := RX11) (T := TX11) (N := 14) (ci := 10) hx hb hts (fun _ h => (List.mem_cons_of_mem _ (List.mem_append_left _ (List.mem_append_right _ h)))) hown hC.1 hG 0 (by decide) rfl rfl 5 (by decide) (hts (.fieldLink RX11 35 "StraitSwim" "latest" "LStraitSwim$Swim;") (List.mem_cons_of_mem _ (List.mem_append_left _ (List.mem_append_left _ (List.mem_of_getElem? (i := 0) rfl))))) (fun _ h9 => h9) rfl dX11_ended_57 ?_
        refine g_get (C := RX9) (T := TX9) (N := 9) (ci := 8) hx hb hts (fun _ h => (List.mem_cons_of_mem _ (List.mem_append_right _ h))) hown hC.1 hG 2 (by decide) rfl rfl 3 (by decide) (hts (.fieldLink RX11 145 "StraitSwim$Swim" "xs" "[I") (List.mem_cons_of_mem _ (List.mem_append_left _ (List.mem_append_left _ (List.mem_of_getElem? (i := 1) rfl))))) (fun _ h9 => h9) rfl dX11_ended_60 ?_
        refine lv_aload_n hx hb dX11_ended_63 rfl (lv_at hl 0 rfl) ?_
        refine g_get (C := RX11) (T := TX11) (N := 14) (ci := 10) hx hb hts (fun _ h => (List.mem_cons_of_mem _ (List.mem_append_left _ (List.mem_append_right _ h)))) hown hC.1 hG 0 (by decide) rfl rfl 5 (by decide) (hts (.fieldLink RX11 35 "StraitSwim" "latest" "LStraitSwim$Swim;") (List.mem_cons_of_mem _ (List.mem_append_left _ (List.mem_append_left _ (List.mem_of_getElem? (i := 0) rfl))))) (fun _ h9 => h9) rfl dX11_ended_64 ?_
        refine g_get (C := RX9) (T := TX9) (N := 9) (ci := 8) hx hb hts (fun _ h => (List.mem_cons_of_mem _ (List.mem_append_right _ h))) hown hC.1 hG 2 (by decide) rfl rfl 1 (by decide) (hts (.fieldLink RX11 148 "StraitSwim$Swim" "quarters" "I") (List.mem_cons_of_mem _ (List.mem_append_left _ (List.mem_append_left _ (List.mem_of_getElem? (i := 2) rfl))))) (fun _ h9 => h9) rfl dX11_ended_67 ?_
        refine g_iald (n := 101) hx hb hC.1 hG 13 (by decide) rfl (by omega) (by omega) (by decide) dX11_ended_70 ?_
        have q_14 := i13 (u.1 6).toNat (by omega)
        exact W.iret (v := zI (u.2.1 13 (u.1 6).toNat)) hx hb hr (fun t9 ht9_ hW => ⟨⟨zI (u.2.1 13 (u.1 6).toNat), u, rfl, (by refine ⟨?_, rfl⟩; unfold cEnded; (repeat (first | rw [if_pos (by omega)] | rw [if_neg (by omega)])); all_goals (first | rfl | (congr 1; omega) | (subst_vars; rfl))), gB.mk' hG hC hS ht9_ hW⟩, hS.F ht9_⟩) hS.2.2 dX11_ended_71
      · refine lv_tableIn (off := 47) (tgt := 72) hx hb dX11_ended_25 (by rw [c_13]; decide) (by rw [c_13]; decide) (by rw [c_13]; decide) (by decide) ?_
        refine lv_aload_n hx hb dX11_ended_72 rfl (lv_at hl 0 rfl) ?_
        refine g_get (C := RX11) (T := TX11) (N := 14) (ci := 10) hx hb hts (fun _ h => (List.mem_cons_of_mem _ (List.mem_append_left _ (List.mem_append_right _ h)))) hown hC.1 hG 0 (by decide) rfl rfl 5 (by decide) (hts (.fieldLink RX11 35 "StraitSwim" "latest" "LStraitSwim$Swim;") (List.mem_cons_of_mem _ (List.mem_append_left _ (List.mem_append_left _ (List.mem_of_getElem? (i := 0) rfl))))) (fun _ h9 => h9) rfl dX11_ended_73 ?_
        refine g_get (C := RX9) (T := TX9) (N := 9) (ci := 8) hx hb hts (fun _ h => (List.mem_cons_of_mem _ (List.mem_append_right _ h))) hown hC.1 hG 2 (by decide) rfl rfl 4 (by decide) (hts (.fieldLink RX11 151 "StraitSwim$Swim" "ys" "[I") (List.mem_cons_of_mem _ (List.mem_append_left _ (List.mem_append_left _ (List.mem_of_getElem? (i := 3) rfl))))) (fun _ h9 => h9) rfl dX11_ended_76 ?_
        refine lv_aload_n hx hb dX11_ended_79 rfl (lv_at hl 0 rfl) ?_
        refine g_get (C := RX11) (T := TX11) (N := 14) (ci := 10) hx hb hts (fun _ h => (List.mem_cons_of_mem _ (List.mem_append_left _ (List.mem_append_right _ h)))) hown hC.1 hG 0 (by decide) rfl rfl 5 (by decide) (hts (.fieldLink RX11 35 "StraitSwim" "latest" "LStraitSwim$Swim;") (List.mem_cons_of_mem _ (List.mem_append_left _ (List.mem_append_left _ (List.mem_of_getElem? (i := 0) rfl))))) (fun _ h9 => h9) rfl dX11_ended_80 ?_
        refine g_get (C := RX9) (T := TX9) (N := 9) (ci := 8) hx hb hts (fun _ h => (List.mem_cons_of_mem _ (List.mem_append_right _ h))) hown hC.1 hG 2 (by decide) rfl rfl 1 (by decide) (hts (.fieldLink RX11 148 "StraitSwim$Swim" "quarters" "I") (List.mem_cons_of_mem _ (List.mem_append_left _ (List.mem_append_left _ (List.mem_of_getElem? (i := 2) rfl))))) (fun _ h9 => h9) rfl dX11_ended_83 ?_
        refine g_iald (n := 101) hx hb hC.1 hG 14 (by decide) rfl (by omega) (by omega) (by decide) dX11_ended_86 ?_
        have q_15 := i14 (u.1 6).toNat (by omega)
        exact W.iret (v := zI (u.2.1 14 (u.1 6).toNat)) hx hb hr (fun t9 ht9_ hW => ⟨⟨zI (u.2.1 14 (u.1 6).toNat), u, rfl, (by refine ⟨?_, rfl⟩; unfold cEnded; (repeat (first | rw [if_pos (by omega)] | rw [if_neg (by omega)])); all_goals (first | rfl | (congr 1; omega) | (subst_vars; rfl))), gB.mk' hG hC hS ht9_ hW⟩, hS.F ht9_⟩) hS.2.2 dX11_ended_87
      · refine lv_tableIn (off := 63) (tgt := 88) hx hb dX11_ended_25 (by rw [c_13]; decide) (by rw [c_13]; decide) (by rw [c_13]; decide) (by decide) ?_
        refine lv_aload_n hx hb dX11_ended_88 rfl (lv_at hl 0 rfl) ?_
        refine g_get (C := RX11) (T := TX11) (N := 14) (ci := 10) hx hb hts (fun _ h => (List.mem_cons_of_mem _ (List.mem_append_left _ (List.mem_append_right _ h)))) hown hC.1 hG 0 (by decide) rfl rfl 5 (by decide) (hts (.fieldLink RX11 35 "StraitSwim" "latest" "LStraitSwim$Swim;") (List.mem_cons_of_mem _ (List.mem_append_left _ (List.mem_append_left _ (List.mem_of_getElem? (i := 0) rfl))))) (fun _ h9 => h9) rfl dX11_ended_89 ?_
        refine g_get (C := RX9) (T := TX9) (N := 9) (ci := 8) hx hb hts (fun _ h => (List.mem_cons_of_mem _ (List.mem_append_right _ h))) hown hC.1 hG 2 (by decide) rfl rfl 1 (by decide) (hts (.fieldLink RX11 148 "StraitSwim$Swim" "quarters" "I") (List.mem_cons_of_mem _ (List.mem_append_left _ (List.mem_append_left _ (List.mem_of_getElem? (i := 2) rfl))))) (fun _ h9 => h9) rfl dX11_ended_92 ?_
        exact W.iret (v := zI (u.1 6)) hx hb hr (fun t9 ht9_ hW => ⟨⟨zI (u.1 6), u, rfl, (by refine ⟨?_, rfl⟩; unfold cEnded; (repeat (first | rw [if_pos (by omega)] | rw [if_neg (by omega)])); all_goals (first | rfl | (congr 1; omega) | (subst_vars; rfl))), gB.mk' hG hC hS ht9_ hW⟩, hS.F ht9_⟩) hS.2.2 dX11_ended_95
      · refine lv_tableIn (off := 71) (tgt := 96) hx hb dX11_ended_25 (by rw [c_13]; decide) (by rw [c_13]; decide) (by rw [c_13]; decide) (by decide) ?_
        refine lv_aload_n hx hb dX11_ended_96 rfl (lv_at hl 0 rfl) ?_
        refine g_get (C := RX11) (T := TX11) (N := 14) (ci := 10) hx hb hts (fun _ h => (List.mem_cons_of_mem _ (List.mem_append_left _ (List.mem_append_right _ h)))) hown hC.1 hG 0 (by decide) rfl rfl 5 (by decide) (hts (.fieldLink RX11 35 "StraitSwim" "latest" "LStraitSwim$Swim;") (List.mem_cons_of_mem _ (List.mem_append_left _ (List.mem_append_left _ (List.mem_of_getElem? (i := 0) rfl))))) (fun _ h9 => h9) rfl dX11_ended_97 ?_
        refine g_get (C := RX9) (T := TX9) (N := 9) (ci := 8) hx hb hts (fun _ h => (List.mem_cons_of_mem _ (List.mem_append_right _ h))) hown hC.1 hG 2 (by decide) rfl rfl 2 (by decide) (hts (.fieldLink RX11 154 "StraitSwim$Swim" "cold" "I") (List.mem_cons_of_mem _ (List.mem_append_left _ (List.mem_append_left _ (List.mem_of_getElem? (i := 4) rfl))))) (fun _ h9 => h9) rfl dX11_ended_100 ?_
        exact W.iret (v := zI (u.1 7)) hx hb hr (fun t9 ht9_ hW => ⟨⟨zI (u.1 7), u, rfl, (by refine ⟨?_, rfl⟩; unfold cEnded; (repeat (first | rw [if_pos (by omega)] | rw [if_neg (by omega)])); all_goals (first | rfl | (congr 1; omega) | (subst_vars; rfl))), gB.mk' hG hC hS ht9_ hW⟩, hS.F ht9_⟩) hS.2.2 dX11_ended_103
    · refine z_bipush hx hb dX11_ended_21 (by decide) ?_
      exact W.iret (v := zI ((-3))) hx hb hr (fun t9 ht9_ hW => ⟨⟨zI ((-3)), u, rfl, (by refine ⟨?_, rfl⟩; unfold cEnded; (repeat (first | rw [if_pos (by omega)] | rw [if_neg (by omega)])); all_goals (first | rfl | (congr 1; omega) | (subst_vars; rfl))), gB.mk' hG hC hS ht9_ hW⟩, hS.F ht9_⟩) hS.2.2 dX11_ended_23
  · refine z_iconst hx hb dX11_ended_9 ?_
    exact W.iret (v := zI ((-1))) hx hb hr (fun t9 ht9_ hW => ⟨⟨zI ((-1)), u, rfl, (by refine ⟨?_, rfl⟩; unfold cEnded; (repeat (first | rw [if_pos (by omega)] | rw [if_neg (by omega)])); all_goals (first | rfl | (congr 1; omega) | (subst_vars; rfl))), gB.mk' hG hC hS ht9_ hW⟩, hS.F ht9_⟩) hS.2.2 dX11_ended_10
set_option maxHeartbeats 4000000 in
set_option maxRecDepth 100000 in
theorem kX11_where (l : Launch) (D : va_G) (cy : Nat → ClassId) (ad : Nat → Nat) (jf : Nat → Int64) (A : Nat → Prop) (u : gS) (p1 : Int) (j_p1 : -2147483648 ≤ p1 ∧ p1 < 2147483648) (hq : 0 ≤ u.1 6 ∧ u.1 6 ≤ 100) (i13 : ∀ j, j < 101 → -1000 ≤ u.2.1 13 j ∧ u.2.1 13 j ≤ 1000) (i14 : ∀ j, j < 101 → -1000 ≤ u.2.1 14 j ∧ u.2.1 14 j ≤ 1000) : Met l yX11_where wsX11_where ({ frames := 1, cells := 0, slots := 0, locals := 22 }) (va_Pc [.ref (ad 0), .int (zI p1)] (gB D cy ad jf A u)) (va_Qi (fun (r : Int32) (v : gS) => r = zI (cWhere u p1) ∧ v = u) (gB D cy ad jf A) A) 0 0 A := by
  refine Met.ofW (cc := cX11_where) (maxL := 2) (ret := (some .int)) (by decide) rfl ?_
  intro p e s m args below meth c s₁ B hml hv
  obtain ⟨rfl, hG, hC⟩ := hv
  have hx := B.exec
  have hb := B.bytes
  have hr := B.returns
  have hts := atoms_spec (ws := wsX11_where) B.pre
  have hown : s.vm.findClass RX11 = some m.cls := findClass_of_methodNamed B.named
  have hlocks := B.notSynchronized
  have hS : va_S A s.heap s.heap [] := va_S.rf
  have hl := lv_entry ([.ref (ad 0), .int (zI p1)]) (n := 2) (Nat.le_of_ble_eq_true rfl)
  rw [lg_entry_eq]
  generalize (lg_sl ([.ref (ad 0), .int (zI p1)]) ++ List.replicate (2 - (lg_sl ([.ref (ad 0), .int (zI p1)])).length) Slot.unset).toArray = ls at hl ⊢
  have hl : lv_has ls 2 [(0, .ref (ad 0)), (1, .int (zI p1))] := hl
  refine lv_iload_n hx hb dX11_where_0 rfl (lv_at hl 1 rfl) ?_
  refine z_iconst hx hb dX11_where_1 ?_
  refine z_bipush hx hb dX11_where_2 (by decide) ?_
  refine g_calli (va_runS (As := [.int (zI p1), .int (zI 0), .int (zI 100)]) (rest := []) ⟨hx, hb, hml, hown, hts⟩ (kX11_isWithin l D cy ad jf A u p1 0 100 (by omega) (by omega) (by omega)) (va_cwS 3 hts gX11_where_X11_isWithin rfl rfl rfl (by decide +kernel) ⟨by decide, by decide⟩) (g_preS hG hC hS) rfl rfl hl.1 rfl (lv_room (Nat.le_of_ble_eq_true rfl)) dX11_where_4 ⟨Nat.le_of_ble_eq_true rfl, Nat.le_of_ble_eq_true rfl⟩) hS (fun r1 u2 H locs p_3 hG hS => ?_)
  obtain ⟨⟨b4, rfl, q_5⟩, he_⟩ := p_3
  rw [he_] at hG; clear he_
  have hbb4 : 0 ≤ b4 ∧ b4 ≤ 1 := by rcases q_5 with ⟨h, _⟩ | ⟨h, _⟩ <;> omega
  refine z_if_ne (tgt := 12) hx hb dX11_where_7 (by decide) (by omega) (by omega) (fun c_6 => ?_) (fun c_6 => ?_)
  · refine lv_aload_n hx hb dX11_where_12 rfl (lv_at hl 0 rfl) ?_
    refine g_get (C := RX11) (T := TX11) (N := 14) (ci := 10) hx hb hts (fun _ h => (List.mem_cons_of_mem _ (List.mem_append_left _ (List.mem_append_right _ h)))) hown hC.1 hG 0 (by decide) rfl rfl 5 (by decide) (hts (.fieldLink RX11 35 "StraitSwim" "latest" "LStraitSwim$Swim;") (List.mem_cons_of_mem _ (List.mem_append_left _ (List.mem_append_left _ (List.mem_of_getElem? (i := 0) rfl))))) (fun _ h9 => h9) rfl dX11_where_13 ?_
    refine g_calli (va_runV (As := []) (rest := []) ⟨hx, hb, hml, hown, hts⟩ (kX9_hasBeen_2 l D cy ad jf A u  (by omega)) (cwV 0 hts gX11_where_X9_hasBeen rfl rfl rfl (by decide +kernel) ⟨by decide, by decide⟩) (g_preV (C := RX9) hG hC hS 2 (by decide) rfl rfl) rfl rfl hl.1 rfl (lv_room (Nat.le_of_ble_eq_true rfl)) dX11_where_16 ⟨Nat.le_of_ble_eq_true rfl, Nat.le_of_ble_eq_true rfl⟩) hS (fun r7 u8 H locs p_9 hG hS => ?_)
    obtain ⟨⟨b10, rfl, q_11⟩, he_⟩ := p_9
    rw [he_] at hG; clear he_
    have hbb10 : 0 ≤ b10 ∧ b10 ≤ 1 := by rcases q_11 with ⟨h, _⟩ | ⟨h, _⟩ <;> omega
    refine z_if_eq (tgt := 33) hx hb dX11_where_19 (by decide) (by omega) (by omega) (fun c_12 => ?_) (fun c_12 => ?_)
    · refine z_bipush hx hb dX11_where_33 (by decide) ?_
      exact W.iret (v := zI ((-3))) hx hb hr (fun t9 ht9_ hW => ⟨⟨zI ((-3)), u, rfl, (by refine ⟨?_, rfl⟩; unfold cWhere; (repeat (first | rw [if_pos (by omega)] | rw [if_neg (by omega)])); all_goals (first | rfl | (congr 1; omega) | (subst_vars; rfl))), gB.mk' hG hC hS ht9_ hW⟩, hS.F ht9_⟩) hS.2.2 dX11_where_35
    · refine lv_iload_n hx hb dX11_where_22 rfl (lv_at hl 1 rfl) ?_
      refine lv_aload_n hx hb dX11_where_23 rfl (lv_at hl 0 rfl) ?_
      refine g_get (C := RX11) (T := TX11) (N := 14) (ci := 10) hx hb hts (fun _ h => (List.mem_cons_of_mem _ (List.mem_append_left _ (List.mem_append_right _ h)))) hown hC.1 hG 0 (by decide) rfl rfl 5 (by decide) (hts (.fieldLink RX11 35 "StraitSwim" "latest" "LStraitSwim$Swim;") (List.mem_cons_of_mem _ (List.mem_append_left _ (List.mem_append_left _ (List.mem_of_getElem? (i := 0) rfl))))) (fun _ h9 => h9) rfl dX11_where_24 ?_
      refine g_get (C := RX9) (T := TX9) (N := 9) (ci := 8) hx hb hts (fun _ h => (List.mem_cons_of_mem _ (List.mem_append_right _ h))) hown hC.1 hG 2 (by decide) rfl rfl 1 (by decide) (hts (.fieldLink RX11 148 "StraitSwim$Swim" "quarters" "I") (List.mem_cons_of_mem _ (List.mem_append_left _ (List.mem_append_left _ (List.mem_of_getElem? (i := 1) rfl))))) (fun _ h9 => h9) rfl dX11_where_27 ?_
      refine z_icmp_le (tgt := 36) hx hb dX11_where_30 (by decide) (by omega) (by omega) (by omega) (by omega) (fun c_13 => ?_) (fun c_13 => ?_)
      · refine z_sipush hx hb dX11_where_36 (by decide) ?_
        refine lv_aload_n hx hb dX11_where_39 rfl (lv_at hl 0 rfl) ?_
        refine g_get (C := RX11) (T := TX11) (N := 14) (ci := 10) hx hb hts (fun _ h => (List.mem_cons_of_mem _ (List.mem_append_left _ (List.mem_append_right _ h)))) hown hC.1 hG 0 (by decide) rfl rfl 5 (by decide) (hts (.fieldLink RX11 35 "StraitSwim" "latest" "LStraitSwim$Swim;") (List.mem_cons_of_mem _ (List.mem_append_left _ (List.mem_append_left _ (List.mem_of_getElem? (i := 0) rfl))))) (fun _ h9 => h9) rfl dX11_where_40 ?_
        refine g_get (C := RX9) (T := TX9) (N := 9) (ci := 8) hx hb hts (fun _ h => (List.mem_cons_of_mem _ (List.mem_append_right _ h))) hown hC.1 hG 2 (by decide) rfl rfl 3 (by decide) (hts (.fieldLink RX11 145 "StraitSwim$Swim" "xs" "[I") (List.mem_cons_of_mem _ (List.mem_append_left _ (List.mem_append_left _ (List.mem_of_getElem? (i := 2) rfl))))) (fun _ h9 => h9) rfl dX11_where_43 ?_
        refine lv_iload_n hx hb dX11_where_46 rfl (lv_at hl 1 rfl) ?_
        refine g_iald (n := 101) hx hb hC.1 hG 13 (by decide) rfl (by omega) (by omega) (by decide) dX11_where_47 ?_
        have q_14 := i13 p1.toNat (by omega)
        refine z_imul hx hb dX11_where_48 ?_
        refine lv_aload_n hx hb dX11_where_49 rfl (lv_at hl 0 rfl) ?_
        refine g_get (C := RX11) (T := TX11) (N := 14) (ci := 10) hx hb hts (fun _ h => (List.mem_cons_of_mem _ (List.mem_append_left _ (List.mem_append_right _ h)))) hown hC.1 hG 0 (by decide) rfl rfl 5 (by decide) (hts (.fieldLink RX11 35 "StraitSwim" "latest" "LStraitSwim$Swim;") (List.mem_cons_of_mem _ (List.mem_append_left _ (List.mem_append_left _ (List.mem_of_getElem? (i := 0) rfl))))) (fun _ h9 => h9) rfl dX11_where_50 ?_
        refine g_get (C := RX9) (T := TX9) (N := 9) (ci := 8) hx hb hts (fun _ h => (List.mem_cons_of_mem _ (List.mem_append_right _ h))) hown hC.1 hG 2 (by decide) rfl rfl 4 (by decide) (hts (.fieldLink RX11 151 "StraitSwim$Swim" "ys" "[I") (List.mem_cons_of_mem _ (List.mem_append_left _ (List.mem_append_left _ (List.mem_of_getElem? (i := 3) rfl))))) (fun _ h9 => h9) rfl dX11_where_53 ?_
        refine lv_iload_n hx hb dX11_where_56 rfl (lv_at hl 1 rfl) ?_
        refine g_iald (n := 101) hx hb hC.1 hG 14 (by decide) rfl (by omega) (by omega) (by decide) dX11_where_57 ?_
        have q_15 := i14 p1.toNat (by omega)
        refine z_iadd hx hb dX11_where_58 ?_
        exact W.iret (v := zI ((1000 * (u.2.1 13 p1.toNat)) + (u.2.1 14 p1.toNat))) hx hb hr (fun t9 ht9_ hW => ⟨⟨zI ((1000 * (u.2.1 13 p1.toNat)) + (u.2.1 14 p1.toNat)), u, rfl, (by refine ⟨?_, rfl⟩; unfold cWhere; (repeat (first | rw [if_pos (by omega)] | rw [if_neg (by omega)])); all_goals (first | rfl | (congr 1; omega) | (subst_vars; rfl))), gB.mk' hG hC hS ht9_ hW⟩, hS.F ht9_⟩) hS.2.2 dX11_where_59
      · refine z_bipush hx hb dX11_where_33 (by decide) ?_
        exact W.iret (v := zI ((-3))) hx hb hr (fun t9 ht9_ hW => ⟨⟨zI ((-3)), u, rfl, (by refine ⟨?_, rfl⟩; unfold cWhere; (repeat (first | rw [if_pos (by omega)] | rw [if_neg (by omega)])); all_goals (first | rfl | (congr 1; omega) | (subst_vars; rfl))), gB.mk' hG hC hS ht9_ hW⟩, hS.F ht9_⟩) hS.2.2 dX11_where_35
  · refine z_iconst hx hb dX11_where_10 ?_
    exact W.iret (v := zI ((-1))) hx hb hr (fun t9 ht9_ hW => ⟨⟨zI ((-1)), u, rfl, (by refine ⟨?_, rfl⟩; unfold cWhere; (repeat (first | rw [if_pos (by omega)] | rw [if_neg (by omega)])); all_goals (first | rfl | (congr 1; omega) | (subst_vars; rfl))), gB.mk' hG hC hS ht9_ hW⟩, hS.F ht9_⟩) hS.2.2 dX11_where_11
