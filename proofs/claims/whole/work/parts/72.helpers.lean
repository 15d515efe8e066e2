set_option maxHeartbeats 4000000 in
set_option maxRecDepth 100000 in
theorem kL_carries (l : Launch) (D : va_G) (cy : Nat → ClassId) (ad : Nat → Nat) (jf : Nat → Int64) (A : Nat → Prop) (hl9 : l.stackTraces = false) (u : gS) (p1 p2 p3 p4 : Int) (j_p1 : -2147483648 ≤ p1 ∧ p1 < 2147483648) (j_p2 : -2147483648 ≤ p2 ∧ p2 < 2147483648) (j_p3 : -2147483648 ≤ p3 ∧ p3 < 2147483648) (j_p4 : -2147483648 ≤ p4 ∧ p4 < 2147483648) : vx_Met l yL_carries wsL_carries ({ frames := 8, cells := 1, slots := 6, locals := 130 }) (va_Pc [.ref (ad 0), .int (zI p1), .int (zI p2), .int (zI p3), .int (zI p4), .ref (ad 64)] (gBX D cy ad jf A u)) (va_Qi (fun (r : Int32) (v : gS × (Nat → Int64)) => (r = zI 0 ∧ okCarry p1 p2 p3 p4 ∧ v.1 = u ∧ v.2 0 = (zI (cCarry u p2 p3 p4)).toInt64) ∨ (r = zI 1 ∧ ¬ okCarry p1 p2 p3 p4 ∧ v.1 = u)) (fun v => gB D cy ad v.2 A v.1) A) (gXC (fun _ => False) D cy ad jf A (fun v : gS => v = u)) 1 6 A := by
  refine vx_ofWH (cc := cL_carries) (maxL := 7) (ret := (some .int)) (by decide) rfl ?_
  intro p e s m args below meth c s₁ B hml hv
  obtain ⟨rfl, ⟨hG, hC⟩, hTh⟩ := hv
  have hx := B.exec
  have hb := B.bytes
  have hr := B.returns
  have hts := atoms_spec (ws := wsL_carries) B.pre
  have hown : s.vm.findClass RL = some m.cls := findClass_of_methodNamed B.named
  have htab := vx_table (x := yL_carries) B (hts _ List.mem_cons_self)
  have hlocks := B.notSynchronized
  have hS : va_S A s.heap s.heap [] := va_S.rf
  have hl := lv_entry ([.ref (ad 0), .int (zI p1), .int (zI p2), .int (zI p3), .int (zI p4), .ref (ad 64)]) (n := 7) (Nat.le_of_ble_eq_true rfl)
  rw [lg_entry_eq]
  generalize (lg_sl ([.ref (ad 0), .int (zI p1), .int (zI p2), .int (zI p3), .int (zI p4), .ref (ad 64)]) ++ List.replicate (7 - (lg_sl ([.ref (ad 0), .int (zI p1), .int (zI p2), .int (zI p3), .int (zI p4), .ref (ad 64)])).length) Slot.unset).toArray = ls at hl ⊢
  have hl : lv_has ls 7 [(0, .ref (ad 0)), (1, .int (zI p1)), (2, .int (zI p2)), (3, .int (zI p3)), (4, .int (zI p4)), (5, .ref (ad 64))] := hl
  refine lv_aload hx hb dL_carries_0 (lv_at hl 5 rfl) ?_
  refine z_iconst hx hb dL_carries_2 ?_
  refine lv_aload_n hx hb dL_carries_3 rfl (lv_at hl 0 rfl) ?_
  refine lv_iload_n hx hb dL_carries_4 rfl (lv_at hl 1 rfl) ?_
  refine lv_iload_n hx hb dL_carries_5 rfl (lv_at hl 2 rfl) ?_
  refine lv_iload_n hx hb dL_carries_6 rfl (lv_at hl 3 rfl) ?_
  refine lv_iload hx hb dL_carries_7 (lv_at hl 4 rfl) ?_
  refine vx_calll (vx_runV (As := [.int (zI p1), .int (zI p2), .int (zI p3), .int (zI p4)]) (rest := [.int (zI 0), .ref (ad 64)]) ⟨hx, hb, hml, hown, hts⟩ (kX11_carries l D cy ad jf A hl9 u p1 p2 p3 p4 (by omega) (by omega) (by omega) (by omega)) (cwV 4 hts gL_carries_X11_carries rfl rfl rfl (by decide +kernel) ⟨by decide, by decide⟩) (gX_preV (C := RX11) hG hC hTh hS 0 (by decide) rfl rfl) rfl rfl hl.1 rfl (lv_room (Nat.le_of_ble_eq_true rfl)) dL_carries_9 ⟨Nat.le_of_ble_eq_true rfl, Nat.le_of_ble_eq_true rfl⟩) hS (fun _ _ h => h) (fun _ h => h) (fun _ _ h => h) (fun E ce q9 v9 t H locs ht _ hpx hBX _ _ hS hce hcv hcl => ?_) (fun r9 v9 t H locs ht _ hpo hB _ _ hS => ?_)
  · obtain ⟨hE9, hG⟩ := hBX
    rw [hpx, ht] at hG
    obtain ⟨hE9, hno⟩ := hE9
    rw [hE9] at hcl
    refine vx_catch hown [] _ [] htab (fun z hz => absurd hz List.not_mem_nil) rfl (by decide) (hts (.classLink RL 13 "java/lang/IllegalArgumentException") (List.mem_cons_of_mem _ (List.mem_append_left _ (List.mem_append_left _ (List.mem_append_left _ (List.mem_of_getElem? (i := 0) rfl)))))) (va_Nw.use rfl hTh.2.2.2.1) hce hcv hcl ?_
    refine W.eq (g2 := F0 m 16 ls [.ref q9]) rfl ?_
    refine lv_astore (lv' := [(6, .ref q9), (0, .ref (ad 0)), (1, .int (zI p1)), (2, .int (zI p2)), (3, .int (zI p3)), (4, .int (zI p4)), (5, .ref (ad 64))]) hx hb dL_carries_16 hl (by decide) rfl (fun ls hl => ?_)
    refine z_iconst hx hb dL_carries_18 ?_
    refine W.widen (k := 1) (n := 6) (Nat.le_of_ble_eq_true rfl) (Nat.le_of_ble_eq_true rfl) ?_
    refine vx_ret ?_
    exact W.iret (v := zI 1) hx hb hr (fun t9 ht9_ hW => ⟨⟨zI 1, (u, jf), rfl, (by exact Or.inr ⟨rfl, hno, rfl⟩), gB.mk' hG hC hS ht9_ hW⟩, hS.F ht9_⟩) hS.2.2 dL_carries_19
  · obtain ⟨hok, hr9, hv9⟩ := hpo
    have hG := hB.1
    rw [hv9, ht] at hG
    refine g_last hx hb hC.1 hG hS dL_carries_12 (fun jf9 H locs hj9 hG hS => ?_)
    refine lv_goto (tgt := 20) hx hb dL_carries_13 (by decide) ?_
    refine z_iconst hx hb dL_carries_20 ?_
    refine W.widen (k := 1) (n := 6) (Nat.le_of_ble_eq_true rfl) (Nat.le_of_ble_eq_true rfl) ?_
    refine vx_ret ?_
    exact W.iret (v := zI 0) hx hb hr (fun t9 ht9_ hW => ⟨⟨zI 0, (u, jf9), rfl, (by exact Or.inl ⟨rfl, hok, rfl, hj9.trans hr9⟩), gB.mk' hG hC hS ht9_ hW⟩, hS.F ht9_⟩) hS.2.2 dL_carries_21
set_option maxHeartbeats 4000000 in
set_option maxRecDepth 100000 in
theorem kL_element (l : Launch) (D : va_G) (cy : Nat → ClassId) (ad : Nat → Nat) (jf : Nat → Int64) (A : Nat → Prop) (hl9 : l.stackTraces = false) (u : gS) (p1 p2 : Int) (j_p1 : -2147483648 ≤ p1 ∧ p1 < 2147483648) (j_p2 : -2147483648 ≤ p2 ∧ p2 < 2147483648) (HK KD NM SP LI FD : Nat → Int) (BA NN : Nat → Nat) (GG : Nat → Nat → Int) (hsl : ∀ d, d < 8 → slAt cy u d (HK d) (KD d) (NM d) (SP d) (LI d) (FD d) (BA d) (NN d) (GG d)) : vx_Met l yL_element wsL_element ({ frames := 8, cells := 1, slots := 6, locals := 130 }) (va_Pc [.ref (ad 0), .int (zI p1), .int (zI p2), .ref (ad 64)] (gBX D cy ad jf A u)) (va_Qi (fun (r : Int32) (v : gS × (Nat → Int64)) => (r = zI 0 ∧ ((0 ≤ p1 ∧ p1 ≤ 7) ∧ okEle HK NN p1 p2) ∧ v.1 = u ∧ v.2 0 = (zI (cEle GG p1 p2)).toInt64) ∨ (r = zI 1 ∧ ¬ (0 ≤ p1 ∧ p1 ≤ 7) ∧ v.1 = u) ∨ (r = zI 2 ∧ ((0 ≤ p1 ∧ p1 ≤ 7) ∧ ¬ okEle HK NN p1 p2) ∧ v.1 = u)) (fun v => gB D cy ad v.2 A v.1) A) (gXC (fun _ => False) D cy ad jf A (fun v : gS => v = u)) 1 6 A := by
  refine vx_ofWH (cc := cL_element) (maxL := 5) (ret := (some .int)) (by decide) rfl ?_
  intro p e s m args below meth c s₁ B hml hv
  obtain ⟨rfl, ⟨hG, hC⟩, hTh⟩ := hv
  have hx := B.exec
  have hb := B.bytes
  have hr := B.returns
  have hts := atoms_spec (ws := wsL_element) B.pre
  have hown : s.vm.findClass RL = some m.cls := findClass_of_methodNamed B.named
  have htab := vx_table (x := yL_element) B (hts _ List.mem_cons_self)
  have hlocks := B.notSynchronized
  have hS : va_S A s.heap s.heap [] := va_S.rf
  have hl := lv_entry ([.ref (ad 0), .int (zI p1), .int (zI p2), .ref (ad 64)]) (n := 5) (Nat.le_of_ble_eq_true rfl)
  rw [lg_entry_eq]
  generalize (lg_sl ([.ref (ad 0), .int (zI p1), .int (zI p2), .ref (ad 64)]) ++ List.replicate (5 - (lg_sl ([.ref (ad 0), .int (zI p1), .int (zI p2), .ref (ad 64)])).length) Slot.unset).toArray = ls at hl ⊢
  have hl : lv_has ls 5 [(0, .ref (ad 0)), (1, .int (zI p1)), (2, .int (zI p2)), (3, .ref (ad 64))] := hl
  refine lv_aload_n hx hb dL_element_0 rfl (lv_at hl 3 rfl) ?_
  refine z_iconst hx hb dL_element_1 ?_
  refine lv_aload_n hx hb dL_element_2 rfl (lv_at hl 0 rfl) ?_
  refine lv_iload_n hx hb dL_element_3 rfl (lv_at hl 1 rfl) ?_
  refine lv_iload_n hx hb dL_element_4 rfl (lv_at hl 2 rfl) ?_
  refine vx_calll (vx_runV (As := [.int (zI p1), .int (zI p2)]) (rest := [.int (zI 0), .ref (ad 64)]) ⟨hx, hb, hml, hown, hts⟩ (kX11_element l D cy ad jf A hl9 u p1 p2 (by omega) (by omega) HK KD NM SP LI FD BA NN GG hsl) (cwV 2 hts gL_element_X11_element rfl rfl rfl (by decide +kernel) ⟨by decide, by decide⟩) (gX_preV (C := RX11) hG hC hTh hS 0 (by decide) rfl rfl) rfl rfl hl.1 rfl (lv_room (Nat.le_of_ble_eq_true rfl)) dL_element_5 ⟨Nat.le_of_ble_eq_true rfl, Nat.le_of_ble_eq_true rfl⟩) hS (fun _ _ h => h) (fun _ h => h) (fun _ _ h => h) (fun E ce q9 v9 t H locs ht _ hpx hBX _ _ hS hce hcv hcl => ?_) (fun r9 v9 t H locs ht _ hpo hB _ _ hS => ?_)
  · obtain ⟨hE9, hG⟩ := hBX
    rw [hpx, ht] at hG
    rcases hE9 with ⟨hE9, hno⟩ | ⟨hE9, hno1, hno⟩
    · rw [hE9] at hcl
      refine vx_catch hown [] _ [_] htab (fun z hz => absurd hz List.not_mem_nil) rfl (by decide) (hts (.classLink RL 13 "java/lang/IllegalArgumentException") (List.mem_cons_of_mem _ (List.mem_append_left _ (List.mem_append_left _ (List.mem_append_left _ (List.mem_append_left _ (List.mem_of_getElem? (i := 0) rfl))))))) (va_Nw.use rfl hTh.2.2.2.1) hce hcv hcl ?_
      refine W.eq (g2 := F0 m 12 ls [.ref q9]) rfl ?_
      refine lv_astore (lv' := [(4, .ref q9), (0, .ref (ad 0)), (1, .int (zI p1)), (2, .int (zI p2)), (3, .ref (ad 64))]) hx hb dL_element_12 hl (by decide) rfl (fun ls hl => ?_)
      refine z_iconst hx hb dL_element_14 ?_
      refine W.widen (k := 1) (n := 6) (Nat.le_of_ble_eq_true rfl) (Nat.le_of_ble_eq_true rfl) ?_
      refine vx_ret ?_
      exact W.iret (v := zI 1) hx hb hr (fun t9 ht9_ hW => ⟨⟨zI 1, (u, jf), rfl, (by exact Or.inr (Or.inl ⟨rfl, hno, rfl⟩)), gB.mk' hG hC hS ht9_ hW⟩, hS.F ht9_⟩) hS.2.2 dL_element_15
    · rw [hE9] at hcl
      refine vx_catch hown [_] _ [] htab (fun z hz => by rw [List.mem_singleton.mp hz]; exact Or.inr ⟨by decide, _, (hts (.classLink RL 13 "java/lang/IllegalArgumentException") (List.mem_cons_of_mem _ (List.mem_append_left _ (List.mem_append_left _ (List.mem_append_left _ (List.mem_append_left _ (List.mem_of_getElem? (i := 0) rfl))))))), hTh.2.2.2.2.2⟩) rfl (by decide) (hts (.classLink RL 19 "java/lang/IllegalStateException") (List.mem_cons_of_mem _ (List.mem_append_left _ (List.mem_append_left _ (List.mem_append_left _ (List.mem_append_left _ (List.mem_of_getElem? (i := 1) rfl))))))) (va_Nw.use rfl hTh.2.2.2.2.1) hce hcv hcl ?_
      refine W.eq (g2 := F0 m 16 ls [.ref q9]) rfl ?_
      refine lv_astore (lv' := [(4, .ref q9), (0, .ref (ad 0)), (1, .int (zI p1)), (2, .int (zI p2)), (3, .ref (ad 64))]) hx hb dL_element_16 hl (by decide) rfl (fun ls hl => ?_)
      refine z_iconst hx hb dL_element_18 ?_
      refine W.widen (k := 1) (n := 6) (Nat.le_of_ble_eq_true rfl) (Nat.le_of_ble_eq_true rfl) ?_
      refine vx_ret ?_
      exact W.iret (v := zI 2) hx hb hr (fun t9 ht9_ hW => ⟨⟨zI 2, (u, jf), rfl, (by exact Or.inr (Or.inr ⟨rfl, ⟨hno1, hno⟩, rfl⟩)), gB.mk' hG hC hS ht9_ hW⟩, hS.F ht9_⟩) hS.2.2 dL_element_19
  · obtain ⟨hok, hr9, hv9⟩ := hpo
    have hG := hB.1
    rw [hv9, ht] at hG
    refine g_last hx hb hC.1 hG hS dL_element_8 (fun jf9 H locs hj9 hG hS => ?_)
    refine lv_goto (tgt := 20) hx hb dL_element_9 (by decide) ?_
    refine z_iconst hx hb dL_element_20 ?_
    refine W.widen (k := 1) (n := 6) (Nat.le_of_ble_eq_true rfl) (Nat.le_of_ble_eq_true rfl) ?_
    refine vx_ret ?_
    exact W.iret (v := zI 0) hx hb hr (fun t9 ht9_ hW => ⟨⟨zI 0, (u, jf9), rfl, (by exact Or.inl ⟨rfl, hok, rfl, hj9.trans hr9⟩), gB.mk' hG hC hS ht9_ hW⟩, hS.F ht9_⟩) hS.2.2 dL_element_21
