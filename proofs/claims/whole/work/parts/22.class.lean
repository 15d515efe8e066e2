theorem gW_set {cy : Nat → ClassId} {ad : Nat → Nat} {jf : Nat → Int64} {A : Nat → Prop} {u : gS} {a k : Nat} {e : va_E} (hD : va_D A (gW cy ad jf u)) (ha : a ∈ u.2.2.2.1) (hk : (gW cy ad jf u)[k]? = some (a, u.2.2.2.2 a)) : (gW cy ad jf u).set k (a, e) = gW cy ad jf (sP u u.2.2.2.1 (va_up u.2.2.2.2 a e)) := va_pl_set hD ha hk
/-- the class number of a KIND -/
def kc (k : Int) : Nat := if k = 0 then 2 else if k = 1 then 0 else if k = 2 then 3 else 5
/-- the j-th swimmer lies at a, with these numbers -/
def swAt (u : gS) (j a : Nat) (k sp li fd : Int) : Prop := u.2.2.1 12 j = some a ∧ a ∈ u.2.2.2.1 ∧ u.2.2.2.2 a = .inr (kc k, [.int (zI (j : Int)), .int (zI sp), .int (zI li), .int (zI fd)]) ∧ (0 ≤ k ∧ k ≤ 3) ∧ (0 ≤ sp ∧ sp ≤ 20) ∧ (0 ≤ li ∧ li ≤ 400) ∧ (0 ≤ fd ∧ fd ≤ 40)
def cPace (u : gS) (K S9 F9 : Nat → Int) (s t w : Int) : Int := if (0 ≤ s ∧ s ≤ u.1 0 - 1) ∧ (0 ≤ t ∧ t ≤ 99) ∧ (0 ≤ w ∧ w ≤ 1) then (if w = 0 then spPace (K s.toNat) (S9 s.toNat) (F9 s.toNat) t else spCold (K s.toNat) (u.1 1) t) else -1
def cTurnN (u : gS) (s : Int) : Int × gS := if 0 ≤ s ∧ s ≤ u.1 0 - 1 then (if u.1 17 = 40 then (-2, u) else if u.1 16 = 0 then (-3, u) else (u.1 17 + 1, sI (sF u 24 (va_up (u.2.1 24) (u.1 17).toNat s)) 17 (u.1 17 + 1))) else (-1, u)
def cEnter (u : gS) (s p k d : Int) : Int × gS := (if u.2.1 25 s.toNat = 0 then 1 else 0, sF (sF (sF (sF u 25 (va_up (u.2.1 25) s.toNat 1)) 26 (va_up (u.2.1 26) s.toNat p)) 27 (va_up (u.2.1 27) s.toNat k)) 28 (va_up (u.2.1 28) s.toNat d))
def cSlot (u : gS) (s p k d : Int) : Int × gS := if (0 ≤ s ∧ s ≤ u.1 0 - 1) ∧ (0 ≤ p ∧ p ≤ 3) ∧ (1 ≤ k ∧ k ≤ 4) ∧ (0 ≤ d ∧ d ≤ 65535) then cEnter u s p k d else (-1, u)
set_option maxHeartbeats 4000000 in
set_option maxRecDepth 100000 in
theorem kX11_known (l : Launch) (D : va_G) (cy : Nat → ClassId) (ad : Nat → Nat) (jf : Nat → Int64) (A : Nat → Prop) (u : gS) (p1 : Int) (j_p1 : -2147483648 ≤ p1 ∧ p1 < 2147483648) (i0 : 0 ≤ u.1 0 ∧ u.1 0 ≤ 10) : Met l yX11_known wsX11_known ({ frames := 1, cells := 0, slots := 0, locals := 22 }) (va_Pc [.ref (ad 0), .int (zI p1)] (gB D cy ad jf A u)) (va_Qq (fun (r : Option Nat) (v : gS) => r = (if 0 ≤ p1 ∧ p1 ≤ u.1 0 - 1 then u.2.2.1 12 p1.toNat else none) ∧ v = u) (gB D cy ad jf A) A) 0 0 A := by
  refine Met.ofW (cc := cX11_known) (maxL := 2) (ret := (some (.object "StraitSwim$Plain"))) (by decide) rfl ?_
  intro p e s m args below meth c s₁ B hml hv
  obtain ⟨rfl, hG, hC⟩ := hv
  have hx := B.exec
  have hb := B.bytes
  have hr := B.returns
  have hts := atoms_spec (ws := wsX11_known) B.pre
  have hown : s.vm.findClass RX11 = some m.cls := findClass_of_methodNamed B.named
  have hlocks := B.notSynchronized
  have hS : va_S A s.heap s.heap [] := va_S.rf
  have hl := lv_entry ([.ref (ad 0), .int (zI p1)]) (n := 2) (Nat.le_of_ble_eq_true rfl)
  rw [lg_entry_eq]
  generalize (lg_sl ([.ref (ad 0), .int (zI p1)]) ++ List.replicate (2 - (lg_sl ([.ref (ad 0), .int (zI p1)])).length) Slot.unset).toArray = ls at hl ⊢
  have hl : lv_has ls 2 [(0, .ref (ad 0)), (1, .int (zI p1))] := hl
  refine lv_iload_n hx hb dX11_known_0 rfl (lv_at hl 1 rfl) ?_
  refine z_iconst hx hb dX11_known_1 ?_
  refine lv_aload_n hx hb dX11_known_2 rfl (lv_at hl 0 rfl) ?_
  refine g_get (C := RX11) (T := TX11) (N := 14) (ci := 10) hx hb hts (fun _ h => (List.mem_cons_of_mem _ (List.mem_append_right _ h))) hown hC.1 hG 0 (by decide) rfl rfl 2 (by decide) (hts (.fieldLink RX11 22 "StraitSwim" "swimmerCount" "I") (List.mem_cons_of_mem _ (List.mem_append_left _ (List.mem_of_getElem? (i := 0) rfl)))) (fun _ h9 => h9) rfl dX11_known_3 ?_
  refine z_iconst hx hb dX11_known_6 ?_
  refine z_isub hx hb dX11_known_7 ?_
  refine g_calli (va_runS (As := [.int (zI p1), .int (zI 0), .int (zI ((u.1 0) - 1))]) (rest := []) ⟨hx, hb, hml, hown, hts⟩ (kX11_isWithin l D cy ad jf A u p1 0 ((u.1 0) - 1) (by omega) (by omega) (by omega)) (va_cwS 3 hts gX11_known_X11_isWithin rfl rfl rfl (by decide +kernel) ⟨by decide, by decide⟩) (g_preS hG hC hS) rfl rfl hl.1 rfl (lv_room (Nat.le_of_ble_eq_true rfl)) dX11_known_8 ⟨Nat.le_of_ble_eq_true rfl, Nat.le_of_ble_eq_true rfl⟩) hS (fun r1 u2 H locs p_3 hG hS => ?_)
  obtain ⟨⟨b4, rfl, q_5⟩, he_⟩ := p_3
  rw [he_] at hG; clear he_
  have hbb4 : 0 ≤ b4 ∧ b4 ≤ 1 := by rcases q_5 with ⟨h, _⟩ | ⟨h, _⟩ <;> omega
  refine z_if_eq (tgt := 23) hx hb dX11_known_11 (by decide) (by omega) (by omega) (fun c_6 => ?_) (fun c_6 => ?_)
  · refine lv_null hx hb dX11_known_23 ?_
    exact W.aret (v := va_rf (none)) hx hb hr (Or.inl ⟨_, rfl⟩) (va_rf_or _) (fun t9 ht9_ hW => ⟨⟨none, u, rfl, (by (first | rw [if_pos (by omega)] | rw [if_neg (by omega)]); exact ⟨rfl, rfl⟩), gB.mk' hG hC hS ht9_ hW⟩, hS.F ht9_⟩) hS.2.2 dX11_known_24
  · refine lv_aload_n hx hb dX11_known_14 rfl (lv_at hl 0 rfl) ?_
    refine g_get (C := RX11) (T := TX11) (N := 14) (ci := 10) hx hb hts (fun _ h => (List.mem_cons_of_mem _ (List.mem_append_right _ h))) hown hC.1 hG 0 (by decide) rfl rfl 1 (by decide) (hts (.fieldLink RX11 18 "StraitSwim" "swimmers" "[LStraitSwim$Plain;") (List.mem_cons_of_mem _ (List.mem_append_left _ (List.mem_of_getElem? (i := 1) rfl)))) (fun _ h9 => h9) rfl dX11_known_15 ?_
    refine lv_iload_n hx hb dX11_known_18 rfl (lv_at hl 1 rfl) ?_
    refine g_aald (n := 10) hx hb hC.1 hG 12 4 (by decide) rfl rfl (by omega) (by omega) (by decide) dX11_known_19 ?_
    refine lv_goto (tgt := 24) hx hb dX11_known_20 (by decide) ?_
    exact W.aret (v := va_rf (u.2.2.1 12 p1.toNat)) hx hb hr (Or.inl ⟨_, rfl⟩) (va_rf_or _) (fun t9 ht9_ hW => ⟨⟨u.2.2.1 12 p1.toNat, u, rfl, (by (first | rw [if_pos (by omega)] | rw [if_neg (by omega)]); exact ⟨rfl, rfl⟩), gB.mk' hG hC hS ht9_ hW⟩, hS.F ht9_⟩) hS.2.2 dX11_known_24
set_option maxHeartbeats 4000000 in
set_option maxRecDepth 100000 in
theorem kX11_pace (l : Launch) (D : va_G) (cy : Nat → ClassId) (ad : Nat → Nat) (jf : Nat → Int64) (A : Nat → Prop) (u : gS) (p1 p2 p3 : Int) (j_p1 : -2147483648 ≤ p1 ∧ p1 < 2147483648) (j_p2 : -2147483648 ≤ p2 ∧ p2 < 2147483648) (j_p3 : -2147483648 ≤ p3 ∧ p3 < 2147483648) (i0 : 0 ≤ u.1 0 ∧ u.1 0 ≤ 10) (i1 : 0 ≤ u.1 1 ∧ u.1 1 ≤ 20) (K S9 L9 F9 : Nat → Int) (hsw : ∀ j : Nat, (j : Int) < u.1 0 → ∃ a, swAt u j a (K j) (S9 j) (L9 j) (F9 j)) : Met l yX11_pace wsX11_pace ({ frames := 4, cells := 0, slots := 0, locals := 96 }) (va_Pc [.ref (ad 0), .int (zI p1), .int (zI p2), .int (zI p3)] (gB D cy ad jf A u)) (va_Qi (fun (r : Int32) (v : gS) => r = zI (cPace u K S9 F9 p1 p2 p3) ∧ v = u) (gB D cy ad jf A) A) 0 0 A := by
  refine Met.ofW (cc := cX11_pace) (maxL := 5) (ret := (some .int)) (by decide) rfl ?_
  intro p e s m args below meth c s₁ B hml hv
  obtain ⟨rfl, hG, hC⟩ := hv
  have hx := B.exec
  have hb := B.bytes
  have hr := B.returns
  have hts := atoms_spec (ws := wsX11_pace) B.pre
  have hown : s.vm.findClass RX11 = some m.cls := findClass_of_methodNamed B.named
  have hlocks := B.notSynchronized
  have hS : va_S A s.heap s.heap [] := va_S.rf
  have hl := lv_entry ([.ref (ad 0), .int (zI p1), .int (zI p2), .int (zI p3)]) (n := 5) (Nat.le_of_ble_eq_true rfl)
  rw [lg_entry_eq]
  generalize (lg_sl ([.ref (ad 0), .int (zI p1), .int (zI p2), .int (zI p3)]) ++ List.replicate (5 - (lg_sl ([.ref (ad 0), .int (zI p1), .int (zI p2), .int (zI p3)])).length) Slot.unset).toArray = ls at hl ⊢
  have hl : lv_has ls 5 [(0, .ref (ad 0)), (1, .int (zI p1)), (2, .int (zI p2)), (3, .int (zI p3))] := hl
  refine lv_aload_n hx hb dX11_pace_0 rfl (lv_at hl 0 rfl) ?_
  refine lv_iload_n hx hb dX11_pace_1 rfl (lv_at hl 1 rfl) ?_
  refine g_callq (va_runV (As := [.int (zI p1)]) (rest := []) ⟨hx, hb, hml, hown, hts⟩ (kX11_known l D cy ad jf A u p1 (by omega) i0) (cwV 1 hts gX11_pace_X11_known rfl rfl rfl (by decide +kernel) ⟨by decide, by decide⟩) (g_preV (C := RX11) hG hC hS 0 (by decide) rfl rfl) rfl rfl hl.1 rfl (lv_room (Nat.le_of_ble_eq_true rfl)) dX11_pace_2 ⟨Nat.le_of_ble_eq_true rfl, Nat.le_of_ble_eq_true rfl⟩) hS (fun r1 u2 H locs p_3 hG hS => ?_)
  obtain ⟨hr_, he_⟩ := p_3
  rw [he_] at hG; clear he_
  by_cases hk_ : 0 ≤ p1 ∧ p1 ≤ u.1 0 - 1
  · rw [if_pos hk_] at hr_
    obtain ⟨a, ha0, ha, hE0, hki, hsp, hli, hfd⟩ := hsw p1.toNat (by omega)
    rw [ha0] at hr_
    subst hr_
    rcases (show K p1.toNat = 0 ∨ K p1.toNat = 1 ∨ K p1.toNat = 2 ∨ K p1.toNat = 3 by omega) with hk0 | hk0 | hk0 | hk0
    · have hE : u.2.2.2.2 a = .inr (2, [.int (zI (p1.toNat : Int)), .int (zI (S9 p1.toNat)), .int (zI (L9 p1.toNat)), .int (zI (F9 p1.toNat))]) := by rw [hE0, hk0]; rfl
      simp only [va_rf]
      refine lv_astore (lv' := [(4, .ref a), (0, .ref (ad 0)), (1, .int (zI p1)), (2, .int (zI p2)), (3, .int (zI p3))]) hx hb dX11_pace_5 hl (by decide) rfl (fun ls hl => ?_)
      refine lv_aload hx hb dX11_pace_7 (lv_at hl 0 rfl) ?_
      refine lv_ifnull hx hb dX11_pace_9 ?_
      refine lv_iload_n hx hb dX11_pace_12 rfl (lv_at hl 3 rfl) ?_
      refine z_iconst hx hb dX11_pace_13 ?_
      refine z_bipush hx hb dX11_pace_14 (by decide) ?_
      refine g_calli (va_runS (As := [.int (zI p2), .int (zI 0), .int (zI 99)]) (rest := []) ⟨hx, hb, hml, hown, hts⟩ (kX11_isWithin l D cy ad jf A u p2 0 99 (by omega) (by omega) (by omega)) (va_cwS 3 hts gX11_pace_X11_isWithin rfl rfl rfl (by decide +kernel) ⟨by decide, by decide⟩) (g_preS hG hC hS) rfl rfl hl.1 rfl (lv_room (Nat.le_of_ble_eq_true rfl)) dX11_pace_16 ⟨Nat.le_of_ble_eq_true rfl, Nat.le_of_ble_eq_true rfl⟩) hS (fun r4 u5 H locs p_6 hG hS => ?_)
      obtain ⟨⟨b7, rfl, q_8⟩, he_⟩ := p_6
      rw [he_] at hG; clear he_
      have hbb7 : 0 ≤ b7 ∧ b7 ≤ 1 := by rcases q_8 with ⟨h, _⟩ | ⟨h, _⟩ <;> omega
      refine z_if_eq (tgt := 31) hx hb dX11_pace_19 (by decide) (by omega) (by omega) (fun c_9 => ?_) (fun c_9 => ?_)
      · refine z_iconst hx hb dX11_pace_31 ?_
        exact W.iret (v := zI ((-1))) hx hb hr (fun t9 ht9_ hW => ⟨⟨zI ((-1)), u, rfl, (by refine ⟨?_, rfl⟩; unfold cPace; (repeat (first | rw [if_pos (by omega)] | rw [if_neg (by omega)])); all_goals (first | rfl | (rw [hk0]; subst_vars; first | rfl | (unfold spCold; (repeat (first | rw [if_pos (by omega)] | rw [if_neg (by omega)])); all_goals rfl)))), gB.mk' hG hC hS ht9_ hW⟩, hS.F ht9_⟩) hS.2.2 dX11_pace_32
      · refine lv_iload_n hx hb dX11_pace_22 rfl (lv_at hl 4 rfl) ?_
        refine z_iconst hx hb dX11_pace_23 ?_
        refine z_iconst hx hb dX11_pace_24 ?_
        refine g_calli (va_runS (As := [.int (zI p3), .int (zI 0), .int (zI 1)]) (rest := []) ⟨hx, hb, hml, hown, hts⟩ (kX11_isWithin l D cy ad jf A u p3 0 1 (by omega) (by omega) (by omega)) (va_cwS 3 hts gX11_pace_X11_isWithin rfl rfl rfl (by decide +kernel) ⟨by decide, by decide⟩) (g_preS hG hC hS) rfl rfl hl.1 rfl (lv_room (Nat.le_of_ble_eq_true rfl)) dX11_pace_25 ⟨Nat.le_of_ble_eq_true rfl, Nat.le_of_ble_eq_true rfl⟩) hS (fun r10 u11 H locs p_12 hG hS => ?_)
        obtain ⟨⟨b13, rfl, q_14⟩, he_⟩ := p_12
        rw [he_] at hG; clear he_
        have hbb13 : 0 ≤ b13 ∧ b13 ≤ 1 := by rcases q_14 with ⟨h, _⟩ | ⟨h, _⟩ <;> omega
        refine z_if_ne (tgt := 33) hx hb dX11_pace_28 (by decide) (by omega) (by omega) (fun c_15 => ?_) (fun c_15 => ?_)
        · refine lv_iload_n hx hb dX11_pace_33 rfl (lv_at hl 4 rfl) ?_
          refine z_if_ne (tgt := 46) hx hb dX11_pace_34 (by decide) (by omega) (by omega) (fun c_16 => ?_) (fun c_16 => ?_)
          · refine lv_aload hx hb dX11_pace_46 (lv_at hl 0 rfl) ?_
            refine lv_iload_n hx hb dX11_pace_48 rfl (lv_at hl 3 rfl) ?_
            refine lv_aload_n hx hb dX11_pace_49 rfl (lv_at hl 1 rfl) ?_
            refine g_get (C := RX11) (T := TX11) (N := 14) (ci := 10) hx hb hts (fun _ h => (List.mem_cons_of_mem _ (List.mem_append_left _ (List.mem_append_left _ (List.mem_append_left _ (List.mem_append_left _ (List.mem_append_right _ h))))))) hown hC.1 hG 0 (by decide) rfl rfl 3 (by decide) (hts (.fieldLink RX11 26 "StraitSwim" "chill" "I") (List.mem_cons_of_mem _ (List.mem_append_left _ (List.mem_append_left _ (List.mem_append_left _ (List.mem_append_left _ (List.mem_append_left _ (List.mem_append_left _ (List.mem_of_getElem? (i := 0) rfl))))))))) (fun _ h9 => h9) rfl dX11_pace_50 ?_
            obtain ⟨k9, hk9⟩ := va_pl_get (X := gFx cy ad jf u) (f := u.2.2.2.2) ha
            refine g_calli (va_runV (As := [.int (zI p2), .int (zI (u.1 1))]) (rest := []) ⟨hx, hb, hml, hown, hts⟩ (kX3_coldIn_X3 l D cy ad jf A u a ((p1.toNat : Int)) (S9 p1.toNat) (L9 p1.toNat) (F9 p1.toNat) p2 (u.1 1) ha hE (by omega) (by omega)) (cwV 2 hts gX11_pace_X3_coldIn rfl rfl rfl (by decide +kernel) ⟨by decide, by decide⟩) (g_preD (C := RX3) hG hC hS (hk9.trans (by rw [hE])) rfl) rfl rfl hl.1 rfl (lv_room (Nat.le_of_ble_eq_true rfl)) dX11_pace_53 ⟨Nat.le_of_ble_eq_true rfl, Nat.le_of_ble_eq_true rfl⟩) hS (fun r17 u18 H locs p_19 hG hS => ?_)
            obtain ⟨rfl, he_⟩ := p_19
            rw [he_] at hG; clear he_
            obtain ⟨z20, hz20⟩ : ∃ z : Int, z = (u.1 1) + p2 / 8 := ⟨_, rfl⟩
            rw [← hz20]
            have qz20 : 0 ≤ z20 ∧ z20 ≤ 145 := by rw [hz20]; (first | omega | (unfold spAt1; split <;> omega) | (unfold spAt1; split <;> split <;> omega) | (split <;> first | omega | (unfold spAt1; split <;> omega)) | (unfold spPace spPc spAt1; split <;> (first | omega | (split <;> first | omega | (split <;> omega)))))
            exact W.iret (v := zI z20) hx hb hr (fun t9 ht9_ hW => ⟨⟨zI z20, u, rfl, (by refine ⟨?_, rfl⟩; unfold cPace; (repeat (first | rw [if_pos (by omega)] | rw [if_neg (by omega)])); all_goals (first | rfl | (rw [hk0]; subst_vars; first | rfl | (unfold spCold; (repeat (first | rw [if_pos (by omega)] | rw [if_neg (by omega)])); all_goals rfl)))), gB.mk' hG hC hS ht9_ hW⟩, hS.F ht9_⟩) hS.2.2 dX11_pace_56
          · refine lv_aload hx hb dX11_pace_37 (lv_at hl 0 rfl) ?_
            refine lv_iload_n hx hb dX11_pace_39 rfl (lv_at hl 3 rfl) ?_
            obtain ⟨k9, hk9⟩ := va_pl_get (X := gFx cy ad jf u) (f := u.2.2.2.2) ha
            refine g_calli (va_runV (As := [.int (zI p2)]) (rest := []) ⟨hx, hb, hml, hown, hts⟩ (kX3_strideIn_X3 l D cy ad jf A u a ((p1.toNat : Int)) (S9 p1.toNat) (L9 p1.toNat) (F9 p1.toNat) p2 ha hE (by omega) (by omega) (by omega)) (cwV 1 hts gX11_pace_X3_strideIn rfl rfl rfl (by decide +kernel) ⟨by decide, by decide⟩) (g_preD (C := RX3) hG hC hS (hk9.trans (by rw [hE])) rfl) rfl rfl hl.1 rfl (lv_room (Nat.le_of_ble_eq_true rfl)) dX11_pace_40 ⟨Nat.le_of_ble_eq_true rfl, Nat.le_of_ble_eq_true rfl⟩) hS (fun r21 u22 H locs p_23 hG hS => ?_)
            obtain ⟨rfl, he_⟩ := p_23
            rw [he_] at hG; clear he_
            obtain ⟨z24, hz24⟩ : ∃ z : Int, z = spPace 0 (S9 p1.toNat) (F9 p1.toNat) p2 := ⟨_, rfl⟩
            rw [← hz24]
            have qz24 : 0 ≤ z24 ∧ z24 ≤ 24 := by rw [hz24]; (first | omega | (unfold spAt1; split <;> omega) | (unfold spAt1; split <;> split <;> omega) | (split <;> first | omega | (unfold spAt1; split <;> omega)) | (unfold spPace spPc spAt1; split <;> (first | omega | (split <;> first | omega | (split <;> omega)))))
            refine lv_goto (tgt := 56) hx hb dX11_pace_43 (by decide) ?_
            exact W.iret (v := zI z24) hx hb hr (fun t9 ht9_ hW => ⟨⟨zI z24, u, rfl, (by refine ⟨?_, rfl⟩; unfold cPace; (repeat (first | rw [if_pos (by omega)] | rw [if_neg (by omega)])); all_goals (first | rfl | (rw [hk0]; subst_vars; first | rfl | (unfold spCold; (repeat (first | rw [if_pos (by omega)] | rw [if_neg (by omega)])); all_goals rfl)))), gB.mk' hG hC hS ht9_ hW⟩, hS.F ht9_⟩) hS.2.2 dX11_pace_56
        · refine z_iconst hx hb dX11_pace_31 ?_
          exact W.iret (v := zI ((-1))) hx hb hr (fun t9 ht9_ hW => ⟨⟨zI ((-1)), u, rfl, (by refine ⟨?_, rfl⟩; unfold cPace; (repeat (first | rw [if_pos (by omega)] | rw [if_neg (by omega)])); all_goals (first | rfl | (rw [hk0]; subst_vars; first | rfl | (unfold spCold; (repeat (first | rw [if_pos (by omega)] | rw [if_neg (by omega)])); all_goals rfl)))), gB.mk' hG hC hS ht9_ hW⟩, hS.F ht9_⟩) hS.2.2 dX11_pace_32
    · have hE : u.2.2.2.2 a = .inr (0, [.int (zI (p1.toNat : Int)), .int (zI (S9 p1.toNat)), .int (zI (L9 p1.toNat)), .int (zI (F9 p1.toNat))]) := by rw [hE0, hk0]; rfl
      simp only [va_rf]
      refine lv_astore (lv' := [(4, .ref a), (0, .ref (ad 0)), (1, .int (zI p1)), (2, .int (zI p2)), (3, .int (zI p3))]) hx hb dX11_pace_5 hl (by decide) rfl (fun ls hl => ?_)
      refine lv_aload hx hb dX11_pace_7 (lv_at hl 0 rfl) ?_
      refine lv_ifnull hx hb dX11_pace_9 ?_
      refine lv_iload_n hx hb dX11_pace_12 rfl (lv_at hl 3 rfl) ?_
      refine z_iconst hx hb dX11_pace_13 ?_
      refine z_bipush hx hb dX11_pace_14 (by decide) ?_
      refine g_calli (va_runS (As := [.int (zI p2), .int (zI 0), .int (zI 99)]) (rest := []) ⟨hx, hb, hml, hown, hts⟩ (kX11_isWithin l D cy ad jf A u p2 0 99 (by omega) (by omega) (by omega)) (va_cwS 3 hts gX11_pace_X11_isWithin rfl rfl rfl (by decide +kernel) ⟨by decide, by decide⟩) (g_preS hG hC hS) rfl rfl hl.1 rfl (lv_room (Nat.le_of_ble_eq_true rfl)) dX11_pace_16 ⟨Nat.le_of_ble_eq_true rfl, Nat.le_of_ble_eq_true rfl⟩) hS (fun r25 u26 H locs p_27 hG hS => ?_)
      obtain ⟨⟨b28, rfl, q_29⟩, he_⟩ := p_27
      rw [he_] at hG; clear he_
      have hbb28 : 0 ≤ b28 ∧ b28 ≤ 1 := by rcases q_29 with ⟨h, _⟩ | ⟨h, _⟩ <;> omega
      refine z_if_eq (tgt := 31) hx hb dX11_pace_19 (by decide) (by omega) (by omega) (fun c_30 => ?_) (fun c_30 => ?_)
      · refine z_iconst hx hb dX11_pace_31 ?_
        exact W.iret (v := zI ((-1))) hx hb hr (fun t9 ht9_ hW => ⟨⟨zI ((-1)), u, rfl, (by refine ⟨?_, rfl⟩; unfold cPace; (repeat (first | rw [if_pos (by omega)] | rw [if_neg (by omega)])); all_goals (first | rfl | (rw [hk0]; subst_vars; first | rfl | (unfold spCold; (repeat (first | rw [if_pos (by omega)] | rw [if_neg (by omega)])); all_goals rfl)))), gB.mk' hG hC hS ht9_ hW⟩, hS.F ht9_⟩) hS.2.2 dX11_pace_32
      · refine lv_iload_n hx hb dX11_pace_22 rfl (lv_at hl 4 rfl) ?_
        refine z_iconst hx hb dX11_pace_23 ?_
        refine z_iconst hx hb dX11_pace_24 ?_
        refine g_calli (va_runS (As := [.int (zI p3), .int (zI 0), .int (zI 1)]) (rest := []) ⟨hx, hb, hml, hown, hts⟩ (kX11_isWithin l D cy ad jf A u p3 0 1 (by omega) (by omega) (by omega)) (va_cwS 3 hts gX11_pace_X11_isWithin rfl rfl rfl (by decide +kernel) ⟨by decide, by decide⟩) (g_preS hG hC hS) rfl rfl hl.1 rfl (lv_room (Nat.le_of_ble_eq_true rfl)) dX11_pace_25 ⟨Nat.le_of_ble_eq_true rfl, Nat.le_of_ble_eq_true rfl⟩) hS (fun r31 u32 H locs p_33 hG hS => ?_)
        obtain ⟨⟨b34, rfl, q_35⟩, he_⟩ := p_33
        rw [he_] at hG; clear he_
        have hbb34 : 0 ≤ b34 ∧ b34 ≤ 1 := by rcases q_35 with ⟨h, _⟩ | ⟨h, _⟩ <;> omega
        refine z_if_ne (tgt := 33) hx hb dX11_pace_28 (by decide) (by omega) (by omega) (fun c_36 => ?_) (fun c_36 => ?_)
        · refine lv_iload_n hx hb dX11_pace_33 rfl (lv_at hl 4 rfl) ?_
          refine z_if_ne (tgt := 46) hx hb dX11_pace_34 (by decide) (by omega) (by omega) (fun c_37 => ?_) (fun c_37 => ?_)
          · refine lv_aload hx hb dX11_pace_46 (lv_at hl 0 rfl) ?_
            refine lv_iload_n hx hb dX11_pace_48 rfl (lv_at hl 3 rfl) ?_
            refine lv_aload_n hx hb dX11_pace_49 rfl (lv_at hl 1 rfl) ?_
            refine g_get (C := RX11) (T := TX11) (N := 14) (ci := 10) hx hb hts (fun _ h => (List.mem_cons_of_mem _ (List.mem_append_left _ (List.mem_append_left _ (List.mem_append_left _ (List.mem_append_left _ (List.mem_append_right _ h))))))) hown hC.1 hG 0 (by decide) rfl rfl 3 (by decide) (hts (.fieldLink RX11 26 "StraitSwim" "chill" "I") (List.mem_cons_of_mem _ (List.mem_append_left _ (List.mem_append_left _ (List.mem_append_left _ (List.mem_append_left _ (List.mem_append_left _ (List.mem_append_left _ (List.mem_of_getElem? (i := 0) rfl))))))))) (fun _ h9 => h9) rfl dX11_pace_50 ?_
            obtain ⟨k9, hk9⟩ := va_pl_get (X := gFx cy ad jf u) (f := u.2.2.2.2) ha
            refine g_calli (va_runU (As := [.int (zI p2), .int (zI (u.1 1))]) (rest := []) ⟨hx, hb, hml, hown, hts⟩ (kX0_coldIn_X0 l D cy ad jf A u a ((p1.toNat : Int)) (S9 p1.toNat) (L9 p1.toNat) (F9 p1.toNat) p2 (u.1 1) ha hE (by omega) (by omega)) (va_cwO 2 hts gX11_pace_X0_coldIn_u130X0 rfl rfl rfl (List.mem_cons_of_mem _ (List.mem_append_left _ (List.mem_append_left _ (List.mem_append_left _ (List.mem_append_left _ (List.mem_append_left _ (List.mem_append_right _ (List.mem_append_right _ (List.mem_append_left _ (List.mem_of_getElem? (i := 15) rfl)))))))))) (by decide +kernel) ⟨by decide, by decide⟩) (g_preD (C := RX0) hG hC hS (hk9.trans (by rw [hE])) rfl) rfl rfl hl.1 rfl (lv_room (Nat.le_of_ble_eq_true rfl)) dX11_pace_53 ⟨Nat.le_of_ble_eq_true rfl, Nat.le_of_ble_eq_true rfl⟩) hS (fun r38 u39 H locs p_40 hG hS => ?_)
            obtain ⟨rfl, he_⟩ := p_40
            rw [he_] at hG; clear he_
            obtain ⟨z41, hz41⟩ : ∃ z : Int, z = spAt1 ((u.1 1) + p2 / 8 - 2) := ⟨_, rfl⟩
            rw [← hz41]
            have qz41 : 1 ≤ z41 ∧ z41 ≤ 145 := by rw [hz41]; (first | omega | (unfold spAt1; split <;> omega) | (unfold spAt1; split <;> split <;> omega) | (split <;> first | omega | (unfold spAt1; split <;> omega)) | (unfold spPace spPc spAt1; split <;> (first | omega | (split <;> first | omega | (split <;> omega)))))
            exact W.iret (v := zI z41) hx hb hr (fun t9 ht9_ hW => ⟨⟨zI z41, u, rfl, (by refine ⟨?_, rfl⟩; unfold cPace; (repeat (first | rw [if_pos (by omega)] | rw [if_neg (by omega)])); all_goals (first | rfl | (rw [hk0]; subst_vars; first | rfl | (unfold spCold; (repeat (first | rw [if_pos (by omega)] | rw [if_neg (by omega)])); all_goals rfl)))), gB.mk' hG hC hS ht9_ hW⟩, hS.F ht9_⟩) hS.2.2 dX11_pace_56
          · refine lv_aload hx hb dX11_pace_37 (lv_at hl 0 rfl) ?_
            refine lv_iload_n hx hb dX11_pace_39 rfl (lv_at hl 3 rfl) ?_
            obtain ⟨k9, hk9⟩ := va_pl_get (X := gFx cy ad jf u) (f := u.2.2.2.2) ha
            refine g_calli (va_runU (As := [.int (zI p2)]) (rest := []) ⟨hx, hb, hml, hown, hts⟩ (kX3_strideIn_X0 l D cy ad jf A u a ((p1.toNat : Int)) (S9 p1.toNat) (L9 p1.toNat) (F9 p1.toNat) p2 ha hE (by omega) (by omega) (by omega)) (va_cwU 1 hts gX11_pace_X3_strideIn_u126X0 rfl rfl rfl rfl (by decide +kernel) ⟨by decide, by decide⟩) (g_preD (C := RX0) hG hC hS (hk9.trans (by rw [hE])) rfl) rfl rfl hl.1 rfl (lv_room (Nat.le_of_ble_eq_true rfl)) dX11_pace_40 ⟨Nat.le_of_ble_eq_true rfl, Nat.le_of_ble_eq_true rfl⟩) hS (fun r42 u43 H locs p_44 hG hS => ?_)
            obtain ⟨rfl, he_⟩ := p_44
            rw [he_] at hG; clear he_
            obtain ⟨z45, hz45⟩ : ∃ z : Int, z = spPace 1 (S9 p1.toNat) (F9 p1.toNat) p2 := ⟨_, rfl⟩
            rw [← hz45]
            have qz45 : 0 ≤ z45 ∧ z45 ≤ 24 := by rw [hz45]; (first | omega | (unfold spAt1; split <;> omega) | (unfold spAt1; split <;> split <;> omega) | (split <;> first | omega | (unfold spAt1; split <;> omega)) | (unfold spPace spPc spAt1; split <;> (first | omega | (split <;> first | omega | (split <;> omega)))))
            refine lv_goto (tgt := 56) hx hb dX11_pace_43 (by decide) ?_
            exact W.iret (v := zI z45) hx hb hr (fun t9 ht9_ hW => ⟨⟨zI z45, u, rfl, (by refine ⟨?_, rfl⟩; unfold cPace; (repeat (first | rw [if_pos (by omega)] | rw [if_neg (by omega)])); all_goals (first | rfl | (rw [hk0]; subst_vars; first | rfl | (unfold spCold; (repeat (first | rw [if_pos (by omega)] | rw [if_neg (by omega)])); all_goals rfl)))), gB.mk' hG hC hS ht9_ hW⟩, hS.F ht9_⟩) hS.2.2 dX11_pace_56
        · refine z_iconst hx hb dX11_pace_31 ?_
          exact W.iret (v := zI ((-1))) hx hb hr (fun t9 ht9_ hW => ⟨⟨zI ((-1)), u, rfl, (by refine ⟨?_, rfl⟩; unfold cPace; (repeat (first | rw [if_pos (by omega)] | rw [if_neg (by omega)])); all_goals (first | rfl | (rw [hk0]; subst_vars; first | rfl | (unfold spCold; (repeat (first | rw [if_pos (by omega)] | rw [if_neg (by omega)])); all_goals rfl)))), gB.mk' hG hC hS ht9_ hW⟩, hS.F ht9_⟩) hS.2.2 dX11_pace_32
    · have hE : u.2.2.2.2 a = .inr (3, [.int (zI (p1.toNat : Int)), .int (zI (S9 p1.toNat)), .int (zI (L9 p1.toNat)), .int (zI (F9 p1.toNat))]) := by rw [hE0, hk0]; rfl
      simp only [va_rf]
      refine lv_astore (lv' := [(4, .ref a), (0, .ref (ad 0)), (1, .int (zI p1)), (2, .int (zI p2)), (3, .int (zI p3))]) hx hb dX11_pace_5 hl (by decide) rfl (fun ls hl => ?_)
      refine lv_aload hx hb dX11_pace_7 (lv_at hl 0 rfl) ?_
      refine lv_ifnull hx hb dX11_pace_9 ?_
      refine lv_iload_n hx hb dX11_pace_12 rfl (lv_at hl 3 rfl) ?_
      refine z_iconst hx hb dX11_pace_13 ?_
      refine z_bipush hx hb dX11_pace_14 (by decide) ?_
      refine g_calli (va_runS (As := [.int (zI p2), .int (zI 0), .int (zI 99)]) (rest := []) ⟨hx, hb, hml, hown, hts⟩ (kX11_isWithin l D cy ad jf A u p2 0 99 (by omega) (by omega) (by omega)) (va_cwS 3 hts gX11_pace_X11_isWithin rfl rfl rfl (by decide +kernel) ⟨by decide, by decide⟩) (g_preS hG hC hS) rfl rfl hl.1 rfl (lv_room (Nat.le_of_ble_eq_true rfl)) dX11_pace_16 ⟨Nat.le_of_ble_eq_true rfl, Nat.le_of_ble_eq_true rfl⟩) hS (fun r46 u47 H locs p_48 hG hS => ?_)
      obtain ⟨⟨b49, rfl, q_50⟩, he_⟩ := p_48
      rw [he_] at hG; clear he_
      have hbb49 : 0 ≤ b49 ∧ b49 ≤ 1 := by rcases q_50 with ⟨h, _⟩ | ⟨h, _⟩ <;> omega
      refine z_if_eq (tgt := 31) hx hb dX11_pace_19 (by decide) (by omega) (by omega) (fun c_51 => ?_) (fun c_51 => ?_)
      · refine z_iconst hx hb dX11_pace_31 ?_
        exact W.iret (v := zI ((-1))) hx hb hr (fun t9 ht9_ hW => ⟨⟨zI ((-1)), u, rfl, (by refine ⟨?_, rfl⟩; unfold cPace; (repeat (first | rw [if_pos (by omega)] | rw [if_neg (by omega)])); all_goals (first | rfl | (rw [hk0]; subst_vars; first | rfl | (unfold spCold; (repeat (first | rw [if_pos (by omega)] | rw [if_neg (by omega)])); all_goals rfl)))), gB.mk' hG hC hS ht9_ hW⟩, hS.F ht9_⟩) hS.2.2 dX11_pace_32
      · refine lv_iload_n hx hb dX11_pace_22 rfl (lv_at hl 4 rfl) ?_
        refine z_iconst hx hb dX11_pace_23 ?_
        refine z_iconst hx hb dX11_pace_24 ?_
        refine g_calli (va_runS (As := [.int (zI p3), .int (zI 0), .int (zI 1)]) (rest := []) ⟨hx, hb, hml, hown, hts⟩ (kX11_isWithin l D cy ad jf A u p3 0 1 (by omega) (by omega) (by omega)) (va_cwS 3 hts gX11_pace_X11_isWithin rfl rfl rfl (by decide +kernel) ⟨by decide, by decide⟩) (g_preS hG hC hS) rfl rfl hl.1 rfl (lv_room (Nat.le_of_ble_eq_true rfl)) dX11_pace_25 ⟨Nat.le_of_ble_eq_true rfl, Nat.le_of_ble_eq_true rfl⟩) hS (fun r52 u53 H locs p_54 hG hS => ?_)
        obtain ⟨⟨b55, rfl, q_56⟩, he_⟩ := p_54
        rw [he_] at hG; clear he_
        have hbb55 : 0 ≤ b55 ∧ b55 ≤ 1 := by rcases q_56 with ⟨h, _⟩ | ⟨h, _⟩ <;> omega
        refine z_if_ne (tgt := 33) hx hb dX11_pace_28 (by decide) (by omega) (by omega) (fun c_57 => ?_) (fun c_57 => ?_)
        · refine lv_iload_n hx hb dX11_pace_33 rfl (lv_at hl 4 rfl) ?_
          refine z_if_ne (tgt := 46) hx hb dX11_pace_34 (by decide) (by omega) (by omega) (fun c_58 => ?_) (fun c_58 => ?_)
          · refine lv_aload hx hb dX11_pace_46 (lv_at hl 0 rfl) ?_
            refine lv_iload_n hx hb dX11_pace_48 rfl (lv_at hl 3 rfl) ?_
            refine lv_aload_n hx hb dX11_pace_49 rfl (lv_at hl 1 rfl) ?_
            refine g_get (C := RX11) (T := TX11) (N := 14) (ci := 10) hx hb hts (fun _ h => (List.mem_cons_of_mem _ (List.mem_append_left _ (List.mem_append_left _ (List.mem_append_left _ (List.mem_append_left _ (List.mem_append_right _ h))))))) hown hC.1 hG 0 (by decide) rfl rfl 3 (by decide) (hts (.fieldLink RX11 26 "StraitSwim" "chill" "I") (List.mem_cons_of_mem _ (List.mem_append_left _ (List.mem_append_left _ (List.mem_append_left _ (List.mem_append_left _ (List.mem_append_left _ (List.mem_append_left _ (List.mem_of_getElem? (i := 0) rfl))))))))) (fun _ h9 => h9) rfl dX11_pace_50 ?_
            obtain ⟨k9, hk9⟩ := va_pl_get (X := gFx cy ad jf u) (f := u.2.2.2.2) ha
            refine g_calli (va_runU (As := [.int (zI p2), .int (zI (u.1 1))]) (rest := []) ⟨hx, hb, hml, hown, hts⟩ (kX3_coldIn_X4 l D cy ad jf A u a ((p1.toNat : Int)) (S9 p1.toNat) (L9 p1.toNat) (F9 p1.toNat) p2 (u.1 1) ha hE (by omega) (by omega)) (va_cwU 2 hts gX11_pace_X3_coldIn_u130X4 rfl rfl rfl rfl (by decide +kernel) ⟨by decide, by decide⟩) (g_preD (C := RX4) hG hC hS (hk9.trans (by rw [hE])) rfl) rfl rfl hl.1 rfl (lv_room (Nat.le_of_ble_eq_true rfl)) dX11_pace_53 ⟨Nat.le_of_ble_eq_true rfl, Nat.le_of_ble_eq_true rfl⟩) hS (fun r59 u60 H locs p_61 hG hS => ?_)
            obtain ⟨rfl, he_⟩ := p_61
            rw [he_] at hG; clear he_
            obtain ⟨z62, hz62⟩ : ∃ z : Int, z = (u.1 1) + p2 / 8 := ⟨_, rfl⟩
            rw [← hz62]
            have qz62 : 0 ≤ z62 ∧ z62 ≤ 145 := by rw [hz62]; (first | omega | (unfold spAt1; split <;> omega) | (unfold spAt1; split <;> split <;> omega) | (split <;> first | omega | (unfold spAt1; split <;> omega)) | (unfold spPace spPc spAt1; split <;> (first | omega | (split <;> first | omega | (split <;> omega)))))
            exact W.iret (v := zI z62) hx hb hr (fun t9 ht9_ hW => ⟨⟨zI z62, u, rfl, (by refine ⟨?_, rfl⟩; unfold cPace; (repeat (first | rw [if_pos (by omega)] | rw [if_neg (by omega)])); all_goals (first | rfl | (rw [hk0]; subst_vars; first | rfl | (unfold spCold; (repeat (first | rw [if_pos (by omega)] | rw [if_neg (by omega)])); all_goals rfl)))), gB.mk' hG hC hS ht9_ hW⟩, hS.F ht9_⟩) hS.2.2 dX11_pace_56
          · refine lv_aload hx hb dX11_pace_37 (lv_at hl 0 rfl) ?_
            refine lv_iload_n hx hb dX11_pace_39 rfl (lv_at hl 3 rfl) ?_
            obtain ⟨k9, hk9⟩ := va_pl_get (X := gFx cy ad jf u) (f := u.2.2.2.2) ha
            refine g_calli (va_runU (As := [.int (zI p2)]) (rest := []) ⟨hx, hb, hml, hown, hts⟩ (kX3_strideIn_X4 l D cy ad jf A u a ((p1.toNat : Int)) (S9 p1.toNat) (L9 p1.toNat) (F9 p1.toNat) p2 ha hE (by omega) (by omega) (by omega)) (va_cwU 1 hts gX11_pace_X3_strideIn_u126X4 rfl rfl rfl rfl (by decide +kernel) ⟨by decide, by decide⟩) (g_preD (C := RX4) hG hC hS (hk9.trans (by rw [hE])) rfl) rfl rfl hl.1 rfl (lv_room (Nat.le_of_ble_eq_true rfl)) dX11_pace_40 ⟨Nat.le_of_ble_eq_true rfl, Nat.le_of_ble_eq_true rfl⟩) hS (fun r63 u64 H locs p_65 hG hS => ?_)
            obtain ⟨rfl, he_⟩ := p_65
            rw [he_] at hG; clear he_
            obtain ⟨z66, hz66⟩ : ∃ z : Int, z = spPace 2 (S9 p1.toNat) (F9 p1.toNat) p2 := ⟨_, rfl⟩
            rw [← hz66]
            have qz66 : 0 ≤ z66 ∧ z66 ≤ 24 := by rw [hz66]; (first | omega | (unfold spAt1; split <;> omega) | (unfold spAt1; split <;> split <;> omega) | (split <;> first | omega | (unfold spAt1; split <;> omega)) | (unfold spPace spPc spAt1; split <;> (first | omega | (split <;> first | omega | (split <;> omega)))))
            refine lv_goto (tgt := 56) hx hb dX11_pace_43 (by decide) ?_
            exact W.iret (v := zI z66) hx hb hr (fun t9 ht9_ hW => ⟨⟨zI z66, u, rfl, (by refine ⟨?_, rfl⟩; unfold cPace; (repeat (first | rw [if_pos (by omega)] | rw [if_neg (by omega)])); all_goals (first | rfl | (rw [hk0]; subst_vars; first | rfl | (unfold spCold; (repeat (first | rw [if_pos (by omega)] | rw [if_neg (by omega)])); all_goals rfl)))), gB.mk' hG hC hS ht9_ hW⟩, hS.F ht9_⟩) hS.2.2 dX11_pace_56
        · refine z_iconst hx hb dX11_pace_31 ?_
          exact W.iret (v := zI ((-1))) hx hb hr (fun t9 ht9_ hW => ⟨⟨zI ((-1)), u, rfl, (by refine ⟨?_, rfl⟩; unfold cPace; (repeat (first | rw [if_pos (by omega)] | rw [if_neg (by omega)])); all_goals (first | rfl | (rw [hk0]; subst_vars; first | rfl | (unfold spCold; (repeat (first | rw [if_pos (by omega)] | rw [if_neg (by omega)])); all_goals rfl)))), gB.mk' hG hC hS ht9_ hW⟩, hS.F ht9_⟩) hS.2.2 dX11_pace_32
    · have hE : u.2.2.2.2 a = .inr (5, [.int (zI (p1.toNat : Int)), .int (zI (S9 p1.toNat)), .int (zI (L9 p1.toNat)), .int (zI (F9 p1.toNat))]) := by rw [hE0, hk0]; rfl
      simp only [va_rf]
      refine lv_astore (lv' := [(4, .ref a), (0, .ref (ad 0)), (1, .int (zI p1)), (2, .int (zI p2)), (3, .int (zI p3))]) hx hb dX11_pace_5 hl (by decide) rfl (fun ls hl => ?_)
      refine lv_aload hx hb dX11_pace_7 (lv_at hl 0 rfl) ?_
      refine lv_ifnull hx hb dX11_pace_9 ?_
      refine lv_iload_n hx hb dX11_pace_12 rfl (lv_at hl 3 rfl) ?_
      refine z_iconst hx hb dX11_pace_13 ?_
      refine z_bipush hx hb dX11_pace_14 (by decide) ?_
      refine g_calli (va_runS (As := [.int (zI p2), .int (zI 0), .int (zI 99)]) (rest := []) ⟨hx, hb, hml, hown, hts⟩ (kX11_isWithin l D cy ad jf A u p2 0 99 (by omega) (by omega) (by omega)) (va_cwS 3 hts gX11_pace_X11_isWithin rfl rfl rfl (by decide +kernel) ⟨by decide, by decide⟩) (g_preS hG hC hS) rfl rfl hl.1 rfl (lv_room (Nat.le_of_ble_eq_true rfl)) dX11_pace_16 ⟨Nat.le_of_ble_eq_true rfl, Nat.le_of_ble_eq_true rfl⟩) hS (fun r67 u68 H locs p_69 hG hS => ?_)
      obtain ⟨⟨b70, rfl, q_71⟩, he_⟩ := p_69
      rw [he_] at hG; clear he_
      have hbb70 : 0 ≤ b70 ∧ b70 ≤ 1 := by rcases q_71 with ⟨h, _⟩ | ⟨h, _⟩ <;> omega
      refine z_if_eq (tgt := 31) hx hb dX11_pace_19 (by decide) (by omega) (by omega) (fun c_72 => ?_) (fun c_72 => ?_)
      · refine z_iconst hx hb dX11_pace_31 ?_
        exact W.iret (v := zI ((-1))) hx hb hr (fun t9 ht9_ hW => ⟨⟨zI ((-1)), u, rfl, (by refine ⟨?_, rfl⟩; unfold cPace; (repeat (first | rw [if_pos (by omega)] | rw [if_neg (by omega)])); all_goals (first | rfl | (rw [hk0]; subst_vars; first | rfl | (unfold spCold; (repeat (first | rw [if_pos (by omega)] | rw [if_neg (by omega)])); all_goals rfl)))), gB.mk' hG hC hS ht9_ hW⟩, hS.F ht9_⟩) hS.2.2 dX11_pace_32
      · refine lv_iload_n hx hb dX11_pace_22 rfl (lv_at hl 4 rfl) ?_
        refine z_iconst hx hb dX11_pace_23 ?_
        refine z_iconst hx hb dX11_pace_24 ?_
        refine g_calli (va_runS (As := [.int (zI p3), .int (zI 0), .int (zI 1)]) (rest := []) ⟨hx, hb, hml, hown, hts⟩ (kX11_isWithin l D cy ad jf A u p3 0 1 (by omega) (by omega) (by omega)) (va_cwS 3 hts gX11_pace_X11_isWithin rfl rfl rfl (by decide +kernel) ⟨by decide, by decide⟩) (g_preS hG hC hS) rfl rfl hl.1 rfl (lv_room (Nat.le_of_ble_eq_true rfl)) dX11_pace_25 ⟨Nat.le_of_ble_eq_true rfl, Nat.le_of_ble_eq_true rfl⟩) hS (fun r73 u74 H locs p_75 hG hS => ?_)
        obtain ⟨⟨b76, rfl, q_77⟩, he_⟩ := p_75
        rw [he_] at hG; clear he_
        have hbb76 : 0 ≤ b76 ∧ b76 ≤ 1 := by rcases q_77 with ⟨h, _⟩ | ⟨h, _⟩ <;> omega
        refine z_if_ne (tgt := 33) hx hb dX11_pace_28 (by decide) (by omega) (by omega) (fun c_78 => ?_) (fun c_78 => ?_)
        · refine lv_iload_n hx hb dX11_pace_33 rfl (lv_at hl 4 rfl) ?_
          refine z_if_ne (tgt := 46) hx hb dX11_pace_34 (by decide) (by omega) (by omega) (fun c_79 => ?_) (fun c_79 => ?_)
          · refine lv_aload hx hb dX11_pace_46 (lv_at hl 0 rfl) ?_
            refine lv_iload_n hx hb dX11_pace_48 rfl (lv_at hl 3 rfl) ?_
            refine lv_aload_n hx hb dX11_pace_49 rfl (lv_at hl 1 rfl) ?_
            refine g_get (C := RX11) (T := TX11) (N := 14) (ci := 10) hx hb hts (fun _ h => (List.mem_cons_of_mem _ (List.mem_append_left _ (List.mem_append_left _ (List.mem_append_left _ (List.mem_append_left _ (List.mem_append_right _ h))))))) hown hC.1 hG 0 (by decide) rfl rfl 3 (by decide) (hts (.fieldLink RX11 26 "StraitSwim" "chill" "I") (List.mem_cons_of_mem _ (List.mem_append_left _ (List.mem_append_left _ (List.mem_append_left _ (List.mem_append_left _ (List.mem_append_left _ (List.mem_append_left _ (List.mem_of_getElem? (i := 0) rfl))))))))) (fun _ h9 => h9) rfl dX11_pace_50 ?_
            obtain ⟨k9, hk9⟩ := va_pl_get (X := gFx cy ad jf u) (f := u.2.2.2.2) ha
            refine g_calli (va_runU (As := [.int (zI p2), .int (zI (u.1 1))]) (rest := []) ⟨hx, hb, hml, hown, hts⟩ (kX6_coldIn_X6 l D cy ad jf A u a ((p1.toNat : Int)) (S9 p1.toNat) (L9 p1.toNat) (F9 p1.toNat) p2 (u.1 1) ha hE (by omega) (by omega)) (va_cwO 2 hts gX11_pace_X6_coldIn_u130X6 rfl rfl rfl (List.mem_cons_of_mem _ (List.mem_append_left _ (List.mem_append_left _ (List.mem_append_left _ (List.mem_append_left _ (List.mem_append_left _ (List.mem_append_right _ (List.mem_append_right _ (List.mem_append_left _ (List.mem_of_getElem? (i := 15) rfl)))))))))) (by decide +kernel) ⟨by decide, by decide⟩) (g_preD (C := RX6) hG hC hS (hk9.trans (by rw [hE])) rfl) rfl rfl hl.1 rfl (lv_room (Nat.le_of_ble_eq_true rfl)) dX11_pace_53 ⟨Nat.le_of_ble_eq_true rfl, Nat.le_of_ble_eq_true rfl⟩) hS (fun r80 u81 H locs p_82 hG hS => ?_)
            obtain ⟨rfl, he_⟩ := p_82
            rw [he_] at hG; clear he_
            obtain ⟨z83, hz83⟩ : ∃ z : Int, z = spAt1 (spAt1 ((u.1 1) + p2 / 8 - 2) / 2) := ⟨_, rfl⟩
            rw [← hz83]
            have qz83 : 1 ≤ z83 ∧ z83 ≤ 145 := by rw [hz83]; (first | omega | (unfold spAt1; split <;> omega) | (unfold spAt1; split <;> split <;> omega) | (split <;> first | omega | (unfold spAt1; split <;> omega)) | (unfold spPace spPc spAt1; split <;> (first | omega | (split <;> first | omega | (split <;> omega)))))
            exact W.iret (v := zI z83) hx hb hr (fun t9 ht9_ hW => ⟨⟨zI z83, u, rfl, (by refine ⟨?_, rfl⟩; unfold cPace; (repeat (first | rw [if_pos (by omega)] | rw [if_neg (by omega)])); all_goals (first | rfl | (rw [hk0]; subst_vars; first | rfl | (unfold spCold; (repeat (first | rw [if_pos (by omega)] | rw [if_neg (by omega)])); all_goals rfl)))), gB.mk' hG hC hS ht9_ hW⟩, hS.F ht9_⟩) hS.2.2 dX11_pace_56
          · refine lv_aload hx hb dX11_pace_37 (lv_at hl 0 rfl) ?_
            refine lv_iload_n hx hb dX11_pace_39 rfl (lv_at hl 3 rfl) ?_
            obtain ⟨k9, hk9⟩ := va_pl_get (X := gFx cy ad jf u) (f := u.2.2.2.2) ha
            refine g_calli (va_runU (As := [.int (zI p2)]) (rest := []) ⟨hx, hb, hml, hown, hts⟩ (kX3_strideIn_X6 l D cy ad jf A u a ((p1.toNat : Int)) (S9 p1.toNat) (L9 p1.toNat) (F9 p1.toNat) p2 ha hE (by omega) (by omega) (by omega)) (va_cwU 1 hts gX11_pace_X3_strideIn_u126X6 rfl rfl rfl rfl (by decide +kernel) ⟨by decide, by decide⟩) (g_preD (C := RX6) hG hC hS (hk9.trans (by rw [hE])) rfl) rfl rfl hl.1 rfl (lv_room (Nat.le_of_ble_eq_true rfl)) dX11_pace_40 ⟨Nat.le_of_ble_eq_true rfl, Nat.le_of_ble_eq_true rfl⟩) hS (fun r84 u85 H locs p_86 hG hS => ?_)
            obtain ⟨rfl, he_⟩ := p_86
            rw [he_] at hG; clear he_
            obtain ⟨z87, hz87⟩ : ∃ z : Int, z = spPace 3 (S9 p1.toNat) (F9 p1.toNat) p2 := ⟨_, rfl⟩
            rw [← hz87]
            have qz87 : 0 ≤ z87 ∧ z87 ≤ 24 := by rw [hz87]; (first | omega | (unfold spAt1; split <;> omega) | (unfold spAt1; split <;> split <;> omega) | (split <;> first | omega | (unfold spAt1; split <;> omega)) | (unfold spPace spPc spAt1; split <;> (first | omega | (split <;> first | omega | (split <;> omega)))))
            refine lv_goto (tgt := 56) hx hb dX11_pace_43 (by decide) ?_
            exact W.iret (v := zI z87) hx hb hr (fun t9 ht9_ hW => ⟨⟨zI z87, u, rfl, (by refine ⟨?_, rfl⟩; unfold cPace; (repeat (first | rw [if_pos (by omega)] | rw [if_neg (by omega)])); all_goals (first | rfl | (rw [hk0]; subst_vars; first | rfl | (unfold spCold; (repeat (first | rw [if_pos (by omega)] | rw [if_neg (by omega)])); all_goals rfl)))), gB.mk' hG hC hS ht9_ hW⟩, hS.F ht9_⟩) hS.2.2 dX11_pace_56
        · refine z_iconst hx hb dX11_pace_31 ?_
          exact W.iret (v := zI ((-1))) hx hb hr (fun t9 ht9_ hW => ⟨⟨zI ((-1)), u, rfl, (by refine ⟨?_, rfl⟩; unfold cPace; (repeat (first | rw [if_pos (by omega)] | rw [if_neg (by omega)])); all_goals (first | rfl | (rw [hk0]; subst_vars; first | rfl | (unfold spCold; (repeat (first | rw [if_pos (by omega)] | rw [if_neg (by omega)])); all_goals rfl)))), gB.mk' hG hC hS ht9_ hW⟩, hS.F ht9_⟩) hS.2.2 dX11_pace_32
  · rw [if_neg hk_] at hr_
    subst hr_
    simp only [va_rf]
    refine lv_astoreN (lv' := [(4, .null), (0, .ref (ad 0)), (1, .int (zI p1)), (2, .int (zI p2)), (3, .int (zI p3))]) hx hb dX11_pace_5 hl (by decide) rfl (fun ls hl => ?_)
    refine lv_aloadN hx hb dX11_pace_7 (lv_at hl 0 rfl) ?_
    refine lv_ifnullN (tgt := 31) hx hb dX11_pace_9 (by decide) ?_
    refine z_iconst hx hb dX11_pace_31 ?_
    exact W.iret (v := zI ((-1))) hx hb hr (fun t9 ht9_ hW => ⟨⟨zI ((-1)), u, rfl, (by refine ⟨?_, rfl⟩; unfold cPace; (repeat (first | rw [if_pos (by omega)] | rw [if_neg (by omega)])); all_goals (first | rfl | (rw [hk0]; subst_vars; first | rfl | (unfold spCold; (repeat (first | rw [if_pos (by omega)] | rw [if_neg (by omega)])); all_goals rfl)))), gB.mk' hG hC hS ht9_ hW⟩, hS.F ht9_⟩) hS.2.2 dX11_pace_32
set_option maxHeartbeats 4000000 in
set_option maxRecDepth 100000 in
theorem kX11_turn (l : Launch) (D : va_G) (cy : Nat → ClassId) (ad : Nat → Nat) (jf : Nat → Int64) (A : Nat → Prop) (u : gS) (p1 : Int) (j_p1 : -2147483648 ≤ p1 ∧ p1 < 2147483648) (i0 : 0 ≤ u.1 0 ∧ u.1 0 ≤ 10) (i16 : 0 ≤ u.1 16 ∧ u.1 16 ≤ 6) (i17 : 0 ≤ u.1 17 ∧ u.1 17 ≤ 40) (K S9 L9 F9 : Nat → Int) (hsw : ∀ j : Nat, (j : Int) < u.1 0 → ∃ a, swAt u j a (K j) (S9 j) (L9 j) (F9 j)) : Met l yX11_turn wsX11_turn ({ frames := 2, cells := 0, slots := 0, locals := 43 }) (va_Pc [.ref (ad 0), .int (zI p1)] (gB D cy ad jf A u)) (va_Qi (fun (r : Int32) (v : gS) => r = zI (cTurnN u p1).1 ∧ v = (cTurnN u p1).2) (gB D cy ad jf A) A) 0 0 A := by
  refine Met.ofW (cc := cX11_turn) (maxL := 2) (ret := (some .int)) (by decide) rfl ?_
  intro p e s m args below meth c s₁ B hml hv
  obtain ⟨rfl, hG, hC⟩ := hv
  have hx := B.exec
  have hb := B.bytes
  have hr := B.returns
  have hts := atoms_spec (ws := wsX11_turn) B.pre
  have hown : s.vm.findClass RX11 = some m.cls := findClass_of_methodNamed B.named
  have hlocks := B.notSynchronized
  have hS : va_S A s.heap s.heap [] := va_S.rf
  have hl := lv_entry ([.ref (ad 0), .int (zI p1)]) (n := 2) (Nat.le_of_ble_eq_true rfl)
  rw [lg_entry_eq]
  generalize (lg_sl ([.ref (ad 0), .int (zI p1)]) ++ List.replicate (2 - (lg_sl ([.ref (ad 0), .int (zI p1)])).length) Slot.unset).toArray = ls at hl ⊢
  have hl : lv_has ls 2 [(0, .ref (ad 0)), (1, .int (zI p1))] := hl
  refine lv_aload_n hx hb dX11_turn_0 rfl (lv_at hl 0 rfl) ?_
  refine lv_iload_n hx hb dX11_turn_1 rfl (lv_at hl 1 rfl) ?_
  refine g_callq (va_runV (As := [.int (zI p1)]) (rest := []) ⟨hx, hb, hml, hown, hts⟩ (kX11_known l D cy ad jf A u p1 (by omega) i0) (cwV 1 hts gX11_turn_X11_known rfl rfl rfl (by decide +kernel) ⟨by decide, by decide⟩) (g_preV (C := RX11) hG hC hS 0 (by decide) rfl rfl) rfl rfl hl.1 rfl (lv_room (Nat.le_of_ble_eq_true rfl)) dX11_turn_2 ⟨Nat.le_of_ble_eq_true rfl, Nat.le_of_ble_eq_true rfl⟩) hS (fun r1 u2 H locs p_3 hG hS => ?_)
  obtain ⟨hr_, he_⟩ := p_3
  rw [he_] at hG; clear he_
  by_cases hk_ : 0 ≤ p1 ∧ p1 ≤ u.1 0 - 1
  · rw [if_pos hk_] at hr_
    obtain ⟨a, ha0, ha, hE0, hki, hsp, hli, hfd⟩ := hsw p1.toNat (by omega)
    rw [ha0] at hr_
    subst hr_
    simp only [va_rf]
    refine lv_ifnonnull (tgt := 10) hx hb dX11_turn_5 (by decide) ?_
    refine lv_aload_n hx hb dX11_turn_10 rfl (lv_at hl 0 rfl) ?_
    refine g_get (C := RX11) (T := TX11) (N := 14) (ci := 10) hx hb hts (fun _ h => (List.mem_cons_of_mem _ (List.mem_append_left _ (List.mem_append_right _ h)))) hown hC.1 hG 0 (by decide) rfl rfl 11 (by decide) (hts (.fieldLink RX11 63 "StraitSwim" "turns" "LStraitSwim$Tally;") (List.mem_cons_of_mem _ (List.mem_append_left _ (List.mem_append_left _ (List.mem_append_left _ (List.mem_of_getElem? (i := 0) rfl)))))) (fun _ h9 => h9) rfl dX11_turn_11 ?_
    refine g_calli (va_runV (As := []) (rest := []) ⟨hx, hb, hml, hown, hts⟩ (kX10_isFull_6 l D cy ad jf A u  (by omega)) (cwV 0 hts gX11_turn_X10_isFull rfl rfl rfl (by decide +kernel) ⟨by decide, by decide⟩) (g_preV (C := RX10) hG hC hS 6 (by decide) rfl rfl) rfl rfl hl.1 rfl (lv_room (Nat.le_of_ble_eq_true rfl)) dX11_turn_14 ⟨Nat.le_of_ble_eq_true rfl, Nat.le_of_ble_eq_true rfl⟩) hS (fun r4 u5 H locs p_6 hG hS => ?_)
    obtain ⟨⟨b7, rfl, q_8⟩, he_⟩ := p_6
    rw [he_] at hG; clear he_
    have hbb7 : 0 ≤ b7 ∧ b7 ≤ 1 := by rcases q_8 with ⟨h, _⟩ | ⟨h, _⟩ <;> omega
    refine z_if_eq (tgt := 23) hx hb dX11_turn_17 (by decide) (by omega) (by omega) (fun c_9 => ?_) (fun c_9 => ?_)
    · refine lv_aload_n hx hb dX11_turn_23 rfl (lv_at hl 0 rfl) ?_
      refine g_get (C := RX11) (T := TX11) (N := 14) (ci := 10) hx hb hts (fun _ h => (List.mem_cons_of_mem _ (List.mem_append_left _ (List.mem_append_right _ h)))) hown hC.1 hG 0 (by decide) rfl rfl 10 (by decide) (hts (.fieldLink RX11 60 "StraitSwim" "relay" "LStraitSwim$Tally;") (List.mem_cons_of_mem _ (List.mem_append_left _ (List.mem_append_left _ (List.mem_append_left _ (List.mem_of_getElem? (i := 1) rfl)))))) (fun _ h9 => h9) rfl dX11_turn_24 ?_
      refine g_get (C := RX10) (T := TX10) (N := 2) (ci := 9) hx hb hts (fun _ h => (List.mem_cons_of_mem _ (List.mem_append_right _ h))) hown hC.1 hG 5 (by decide) rfl rfl 1 (by decide) (hts (.fieldLink RX11 173 "StraitSwim$Tally" "size" "I") (List.mem_cons_of_mem _ (List.mem_append_left _ (List.mem_append_left _ (List.mem_append_left _ (List.mem_of_getElem? (i := 2) rfl)))))) (fun _ h9 => h9) rfl dX11_turn_27 ?_
      refine z_if_ne (tgt := 36) hx hb dX11_turn_30 (by decide) (by omega) (by omega) (fun c_10 => ?_) (fun c_10 => ?_)
      · refine lv_aload_n hx hb dX11_turn_36 rfl (lv_at hl 0 rfl) ?_
        refine g_get (C := RX11) (T := TX11) (N := 14) (ci := 10) hx hb hts (fun _ h => (List.mem_cons_of_mem _ (List.mem_append_left _ (List.mem_append_right _ h)))) hown hC.1 hG 0 (by decide) rfl rfl 11 (by decide) (hts (.fieldLink RX11 63 "StraitSwim" "turns" "LStraitSwim$Tally;") (List.mem_cons_of_mem _ (List.mem_append_left _ (List.mem_append_left _ (List.mem_append_left _ (List.mem_of_getElem? (i := 0) rfl)))))) (fun _ h9 => h9) rfl dX11_turn_37 ?_
        refine lv_iload_n hx hb dX11_turn_40 rfl (lv_at hl 1 rfl) ?_
        refine g_callv (va_runV (As := [.int (zI p1)]) (rest := []) ⟨hx, hb, hml, hown, hts⟩ (kX10_add_6 l D cy ad jf A u p1 (by omega)) (cwV 1 hts gX11_turn_X10_add rfl rfl rfl (by decide +kernel) ⟨by decide, by decide⟩) (g_preV (C := RX10) hG hC hS 6 (by decide) rfl rfl) rfl rfl hl.1 rfl (lv_room (Nat.le_of_ble_eq_true rfl)) dX11_turn_41 ⟨Nat.le_of_ble_eq_true rfl, Nat.le_of_ble_eq_true rfl⟩) hS (fun u12 H locs p_13 hG hS => ?_)
        refine lv_aload_n hx hb dX11_turn_44 rfl (lv_at hl 0 rfl) ?_
        refine g_get (C := RX11) (T := TX11) (N := 14) (ci := 10) hx hb hts (fun _ h => (List.mem_cons_of_mem _ (List.mem_append_left _ (List.mem_append_right _ h)))) hown hC.1 hG 0 (by decide) rfl rfl 11 (by decide) (hts (.fieldLink RX11 63 "StraitSwim" "turns" "LStraitSwim$Tally;") (List.mem_cons_of_mem _ (List.mem_append_left _ (List.mem_append_left _ (List.mem_append_left _ (List.mem_of_getElem? (i := 0) rfl)))))) (fun _ h9 => h9) rfl dX11_turn_45 ?_
        refine g_get (C := RX10) (T := TX10) (N := 2) (ci := 9) hx hb hts (fun _ h => (List.mem_cons_of_mem _ (List.mem_append_right _ h))) hown hC.1 hG 6 (by decide) rfl rfl 1 (by decide) (hts (.fieldLink RX11 173 "StraitSwim$Tally" "size" "I") (List.mem_cons_of_mem _ (List.mem_append_left _ (List.mem_append_left _ (List.mem_append_left _ (List.mem_of_getElem? (i := 2) rfl)))))) (fun _ h9 => h9) rfl dX11_turn_48 ?_
        have e_14 : u12.1 17 = (u.1 17) + 1 := by subst p_13; rfl
        rw [e_14]
        exact W.iret (v := zI ((u.1 17) + 1)) hx hb hr (fun t9 ht9_ hW => ⟨⟨zI ((u.1 17) + 1), u12, rfl, (by subst p_13; unfold cTurnN; (repeat (first | rw [if_pos (by omega)] | rw [if_neg (by omega)])); all_goals exact ⟨rfl, rfl⟩), gB.mk' hG hC hS ht9_ hW⟩, hS.F ht9_⟩) hS.2.2 dX11_turn_51
      · refine z_bipush hx hb dX11_turn_33 (by decide) ?_
        exact W.iret (v := zI ((-3))) hx hb hr (fun t9 ht9_ hW => ⟨⟨zI ((-3)), u, rfl, (by skip; unfold cTurnN; (repeat (first | rw [if_pos (by omega)] | rw [if_neg (by omega)])); all_goals exact ⟨rfl, rfl⟩), gB.mk' hG hC hS ht9_ hW⟩, hS.F ht9_⟩) hS.2.2 dX11_turn_35
    · refine z_bipush hx hb dX11_turn_20 (by decide) ?_
      exact W.iret (v := zI ((-2))) hx hb hr (fun t9 ht9_ hW => ⟨⟨zI ((-2)), u, rfl, (by skip; unfold cTurnN; (repeat (first | rw [if_pos (by omega)] | rw [if_neg (by omega)])); all_goals exact ⟨rfl, rfl⟩), gB.mk' hG hC hS ht9_ hW⟩, hS.F ht9_⟩) hS.2.2 dX11_turn_22
  · rw [if_neg hk_] at hr_
    subst hr_
    simp only [va_rf]
    refine lv_ifnonnullN hx hb dX11_turn_5 ?_
    refine z_iconst hx hb dX11_turn_8 ?_
    exact W.iret (v := zI ((-1))) hx hb hr (fun t9 ht9_ hW => ⟨⟨zI ((-1)), u, rfl, (by skip; unfold cTurnN; (repeat (first | rw [if_pos (by omega)] | rw [if_neg (by omega)])); all_goals exact ⟨rfl, rfl⟩), gB.mk' hG hC hS ht9_ hW⟩, hS.F ht9_⟩) hS.2.2 dX11_turn_9
set_option maxHeartbeats 4000000 in
set_option maxRecDepth 100000 in
theorem kX2_enter (l : Launch) (D : va_G) (cy : Nat → ClassId) (ad : Nat → Nat) (jf : Nat → Int64) (A : Nat → Prop) (u : gS) (p1 p2 p3 p4 : Int) (j_1 : 0 ≤ p1 ∧ p1 ≤ 9) (j_p2 : -2147483648 ≤ p2 ∧ p2 < 2147483648) (j_p3 : -2147483648 ≤ p3 ∧ p3 < 2147483648) (j_p4 : -2147483648 ≤ p4 ∧ p4 < 2147483648) (i25 : ∀ j, j < 10 → u.2.1 25 j = 0 ∨ u.2.1 25 j = 1) : Met l yX2_enter wsX2_enter ({ frames := 0, cells := 0, slots := 0, locals := 0 }) (va_Pc [.ref (ad 7), .int (zI p1), .int (zI p2), .int (zI p3), .int (zI p4)] (gB D cy ad jf A u)) (va_Qi (fun (r : Int32) (v : gS) => r = zI (cEnter u p1 p2 p3 p4).1 ∧ v = (cEnter u p1 p2 p3 p4).2) (gB D cy ad jf A) A) 0 0 A := by
  refine Met.ofW (cc := cX2_enter) (maxL := 6) (ret := (some .boolean)) (by decide) rfl ?_
  intro p e s m args below meth c s₁ B hml hv
  obtain ⟨rfl, hG, hC⟩ := hv
  have hx := B.exec
  have hb := B.bytes
  have hr := B.returns
  have hts := atoms_spec (ws := wsX2_enter) B.pre
  have hown : s.vm.findClass RX2 = some m.cls := findClass_of_methodNamed B.named
  have hlocks := B.notSynchronized
  have hS : va_S A s.heap s.heap [] := va_S.rf
  have hl := lv_entry ([.ref (ad 7), .int (zI p1), .int (zI p2), .int (zI p3), .int (zI p4)]) (n := 6) (Nat.le_of_ble_eq_true rfl)
  rw [lg_entry_eq]
  generalize (lg_sl ([.ref (ad 7), .int (zI p1), .int (zI p2), .int (zI p3), .int (zI p4)]) ++ List.replicate (6 - (lg_sl ([.ref (ad 7), .int (zI p1), .int (zI p2), .int (zI p3), .int (zI p4)])).length) Slot.unset).toArray = ls at hl ⊢
  have hl : lv_has ls 6 [(0, .ref (ad 7)), (1, .int (zI p1)), (2, .int (zI p2)), (3, .int (zI p3)), (4, .int (zI p4))] := hl
  refine lv_aload_n hx hb dX2_enter_0 rfl (lv_at hl 0 rfl) ?_
  refine g_get (C := RX2) (T := TX2) (N := 7) (ci := 1) hx hb hts (fun _ h => (List.mem_cons_of_mem _ (List.mem_append_right _ h))) hown hC.1 hG 7 (by decide) rfl rfl 1 (by decide) (hts (.fieldLink RX2 15 "StraitSwim$Neap" "entered" "[Z") (List.mem_cons_of_mem _ (List.mem_append_left _ (List.mem_of_getElem? (i := 0) rfl)))) (fun _ h9 => h9) rfl dX2_enter_1 ?_
  refine lv_iload_n hx hb dX2_enter_4 rfl (lv_at hl 1 rfl) ?_
  refine g_zald (n := 10) hx hb hC.1 hG 25 (by decide) rfl (by omega) (by omega) (by decide) dX2_enter_5 ?_
  have q_1 := i25 p1.toNat (by omega)
  refine z_if_ne (tgt := 13) hx hb dX2_enter_6 (by decide) (by omega) (by omega) (fun c_2 => ?_) (fun c_2 => ?_)
  · refine z_iconst hx hb dX2_enter_13 ?_
    refine lv_istore (lv' := [(5, .int (zI 0)), (0, .ref (ad 7)), (1, .int (zI p1)), (2, .int (zI p2)), (3, .int (zI p3)), (4, .int (zI p4))]) hx hb dX2_enter_14 hl (by decide) rfl (fun ls hl => ?_)
    refine lv_aload_n hx hb dX2_enter_16 rfl (lv_at hl 1 rfl) ?_
    refine g_get (C := RX2) (T := TX2) (N := 7) (ci := 1) hx hb hts (fun _ h => (List.mem_cons_of_mem _ (List.mem_append_right _ h))) hown hC.1 hG 7 (by decide) rfl rfl 1 (by decide) (hts (.fieldLink RX2 15 "StraitSwim$Neap" "entered" "[Z") (List.mem_cons_of_mem _ (List.mem_append_left _ (List.mem_of_getElem? (i := 0) rfl)))) (fun _ h9 => h9) rfl dX2_enter_17 ?_
    refine lv_iload_n hx hb dX2_enter_20 rfl (lv_at hl 2 rfl) ?_
    refine z_iconst hx hb dX2_enter_21 ?_
    refine g_zast (n := 10) hx hb hC.1 hG hS 25 (by decide) (by omega) rfl rfl (by omega) (by omega) (by decide) dX2_enter_22 (fun u3 H locs hu3 hG hS => ?_)
    refine lv_aload_n hx hb dX2_enter_23 rfl (lv_at hl 1 rfl) ?_
    refine g_get (C := RX2) (T := TX2) (N := 7) (ci := 1) hx hb hts (fun _ h => (List.mem_cons_of_mem _ (List.mem_append_right _ h))) hown hC.1 hG 7 (by decide) rfl rfl 2 (by decide) (hts (.fieldLink RX2 19 "StraitSwim$Neap" "pilots" "[I") (List.mem_cons_of_mem _ (List.mem_append_left _ (List.mem_of_getElem? (i := 1) rfl)))) (fun _ h9 => h9) rfl dX2_enter_24 ?_
    refine lv_iload_n hx hb dX2_enter_27 rfl (lv_at hl 2 rfl) ?_
    refine lv_iload_n hx hb dX2_enter_28 rfl (lv_at hl 3 rfl) ?_
    refine g_iast (n := 10) hx hb hC.1 hG hS 26 (by decide) rfl rfl (by omega) (by omega) (by decide) dX2_enter_29 (fun u4 H locs hu4 hG hS => ?_)
    refine lv_aload_n hx hb dX2_enter_30 rfl (lv_at hl 1 rfl) ?_
    refine g_get (C := RX2) (T := TX2) (N := 7) (ci := 1) hx hb hts (fun _ h => (List.mem_cons_of_mem _ (List.mem_append_right _ h))) hown hC.1 hG 7 (by decide) rfl rfl 3 (by decide) (hts (.fieldLink RX2 23 "StraitSwim$Neap" "slots" "[I") (List.mem_cons_of_mem _ (List.mem_append_left _ (List.mem_of_getElem? (i := 2) rfl)))) (fun _ h9 => h9) rfl dX2_enter_31 ?_
    refine lv_iload_n hx hb dX2_enter_34 rfl (lv_at hl 2 rfl) ?_
    refine lv_iload_n hx hb dX2_enter_35 rfl (lv_at hl 4 rfl) ?_
    refine g_iast (n := 10) hx hb hC.1 hG hS 27 (by decide) rfl rfl (by omega) (by omega) (by decide) dX2_enter_36 (fun u5 H locs hu5 hG hS => ?_)
    refine lv_aload_n hx hb dX2_enter_37 rfl (lv_at hl 1 rfl) ?_
    refine g_get (C := RX2) (T := TX2) (N := 7) (ci := 1) hx hb hts (fun _ h => (List.mem_cons_of_mem _ (List.mem_append_right _ h))) hown hC.1 hG 7 (by decide) rfl rfl 4 (by decide) (hts (.fieldLink RX2 26 "StraitSwim$Neap" "days" "[I") (List.mem_cons_of_mem _ (List.mem_append_left _ (List.mem_of_getElem? (i := 3) rfl)))) (fun _ h9 => h9) rfl dX2_enter_38 ?_
    refine lv_iload_n hx hb dX2_enter_41 rfl (lv_at hl 2 rfl) ?_
    refine lv_iload hx hb dX2_enter_42 (lv_at hl 5 rfl) ?_
    refine g_iast (n := 10) hx hb hC.1 hG hS 28 (by decide) rfl rfl (by omega) (by omega) (by decide) dX2_enter_44 (fun u6 H locs hu6 hG hS => ?_)
    refine lv_iload hx hb dX2_enter_45 (lv_at hl 0 rfl) ?_
    exact W.zret (ty := .boolean) (v := zI 0) hx hb hr (nar_b (by omega)) (fun t9 ht9_ hW => ⟨⟨zI 0, u6, rfl, (by subst hu6; subst hu5; subst hu4; subst hu3; refine ⟨?_, ?_⟩ <;> unfold cEnter <;> (repeat (first | rw [if_pos (by omega)] | rw [if_neg (by omega)])) <;> first | done | rfl | (congr 1; omega) | (subst_vars; rfl)), gB.mk' hG hC hS ht9_ hW⟩, hS.F ht9_⟩) hS.2.2 dX2_enter_47
  · refine z_iconst hx hb dX2_enter_9 ?_
    refine lv_goto (tgt := 14) hx hb dX2_enter_10 (by decide) ?_
    refine lv_istore (lv' := [(5, .int (zI 1)), (0, .ref (ad 7)), (1, .int (zI p1)), (2, .int (zI p2)), (3, .int (zI p3)), (4, .int (zI p4))]) hx hb dX2_enter_14 hl (by decide) rfl (fun ls hl => ?_)
    refine lv_aload_n hx hb dX2_enter_16 rfl (lv_at hl 1 rfl) ?_
    refine g_get (C := RX2) (T := TX2) (N := 7) (ci := 1) hx hb hts (fun _ h => (List.mem_cons_of_mem _ (List.mem_append_right _ h))) hown hC.1 hG 7 (by decide) rfl rfl 1 (by decide) (hts (.fieldLink RX2 15 "StraitSwim$Neap" "entered" "[Z") (List.mem_cons_of_mem _ (List.mem_append_left _ (List.mem_of_getElem? (i := 0) rfl)))) (fun _ h9 => h9) rfl dX2_enter_17 ?_
    refine lv_iload_n hx hb dX2_enter_20 rfl (lv_at hl 2 rfl) ?_
    refine z_iconst hx hb dX2_enter_21 ?_
    refine g_zast (n := 10) hx hb hC.1 hG hS 25 (by decide) (by omega) rfl rfl (by omega) (by omega) (by decide) dX2_enter_22 (fun u7 H locs hu7 hG hS => ?_)
    refine lv_aload_n hx hb dX2_enter_23 rfl (lv_at hl 1 rfl) ?_
    refine g_get (C := RX2) (T := TX2) (N := 7) (ci := 1) hx hb hts (fun _ h => (List.mem_cons_of_mem _ (List.mem_append_right _ h))) hown hC.1 hG 7 (by decide) rfl rfl 2 (by decide) (hts (.fieldLink RX2 19 "StraitSwim$Neap" "pilots" "[I") (List.mem_cons_of_mem _ (List.mem_append_left _ (List.mem_of_getElem? (i := 1) rfl)))) (fun _ h9 => h9) rfl dX2_enter_24 ?_
    refine lv_iload_n hx hb dX2_enter_27 rfl (lv_at hl 2 rfl) ?_
    refine lv_iload_n hx hb dX2_enter_28 rfl (lv_at hl 3 rfl) ?_
    refine g_iast (n := 10) hx hb hC.1 hG hS 26 (by decide) rfl rfl (by omega) (by omega) (by decide) dX2_enter_29 (fun u8 H locs hu8 hG hS => ?_)
    refine lv_aload_n hx hb dX2_enter_30 rfl (lv_at hl 1 rfl) ?_
    refine g_get (C := RX2) (T := TX2) (N := 7) (ci := 1) hx hb hts (fun _ h => (List.mem_cons_of_mem _ (List.mem_append_right _ h))) hown hC.1 hG 7 (by decide) rfl rfl 3 (by decide) (hts (.fieldLink RX2 23 "StraitSwim$Neap" "slots" "[I") (List.mem_cons_of_mem _ (List.mem_append_left _ (List.mem_of_getElem? (i := 2) rfl)))) (fun _ h9 => h9) rfl dX2_enter_31 ?_
    refine lv_iload_n hx hb dX2_enter_34 rfl (lv_at hl 2 rfl) ?_
    refine lv_iload_n hx hb dX2_enter_35 rfl (lv_at hl 4 rfl) ?_
    refine g_iast (n := 10) hx hb hC.1 hG hS 27 (by decide) rfl rfl (by omega) (by omega) (by decide) dX2_enter_36 (fun u9 H locs hu9 hG hS => ?_)
    refine lv_aload_n hx hb dX2_enter_37 rfl (lv_at hl 1 rfl) ?_
    refine g_get (C := RX2) (T := TX2) (N := 7) (ci := 1) hx hb hts (fun _ h => (List.mem_cons_of_mem _ (List.mem_append_right _ h))) hown hC.1 hG 7 (by decide) rfl rfl 4 (by decide) (hts (.fieldLink RX2 26 "StraitSwim$Neap" "days" "[I") (List.mem_cons_of_mem _ (List.mem_append_left _ (List.mem_of_getElem? (i := 3) rfl)))) (fun _ h9 => h9) rfl dX2_enter_38 ?_
    refine lv_iload_n hx hb dX2_enter_41 rfl (lv_at hl 2 rfl) ?_
    refine lv_iload hx hb dX2_enter_42 (lv_at hl 5 rfl) ?_
    refine g_iast (n := 10) hx hb hC.1 hG hS 28 (by decide) rfl rfl (by omega) (by omega) (by decide) dX2_enter_44 (fun u10 H locs hu10 hG hS => ?_)
    refine lv_iload hx hb dX2_enter_45 (lv_at hl 0 rfl) ?_
    exact W.zret (ty := .boolean) (v := zI 1) hx hb hr (nar_b (by omega)) (fun t9 ht9_ hW => ⟨⟨zI 1, u10, rfl, (by subst hu10; subst hu9; subst hu8; subst hu7; refine ⟨?_, ?_⟩ <;> unfold cEnter <;> (repeat (first | rw [if_pos (by omega)] | rw [if_neg (by omega)])) <;> first | done | rfl | (congr 1; omega) | (subst_vars; rfl)), gB.mk' hG hC hS ht9_ hW⟩, hS.F ht9_⟩) hS.2.2 dX2_enter_47
set_option maxHeartbeats 4000000 in
set_option maxRecDepth 100000 in
theorem kX11_slot (l : Launch) (D : va_G) (cy : Nat → ClassId) (ad : Nat → Nat) (jf : Nat → Int64) (A : Nat → Prop) (u : gS) (p1 p2 p3 p4 : Int) (j_p1 : -2147483648 ≤ p1 ∧ p1 < 2147483648) (j_p2 : -2147483648 ≤ p2 ∧ p2 < 2147483648) (j_p3 : -2147483648 ≤ p3 ∧ p3 < 2147483648) (j_p4 : -2147483648 ≤ p4 ∧ p4 < 2147483648) (i0 : 0 ≤ u.1 0 ∧ u.1 0 ≤ 10) (i25 : ∀ j, j < 10 → u.2.1 25 j = 0 ∨ u.2.1 25 j = 1) (K S9 L9 F9 : Nat → Int) (hsw : ∀ j : Nat, (j : Int) < u.1 0 → ∃ a, swAt u j a (K j) (S9 j) (L9 j) (F9 j)) : Met l yX11_slot wsX11_slot ({ frames := 2, cells := 0, slots := 0, locals := 43 }) (va_Pc [.ref (ad 0), .int (zI p1), .int (zI p2), .int (zI p3), .int (zI p4)] (gB D cy ad jf A u)) (va_Qi (fun (r : Int32) (v : gS) => r = zI (cSlot u p1 p2 p3 p4).1 ∧ v = (cSlot u p1 p2 p3 p4).2) (gB D cy ad jf A) A) 0 0 A := by
  refine Met.ofW (cc := cX11_slot) (maxL := 5) (ret := (some .int)) (by decide) rfl ?_
  intro p e s m args below meth c s₁ B hml hv
  obtain ⟨rfl, hG, hC⟩ := hv
  have hx := B.exec
  have hb := B.bytes
  have hr := B.returns
  have hts := atoms_spec (ws := wsX11_slot) B.pre
  have hown : s.vm.findClass RX11 = some m.cls := findClass_of_methodNamed B.named
  have hlocks := B.notSynchronized
  have hS : va_S A s.heap s.heap [] := va_S.rf
  have hl := lv_entry ([.ref (ad 0), .int (zI p1), .int (zI p2), .int (zI p3), .int (zI p4)]) (n := 5) (Nat.le_of_ble_eq_true rfl)
  rw [lg_entry_eq]
  generalize (lg_sl ([.ref (ad 0), .int (zI p1), .int (zI p2), .int (zI p3), .int (zI p4)]) ++ List.replicate (5 - (lg_sl ([.ref (ad 0), .int (zI p1), .int (zI p2), .int (zI p3), .int (zI p4)])).length) Slot.unset).toArray = ls at hl ⊢
  have hl : lv_has ls 5 [(0, .ref (ad 0)), (1, .int (zI p1)), (2, .int (zI p2)), (3, .int (zI p3)), (4, .int (zI p4))] := hl
  refine lv_aload_n hx hb dX11_slot_0 rfl (lv_at hl 0 rfl) ?_
  refine lv_iload_n hx hb dX11_slot_1 rfl (lv_at hl 1 rfl) ?_
  refine g_callq (va_runV (As := [.int (zI p1)]) (rest := []) ⟨hx, hb, hml, hown, hts⟩ (kX11_known l D cy ad jf A u p1 (by omega) i0) (cwV 1 hts gX11_slot_X11_known rfl rfl rfl (by decide +kernel) ⟨by decide, by decide⟩) (g_preV (C := RX11) hG hC hS 0 (by decide) rfl rfl) rfl rfl hl.1 rfl (lv_room (Nat.le_of_ble_eq_true rfl)) dX11_slot_2 ⟨Nat.le_of_ble_eq_true rfl, Nat.le_of_ble_eq_true rfl⟩) hS (fun r1 u2 H locs p_3 hG hS => ?_)
  obtain ⟨hr_, he_⟩ := p_3
  rw [he_] at hG; clear he_
  by_cases hk_ : 0 ≤ p1 ∧ p1 ≤ u.1 0 - 1
  · rw [if_pos hk_] at hr_
    obtain ⟨a, ha0, ha, hE0, hki, hsp, hli, hfd⟩ := hsw p1.toNat (by omega)
    rw [ha0] at hr_
    subst hr_
    simp only [va_rf]
    refine lv_ifnull hx hb dX11_slot_5 ?_
    refine lv_iload_n hx hb dX11_slot_8 rfl (lv_at hl 2 rfl) ?_
    refine z_iconst hx hb dX11_slot_9 ?_
    refine z_iconst hx hb dX11_slot_10 ?_
    refine g_calli (va_runS (As := [.int (zI p2), .int (zI 0), .int (zI 3)]) (rest := []) ⟨hx, hb, hml, hown, hts⟩ (kX11_isWithin l D cy ad jf A u p2 0 3 (by omega) (by omega) (by omega)) (va_cwS 3 hts gX11_slot_X11_isWithin rfl rfl rfl (by decide +kernel) ⟨by decide, by decide⟩) (g_preS hG hC hS) rfl rfl hl.1 rfl (lv_room (Nat.le_of_ble_eq_true rfl)) dX11_slot_11 ⟨Nat.le_of_ble_eq_true rfl, Nat.le_of_ble_eq_true rfl⟩) hS (fun r4 u5 H locs p_6 hG hS => ?_)
    obtain ⟨⟨b7, rfl, q_8⟩, he_⟩ := p_6
    rw [he_] at hG; clear he_
    have hbb7 : 0 ≤ b7 ∧ b7 ≤ 1 := by rcases q_8 with ⟨h, _⟩ | ⟨h, _⟩ <;> omega
    refine z_if_eq (tgt := 37) hx hb dX11_slot_14 (by decide) (by omega) (by omega) (fun c_9 => ?_) (fun c_9 => ?_)
    · refine z_iconst hx hb dX11_slot_37 ?_
      exact W.iret (v := zI ((-1))) hx hb hr (fun t9 ht9_ hW => ⟨⟨zI ((-1)), u, rfl, (by unfold cSlot; rw [if_neg (by omega)]; exact ⟨rfl, rfl⟩), gB.mk' hG hC hS ht9_ hW⟩, hS.F ht9_⟩) hS.2.2 dX11_slot_38
    · refine lv_iload_n hx hb dX11_slot_17 rfl (lv_at hl 3 rfl) ?_
      refine z_iconst hx hb dX11_slot_18 ?_
      refine z_iconst hx hb dX11_slot_19 ?_
      refine g_calli (va_runS (As := [.int (zI p3), .int (zI 1), .int (zI 4)]) (rest := []) ⟨hx, hb, hml, hown, hts⟩ (kX11_isWithin l D cy ad jf A u p3 1 4 (by omega) (by omega) (by omega)) (va_cwS 3 hts gX11_slot_X11_isWithin rfl rfl rfl (by decide +kernel) ⟨by decide, by decide⟩) (g_preS hG hC hS) rfl rfl hl.1 rfl (lv_room (Nat.le_of_ble_eq_true rfl)) dX11_slot_20 ⟨Nat.le_of_ble_eq_true rfl, Nat.le_of_ble_eq_true rfl⟩) hS (fun r10 u11 H locs p_12 hG hS => ?_)
      obtain ⟨⟨b13, rfl, q_14⟩, he_⟩ := p_12
      rw [he_] at hG; clear he_
      have hbb13 : 0 ≤ b13 ∧ b13 ≤ 1 := by rcases q_14 with ⟨h, _⟩ | ⟨h, _⟩ <;> omega
      refine z_if_eq (tgt := 37) hx hb dX11_slot_23 (by decide) (by omega) (by omega) (fun c_15 => ?_) (fun c_15 => ?_)
      · refine z_iconst hx hb dX11_slot_37 ?_
        exact W.iret (v := zI ((-1))) hx hb hr (fun t9 ht9_ hW => ⟨⟨zI ((-1)), u, rfl, (by unfold cSlot; rw [if_neg (by omega)]; exact ⟨rfl, rfl⟩), gB.mk' hG hC hS ht9_ hW⟩, hS.F ht9_⟩) hS.2.2 dX11_slot_38
      · refine lv_iload hx hb dX11_slot_26 (lv_at hl 4 rfl) ?_
        refine z_iconst hx hb dX11_slot_28 ?_
        refine lv_ldc (v := zI 65535) hx hb hown (by rw [show zI 65535 = (65535 : Int32) by decide]; exact (hts (.constant RX11 191 (65535)) (List.mem_cons_of_mem _ (List.mem_append_left _ (List.mem_append_left _ (List.mem_of_getElem? (i := 0) rfl)))))) dX11_slot_29 ?_
        refine g_calli (va_runS (As := [.int (zI p4), .int (zI 0), .int (zI 65535)]) (rest := []) ⟨hx, hb, hml, hown, hts⟩ (kX11_isWithin l D cy ad jf A u p4 0 65535 (by omega) (by omega) (by omega)) (va_cwS 3 hts gX11_slot_X11_isWithin rfl rfl rfl (by decide +kernel) ⟨by decide, by decide⟩) (g_preS hG hC hS) rfl rfl hl.1 rfl (lv_room (Nat.le_of_ble_eq_true rfl)) dX11_slot_31 ⟨Nat.le_of_ble_eq_true rfl, Nat.le_of_ble_eq_true rfl⟩) hS (fun r16 u17 H locs p_18 hG hS => ?_)
        obtain ⟨⟨b19, rfl, q_20⟩, he_⟩ := p_18
        rw [he_] at hG; clear he_
        have hbb19 : 0 ≤ b19 ∧ b19 ≤ 1 := by rcases q_20 with ⟨h, _⟩ | ⟨h, _⟩ <;> omega
        refine z_if_ne (tgt := 39) hx hb dX11_slot_34 (by decide) (by omega) (by omega) (fun c_21 => ?_) (fun c_21 => ?_)
        · refine lv_aload_n hx hb dX11_slot_39 rfl (lv_at hl 0 rfl) ?_
          refine g_get (C := RX11) (T := TX11) (N := 14) (ci := 10) hx hb hts (fun _ h => (List.mem_cons_of_mem _ (List.mem_append_left _ (List.mem_append_right _ h)))) hown hC.1 hG 0 (by decide) rfl rfl 12 (by decide) (hts (.fieldLink RX11 69 "StraitSwim" "neap" "LStraitSwim$Neap;") (List.mem_cons_of_mem _ (List.mem_append_left _ (List.mem_append_left _ (List.mem_of_getElem? (i := 1) rfl))))) (fun _ h9 => h9) rfl dX11_slot_40 ?_
          refine lv_iload_n hx hb dX11_slot_43 rfl (lv_at hl 1 rfl) ?_
          refine lv_iload_n hx hb dX11_slot_44 rfl (lv_at hl 2 rfl) ?_
          refine lv_iload_n hx hb dX11_slot_45 rfl (lv_at hl 3 rfl) ?_
          refine lv_iload hx hb dX11_slot_46 (lv_at hl 4 rfl) ?_
          refine g_calli (va_runV (As := [.int (zI p1), .int (zI p2), .int (zI p3), .int (zI p4)]) (rest := []) ⟨hx, hb, hml, hown, hts⟩ (kX2_enter l D cy ad jf A u p1 p2 p3 p4 (by omega) (by omega) (by omega) (by omega) i25) (cwV 4 hts gX11_slot_X2_enter rfl rfl rfl (by decide +kernel) ⟨by decide, by decide⟩) (g_preV (C := RX2) hG hC hS 7 (by decide) rfl rfl) rfl rfl hl.1 rfl (lv_room (Nat.le_of_ble_eq_true rfl)) dX11_slot_48 ⟨Nat.le_of_ble_eq_true rfl, Nat.le_of_ble_eq_true rfl⟩) hS (fun r22 u23 H locs p_24 hG hS => ?_)
          obtain ⟨rfl, hu23⟩ := p_24
          obtain ⟨z25, hz25⟩ : ∃ z : Int, z = (cEnter u p1 p2 p3 p4).1 := ⟨_, rfl⟩
          rw [← hz25]
          have qz25 : z25 = 0 ∨ z25 = 1 := by rw [hz25]; unfold cEnter; dsimp only; split <;> omega
          refine z_if_eq (tgt := 58) hx hb dX11_slot_51 (by decide) (by omega) (by omega) (fun c_26 => ?_) (fun c_26 => ?_)
          · refine z_iconst hx hb dX11_slot_58 ?_
            exact W.iret (v := zI 0) hx hb hr (fun t9 ht9_ hW => ⟨⟨zI 0, u23, rfl, (by unfold cSlot; rw [if_pos (by omega)]; subst hu23; refine ⟨?_, rfl⟩; congr 1; omega), gB.mk' hG hC hS ht9_ hW⟩, hS.F ht9_⟩) hS.2.2 dX11_slot_59
          · refine z_iconst hx hb dX11_slot_54 ?_
            refine lv_goto (tgt := 59) hx hb dX11_slot_55 (by decide) ?_
            exact W.iret (v := zI 1) hx hb hr (fun t9 ht9_ hW => ⟨⟨zI 1, u23, rfl, (by unfold cSlot; rw [if_pos (by omega)]; subst hu23; refine ⟨?_, rfl⟩; congr 1; omega), gB.mk' hG hC hS ht9_ hW⟩, hS.F ht9_⟩) hS.2.2 dX11_slot_59
        · refine z_iconst hx hb dX11_slot_37 ?_
          exact W.iret (v := zI ((-1))) hx hb hr (fun t9 ht9_ hW => ⟨⟨zI ((-1)), u, rfl, (by unfold cSlot; rw [if_neg (by omega)]; exact ⟨rfl, rfl⟩), gB.mk' hG hC hS ht9_ hW⟩, hS.F ht9_⟩) hS.2.2 dX11_slot_38
  · rw [if_neg hk_] at hr_
    subst hr_
    simp only [va_rf]
    refine lv_ifnullN (tgt := 37) hx hb dX11_slot_5 (by decide) ?_
    refine z_iconst hx hb dX11_slot_37 ?_
    exact W.iret (v := zI ((-1))) hx hb hr (fun t9 ht9_ hW => ⟨⟨zI ((-1)), u, rfl, (by unfold cSlot; rw [if_neg (by omega)]; exact ⟨rfl, rfl⟩), gB.mk' hG hC hS ht9_ hW⟩, hS.F ht9_⟩) hS.2.2 dX11_slot_38
set_option maxHeartbeats 4000000 in
set_option maxRecDepth 100000 in
theorem kX11_feed (l : Launch) (D : va_G) (cy : Nat → ClassId) (ad : Nat → Nat) (jf : Nat → Int64) (A : Nat → Prop) (u : gS) (p1 p2 : Int) (j_p1 : -2147483648 ≤ p1 ∧ p1 < 2147483648) (j_p2 : -2147483648 ≤ p2 ∧ p2 < 2147483648) (i0 : 0 ≤ u.1 0 ∧ u.1 0 ≤ 10) (K S9 L9 F9 : Nat → Int) (hsw : ∀ j : Nat, (j : Int) < u.1 0 → ∃ a, swAt u j a (K j) (S9 j) (L9 j) (F9 j)) : Met l yX11_feed wsX11_feed ({ frames := 2, cells := 0, slots := 0, locals := 43 }) (va_Pc [.ref (ad 0), .int (zI p1), .int (zI p2)] (gB D cy ad jf A u)) (va_Qi (fun (r : Int32) (v : gS) => (if (0 ≤ p1 ∧ p1 ≤ u.1 0 - 1) ∧ (0 ≤ p2 ∧ p2 ≤ 40) then r = zI (F9 p1.toNat) ∧ ∃ a, u.2.2.1 12 p1.toNat = some a ∧ v = sP u u.2.2.2.1 (va_up u.2.2.2.2 a (.inr (kc (K p1.toNat), [.int (zI (p1.toNat : Int)), .int (zI (S9 p1.toNat)), .int (zI (L9 p1.toNat)), .int (zI p2)]))) else r = zI (-1) ∧ v = u)) (gB D cy ad jf A) A) 0 0 A := by
  refine Met.ofW (cc := cX11_feed) (maxL := 5) (ret := (some .int)) (by decide) rfl ?_
  intro p e s m args below meth c s₁ B hml hv
  obtain ⟨rfl, hG, hC⟩ := hv
  have hx := B.exec
  have hb := B.bytes
  have hr := B.returns
  have hts := atoms_spec (ws := wsX11_feed) B.pre
  have hown : s.vm.findClass RX11 = some m.cls := findClass_of_methodNamed B.named
  have hlocks := B.notSynchronized
  have hS : va_S A s.heap s.heap [] := va_S.rf
  have hl := lv_entry ([.ref (ad 0), .int (zI p1), .int (zI p2)]) (n := 5) (Nat.le_of_ble_eq_true rfl)
  rw [lg_entry_eq]
  generalize (lg_sl ([.ref (ad 0), .int (zI p1), .int (zI p2)]) ++ List.replicate (5 - (lg_sl ([.ref (ad 0), .int (zI p1), .int (zI p2)])).length) Slot.unset).toArray = ls at hl ⊢
  have hl : lv_has ls 5 [(0, .ref (ad 0)), (1, .int (zI p1)), (2, .int (zI p2))] := hl
  refine lv_aload_n hx hb dX11_feed_0 rfl (lv_at hl 0 rfl) ?_
  refine lv_iload_n hx hb dX11_feed_1 rfl (lv_at hl 1 rfl) ?_
  refine g_callq (va_runV (As := [.int (zI p1)]) (rest := []) ⟨hx, hb, hml, hown, hts⟩ (kX11_known l D cy ad jf A u p1 (by omega) i0) (cwV 1 hts gX11_feed_X11_known rfl rfl rfl (by decide +kernel) ⟨by decide, by decide⟩) (g_preV (C := RX11) hG hC hS 0 (by decide) rfl rfl) rfl rfl hl.1 rfl (lv_room (Nat.le_of_ble_eq_true rfl)) dX11_feed_2 ⟨Nat.le_of_ble_eq_true rfl, Nat.le_of_ble_eq_true rfl⟩) hS (fun r1 u2 H locs p_3 hG hS => ?_)
  obtain ⟨hr_, he_⟩ := p_3
  rw [he_] at hG; clear he_
  by_cases hk_ : 0 ≤ p1 ∧ p1 ≤ u.1 0 - 1
  · rw [if_pos hk_] at hr_
    obtain ⟨a, ha0, ha, hE0, hki, hsp, hli, hfd⟩ := hsw p1.toNat (by omega)
    rw [ha0] at hr_
    subst hr_
    rcases (show K p1.toNat = 0 ∨ K p1.toNat = 1 ∨ K p1.toNat = 2 ∨ K p1.toNat = 3 by omega) with hk0 | hk0 | hk0 | hk0
    · have hE : u.2.2.2.2 a = .inr (2, [.int (zI (p1.toNat : Int)), .int (zI (S9 p1.toNat)), .int (zI (L9 p1.toNat)), .int (zI (F9 p1.toNat))]) := by rw [hE0, hk0]; rfl
      simp only [va_rf]
      refine lv_astore_n (lv' := [(3, .ref a), (0, .ref (ad 0)), (1, .int (zI p1)), (2, .int (zI p2))]) hx hb dX11_feed_5 rfl hl (by decide) rfl (fun ls hl => ?_)
      refine lv_aload_n hx hb dX11_feed_6 rfl (lv_at hl 0 rfl) ?_
      refine lv_ifnull hx hb dX11_feed_7 ?_
      refine lv_iload_n hx hb dX11_feed_10 rfl (lv_at hl 3 rfl) ?_
      refine z_iconst hx hb dX11_feed_11 ?_
      refine z_bipush hx hb dX11_feed_12 (by decide) ?_
      refine g_calli (va_runS (As := [.int (zI p2), .int (zI 0), .int (zI 40)]) (rest := []) ⟨hx, hb, hml, hown, hts⟩ (kX11_isWithin l D cy ad jf A u p2 0 40 (by omega) (by omega) (by omega)) (va_cwS 3 hts gX11_feed_X11_isWithin rfl rfl rfl (by decide +kernel) ⟨by decide, by decide⟩) (g_preS hG hC hS) rfl rfl hl.1 rfl (lv_room (Nat.le_of_ble_eq_true rfl)) dX11_feed_14 ⟨Nat.le_of_ble_eq_true rfl, Nat.le_of_ble_eq_true rfl⟩) hS (fun r4 u5 H locs p_6 hG hS => ?_)
      obtain ⟨⟨b7, rfl, q_8⟩, he_⟩ := p_6
      rw [he_] at hG; clear he_
      have hbb7 : 0 ≤ b7 ∧ b7 ≤ 1 := by rcases q_8 with ⟨h, _⟩ | ⟨h, _⟩ <;> omega
      refine z_if_ne (tgt := 22) hx hb dX11_feed_17 (by decide) (by omega) (by omega) (fun c_9 => ?_) (fun c_9 => ?_)
      · refine lv_aload_n hx hb dX11_feed_22 rfl (lv_at hl 0 rfl) ?_
        obtain ⟨k9, hk9⟩ := va_pl_get (X := gFx cy ad jf u) (f := u.2.2.2.2) ha
        refine va_get (C := RX3) (T := TX3) (N := 4) (ci := 2) hx hb hts (fun _ h => (List.mem_cons_of_mem _ (List.mem_append_left _ (List.mem_append_left _ (List.mem_append_left _ (List.mem_append_right _ h)))))) hown hC.1 hG.1 k9 (hk9.trans (by rw [hE])) rfl 3 (by decide) (hts (.fieldLink RX11 123 "StraitSwim$Plain" "feed" "I") (List.mem_cons_of_mem _ (List.mem_append_left _ (List.mem_append_left _ (List.mem_append_left _ (List.mem_append_left _ (List.mem_append_left _ (List.mem_of_getElem? (i := 0) rfl)))))))) (fun _ h9 => h9) rfl dX11_feed_23 ?_
        refine lv_istore (lv' := [(4, .int (zI (F9 p1.toNat))), (3, .ref a), (0, .ref (ad 0)), (1, .int (zI p1)), (2, .int (zI p2))]) hx hb dX11_feed_26 hl (by decide) rfl (fun ls hl => ?_)
        refine lv_aload_n hx hb dX11_feed_28 rfl (lv_at hl 1 rfl) ?_
        refine lv_iload_n hx hb dX11_feed_29 rfl (lv_at hl 4 rfl) ?_
        obtain ⟨k9, hk9⟩ := va_pl_get (X := gFx cy ad jf u) (f := u.2.2.2.2) ha
        refine va_put (C := RX3) (T := TX3) (N := 4) (ci := 2) (ty := .int) hx hb hts (fun _ h => (List.mem_cons_of_mem _ (List.mem_append_left _ (List.mem_append_left _ (List.mem_append_left _ (List.mem_append_right _ h)))))) tyX3 tyX3_ok nmX3 hown hC.1 hG.1 hG.2 hS k9 (hk9.trans (by rw [hE])) rfl 3 (by decide) (hts (.fieldLink RX11 123 "StraitSwim$Plain" "feed" "I") (List.mem_cons_of_mem _ (List.mem_append_left _ (List.mem_append_left _ (List.mem_append_left _ (List.mem_append_left _ (List.mem_append_left _ (List.mem_of_getElem? (i := 0) rfl)))))))) (fun _ h9 => h9) rfl (by decide +kernel) rfl rfl (Nat.le_of_ble_eq_true rfl) dX11_feed_30 (fun H locs hP hD hS => ?_)
        obtain ⟨u10, hu10⟩ : ∃ v : gS, v = sP u u.2.2.2.1 (va_up u.2.2.2.2 a (.inr (2, [.int (zI ((p1.toNat : Int))), .int (zI (S9 p1.toNat)), .int (zI (L9 p1.toNat)), .int (zI p2)]))) := ⟨_, rfl⟩
        have hG : gH D cy ad jf A u10 H := by rw [hu10, gH, ← gW_set hG.2 ha hk9]; exact ⟨hP, hD⟩
        refine lv_iload hx hb dX11_feed_33 (lv_at hl 0 rfl) ?_
        exact W.iret (v := zI (F9 p1.toNat)) hx hb hr (fun t9 ht9_ hW => ⟨⟨zI (F9 p1.toNat), u10, rfl, (by dsimp only; rw [if_pos (by omega)]; exact ⟨rfl, a, ha0, (by rw [hk0]; subst hu10; rfl)⟩), gB.mk' hG hC hS ht9_ hW⟩, hS.F ht9_⟩) hS.2.2 dX11_feed_35
      · refine z_iconst hx hb dX11_feed_20 ?_
        exact W.iret (v := zI ((-1))) hx hb hr (fun t9 ht9_ hW => ⟨⟨zI ((-1)), u, rfl, (by dsimp only; rw [if_neg (by omega)]; exact ⟨rfl, rfl⟩), gB.mk' hG hC hS ht9_ hW⟩, hS.F ht9_⟩) hS.2.2 dX11_feed_21
    · have hE : u.2.2.2.2 a = .inr (0, [.int (zI (p1.toNat : Int)), .int (zI (S9 p1.toNat)), .int (zI (L9 p1.toNat)), .int (zI (F9 p1.toNat))]) := by rw [hE0, hk0]; rfl
      simp only [va_rf]
      refine lv_astore_n (lv' := [(3, .ref a), (0, .ref (ad 0)), (1, .int (zI p1)), (2, .int (zI p2))]) hx hb dX11_feed_5 rfl hl (by decide) rfl (fun ls hl => ?_)
      refine lv_aload_n hx hb dX11_feed_6 rfl (lv_at hl 0 rfl) ?_
      refine lv_ifnull hx hb dX11_feed_7 ?_
      refine lv_iload_n hx hb dX11_feed_10 rfl (lv_at hl 3 rfl) ?_
      refine z_iconst hx hb dX11_feed_11 ?_
      refine z_bipush hx hb dX11_feed_12 (by decide) ?_
      refine g_calli (va_runS (As := [.int (zI p2), .int (zI 0), .int (zI 40)]) (rest := []) ⟨hx, hb, hml, hown, hts⟩ (kX11_isWithin l D cy ad jf A u p2 0 40 (by omega) (by omega) (by omega)) (va_cwS 3 hts gX11_feed_X11_isWithin rfl rfl rfl (by decide +kernel) ⟨by decide, by decide⟩) (g_preS hG hC hS) rfl rfl hl.1 rfl (lv_room (Nat.le_of_ble_eq_true rfl)) dX11_feed_14 ⟨Nat.le_of_ble_eq_true rfl, Nat.le_of_ble_eq_true rfl⟩) hS (fun r11 u12 H locs p_13 hG hS => ?_)
      obtain ⟨⟨b14, rfl, q_15⟩, he_⟩ := p_13
      rw [he_] at hG; clear he_
      have hbb14 : 0 ≤ b14 ∧ b14 ≤ 1 := by rcases q_15 with ⟨h, _⟩ | ⟨h, _⟩ <;> omega
      refine z_if_ne (tgt := 22) hx hb dX11_feed_17 (by decide) (by omega) (by omega) (fun c_16 => ?_) (fun c_16 => ?_)
      · refine lv_aload_n hx hb dX11_feed_22 rfl (lv_at hl 0 rfl) ?_
        obtain ⟨k9, hk9⟩ := va_pl_get (X := gFx cy ad jf u) (f := u.2.2.2.2) ha
        refine va_get (C := RX0) (T := TX0) (N := 4) (ci := 0) hx hb hts (fun _ h => (List.mem_cons_of_mem _ (List.mem_append_left _ (List.mem_append_left _ (List.mem_append_left _ (List.mem_append_left _ (List.mem_append_right _ h))))))) hown hC.1 hG.1 k9 (hk9.trans (by rw [hE])) rfl 3 (by decide) (hts (.fieldLink RX11 123 "StraitSwim$Plain" "feed" "I") (List.mem_cons_of_mem _ (List.mem_append_left _ (List.mem_append_left _ (List.mem_append_left _ (List.mem_append_left _ (List.mem_append_left _ (List.mem_of_getElem? (i := 0) rfl)))))))) (fun _ h9 => h9) rfl dX11_feed_23 ?_
        refine lv_istore (lv' := [(4, .int (zI (F9 p1.toNat))), (3, .ref a), (0, .ref (ad 0)), (1, .int (zI p1)), (2, .int (zI p2))]) hx hb dX11_feed_26 hl (by decide) rfl (fun ls hl => ?_)
        refine lv_aload_n hx hb dX11_feed_28 rfl (lv_at hl 1 rfl) ?_
        refine lv_iload_n hx hb dX11_feed_29 rfl (lv_at hl 4 rfl) ?_
        obtain ⟨k9, hk9⟩ := va_pl_get (X := gFx cy ad jf u) (f := u.2.2.2.2) ha
        refine va_put (C := RX0) (T := TX0) (N := 4) (ci := 0) (ty := .int) hx hb hts (fun _ h => (List.mem_cons_of_mem _ (List.mem_append_left _ (List.mem_append_left _ (List.mem_append_left _ (List.mem_append_left _ (List.mem_append_right _ h))))))) tyX0 tyX0_ok nmX0 hown hC.1 hG.1 hG.2 hS k9 (hk9.trans (by rw [hE])) rfl 3 (by decide) (hts (.fieldLink RX11 123 "StraitSwim$Plain" "feed" "I") (List.mem_cons_of_mem _ (List.mem_append_left _ (List.mem_append_left _ (List.mem_append_left _ (List.mem_append_left _ (List.mem_append_left _ (List.mem_of_getElem? (i := 0) rfl)))))))) (fun _ h9 => h9) rfl (by decide +kernel) rfl rfl (Nat.le_of_ble_eq_true rfl) dX11_feed_30 (fun H locs hP hD hS => ?_)
        obtain ⟨u17, hu17⟩ : ∃ v : gS, v = sP u u.2.2.2.1 (va_up u.2.2.2.2 a (.inr (0, [.int (zI ((p1.toNat : Int))), .int (zI (S9 p1.toNat)), .int (zI (L9 p1.toNat)), .int (zI p2)]))) := ⟨_, rfl⟩
        have hG : gH D cy ad jf A u17 H := by rw [hu17, gH, ← gW_set hG.2 ha hk9]; exact ⟨hP, hD⟩
        refine lv_iload hx hb dX11_feed_33 (lv_at hl 0 rfl) ?_
        exact W.iret (v := zI (F9 p1.toNat)) hx hb hr (fun t9 ht9_ hW => ⟨⟨zI (F9 p1.toNat), u17, rfl, (by dsimp only; rw [if_pos (by omega)]; exact ⟨rfl, a, ha0, (by rw [hk0]; subst hu17; rfl)⟩), gB.mk' hG hC hS ht9_ hW⟩, hS.F ht9_⟩) hS.2.2 dX11_feed_35
      · refine z_iconst hx hb dX11_feed_20 ?_
        exact W.iret (v := zI ((-1))) hx hb hr (fun t9 ht9_ hW => ⟨⟨zI ((-1)), u, rfl, (by dsimp only; rw [if_neg (by omega)]; exact ⟨rfl, rfl⟩), gB.mk' hG hC hS ht9_ hW⟩, hS.F ht9_⟩) hS.2.2 dX11_feed_21
    · have hE : u.2.2.2.2 a = .inr (3, [.int (zI (p1.toNat : Int)), .int (zI (S9 p1.toNat)), .int (zI (L9 p1.toNat)), .int (zI (F9 p1.toNat))]) := by rw [hE0, hk0]; rfl
      simp only [va_rf]
      refine lv_astore_n (lv' := [(3, .ref a), (0, .ref (ad 0)), (1, .int (zI p1)), (2, .int (zI p2))]) hx hb dX11_feed_5 rfl hl (by decide) rfl (fun ls hl => ?_)
      refine lv_aload_n hx hb dX11_feed_6 rfl (lv_at hl 0 rfl) ?_
      refine lv_ifnull hx hb dX11_feed_7 ?_
      refine lv_iload_n hx hb dX11_feed_10 rfl (lv_at hl 3 rfl) ?_
      refine z_iconst hx hb dX11_feed_11 ?_
      refine z_bipush hx hb dX11_feed_12 (by decide) ?_
      refine g_calli (va_runS (As := [.int (zI p2), .int (zI 0), .int (zI 40)]) (rest := []) ⟨hx, hb, hml, hown, hts⟩ (kX11_isWithin l D cy ad jf A u p2 0 40 (by omega) (by omega) (by omega)) (va_cwS 3 hts gX11_feed_X11_isWithin rfl rfl rfl (by decide +kernel) ⟨by decide, by decide⟩) (g_preS hG hC hS) rfl rfl hl.1 rfl (lv_room (Nat.le_of_ble_eq_true rfl)) dX11_feed_14 ⟨Nat.le_of_ble_eq_true rfl, Nat.le_of_ble_eq_true rfl⟩) hS (fun r18 u19 H locs p_20 hG hS => ?_)
      obtain ⟨⟨b21, rfl, q_22⟩, he_⟩ := p_20
      rw [he_] at hG; clear he_
      have hbb21 : 0 ≤ b21 ∧ b21 ≤ 1 := by rcases q_22 with ⟨h, _⟩ | ⟨h, _⟩ <;> omega
      refine z_if_ne (tgt := 22) hx hb dX11_feed_17 (by decide) (by omega) (by omega) (fun c_23 => ?_) (fun c_23 => ?_)
      · refine lv_aload_n hx hb dX11_feed_22 rfl (lv_at hl 0 rfl) ?_
        obtain ⟨k9, hk9⟩ := va_pl_get (X := gFx cy ad jf u) (f := u.2.2.2.2) ha
        refine va_get (C := RX4) (T := TX4) (N := 4) (ci := 3) hx hb hts (fun _ h => (List.mem_cons_of_mem _ (List.mem_append_left _ (List.mem_append_left _ (List.mem_append_right _ h))))) hown hC.1 hG.1 k9 (hk9.trans (by rw [hE])) rfl 3 (by decide) (hts (.fieldLink RX11 123 "StraitSwim$Plain" "feed" "I") (List.mem_cons_of_mem _ (List.mem_append_left _ (List.mem_append_left _ (List.mem_append_left _ (List.mem_append_left _ (List.mem_append_left _ (List.mem_of_getElem? (i := 0) rfl)))))))) (fun _ h9 => h9) rfl dX11_feed_23 ?_
        refine lv_istore (lv' := [(4, .int (zI (F9 p1.toNat))), (3, .ref a), (0, .ref (ad 0)), (1, .int (zI p1)), (2, .int (zI p2))]) hx hb dX11_feed_26 hl (by decide) rfl (fun ls hl => ?_)
        refine lv_aload_n hx hb dX11_feed_28 rfl (lv_at hl 1 rfl) ?_
        refine lv_iload_n hx hb dX11_feed_29 rfl (lv_at hl 4 rfl) ?_
        obtain ⟨k9, hk9⟩ := va_pl_get (X := gFx cy ad jf u) (f := u.2.2.2.2) ha
        refine va_put (C := RX4) (T := TX4) (N := 4) (ci := 3) (ty := .int) hx hb hts (fun _ h => (List.mem_cons_of_mem _ (List.mem_append_left _ (List.mem_append_left _ (List.mem_append_right _ h))))) tyX4 tyX4_ok nmX4 hown hC.1 hG.1 hG.2 hS k9 (hk9.trans (by rw [hE])) rfl 3 (by decide) (hts (.fieldLink RX11 123 "StraitSwim$Plain" "feed" "I") (List.mem_cons_of_mem _ (List.mem_append_left _ (List.mem_append_left _ (List.mem_append_left _ (List.mem_append_left _ (List.mem_append_left _ (List.mem_of_getElem? (i := 0) rfl)))))))) (fun _ h9 => h9) rfl (by decide +kernel) rfl rfl (Nat.le_of_ble_eq_true rfl) dX11_feed_30 (fun H locs hP hD hS => ?_)
        obtain ⟨u24, hu24⟩ : ∃ v : gS, v = sP u u.2.2.2.1 (va_up u.2.2.2.2 a (.inr (3, [.int (zI ((p1.toNat : Int))), .int (zI (S9 p1.toNat)), .int (zI (L9 p1.toNat)), .int (zI p2)]))) := ⟨_, rfl⟩
        have hG : gH D cy ad jf A u24 H := by rw [hu24, gH, ← gW_set hG.2 ha hk9]; exact ⟨hP, hD⟩
        refine lv_iload hx hb dX11_feed_33 (lv_at hl 0 rfl) ?_
        exact W.iret (v := zI (F9 p1.toNat)) hx hb hr (fun t9 ht9_ hW => ⟨⟨zI (F9 p1.toNat), u24, rfl, (by dsimp only; rw [if_pos (by omega)]; exact ⟨rfl, a, ha0, (by rw [hk0]; subst hu24; rfl)⟩), gB.mk' hG hC hS ht9_ hW⟩, hS.F ht9_⟩) hS.2.2 dX11_feed_35
      · refine z_iconst hx hb dX11_feed_20 ?_
        exact W.iret (v := zI ((-1))) hx hb hr (fun t9 ht9_ hW => ⟨⟨zI ((-1)), u, rfl, (by dsimp only; rw [if_neg (by omega)]; exact ⟨rfl, rfl⟩), gB.mk' hG hC hS ht9_ hW⟩, hS.F ht9_⟩) hS.2.2 dX11_feed_21
    · have hE : u.2.2.2.2 a = .inr (5, [.int (zI (p1.toNat : Int)), .int (zI (S9 p1.toNat)), .int (zI (L9 p1.toNat)), .int (zI (F9 p1.toNat))]) := by rw [hE0, hk0]; rfl
      simp only [va_rf]
      refine lv_astore_n (lv' := [(3, .ref a), (0, .ref (ad 0)), (1, .int (zI p1)), (2, .int (zI p2))]) hx hb dX11_feed_5 rfl hl (by decide) rfl (fun ls hl => ?_)
      refine lv_aload_n hx hb dX11_feed_6 rfl (lv_at hl 0 rfl) ?_
      refine lv_ifnull hx hb dX11_feed_7 ?_
      refine lv_iload_n hx hb dX11_feed_10 rfl (lv_at hl 3 rfl) ?_
      refine z_iconst hx hb dX11_feed_11 ?_
      refine z_bipush hx hb dX11_feed_12 (by decide) ?_
      refine g_calli (va_runS (As := [.int (zI p2), .int (zI 0), .int (zI 40)]) (rest := []) ⟨hx, hb, hml, hown, hts⟩ (kX11_isWithin l D cy ad jf A u p2 0 40 (by omega) (by omega) (by omega)) (va_cwS 3 hts gX11_feed_X11_isWithin rfl rfl rfl (by decide +kernel) ⟨by decide, by decide⟩) (g_preS hG hC hS) rfl rfl hl.1 rfl (lv_room (Nat.le_of_ble_eq_true rfl)) dX11_feed_14 ⟨Nat.le_of_ble_eq_true rfl, Nat.le_of_ble_eq_true rfl⟩) hS (fun r25 u26 H locs p_27 hG hS => ?_)
      obtain ⟨⟨b28, rfl, q_29⟩, he_⟩ := p_27
      rw [he_] at hG; clear he_
      have hbb28 : 0 ≤ b28 ∧ b28 ≤ 1 := by rcases q_29 with ⟨h, _⟩ | ⟨h, _⟩ <;> omega
      refine z_if_ne (tgt := 22) hx hb dX11_feed_17 (by decide) (by omega) (by omega) (fun c_30 => ?_) (fun c_30 => ?_)
      · refine lv_aload_n hx hb dX11_feed_22 rfl (lv_at hl 0 rfl) ?_
        obtain ⟨k9, hk9⟩ := va_pl_get (X := gFx cy ad jf u) (f := u.2.2.2.2) ha
        refine va_get (C := RX6) (T := TX6) (N := 4) (ci := 5) hx hb hts (fun _ h => (List.mem_cons_of_mem _ (List.mem_append_left _ (List.mem_append_right _ h)))) hown hC.1 hG.1 k9 (hk9.trans (by rw [hE])) rfl 3 (by decide) (hts (.fieldLink RX11 123 "StraitSwim$Plain" "feed" "I") (List.mem_cons_of_mem _ (List.mem_append_left _ (List.mem_append_left _ (List.mem_append_left _ (List.mem_append_left _ (List.mem_append_left _ (List.mem_of_getElem? (i := 0) rfl)))))))) (fun _ h9 => h9) rfl dX11_feed_23 ?_
        refine lv_istore (lv' := [(4, .int (zI (F9 p1.toNat))), (3, .ref a), (0, .ref (ad 0)), (1, .int (zI p1)), (2, .int (zI p2))]) hx hb dX11_feed_26 hl (by decide) rfl (fun ls hl => ?_)
        refine lv_aload_n hx hb dX11_feed_28 rfl (lv_at hl 1 rfl) ?_
        refine lv_iload_n hx hb dX11_feed_29 rfl (lv_at hl 4 rfl) ?_
        obtain ⟨k9, hk9⟩ := va_pl_get (X := gFx cy ad jf u) (f := u.2.2.2.2) ha
        refine va_put (C := RX6) (T := TX6) (N := 4) (ci := 5) (ty := .int) hx hb hts (fun _ h => (List.mem_cons_of_mem _ (List.mem_append_left _ (List.mem_append_right _ h)))) tyX6 tyX6_ok nmX6 hown hC.1 hG.1 hG.2 hS k9 (hk9.trans (by rw [hE])) rfl 3 (by decide) (hts (.fieldLink RX11 123 "StraitSwim$Plain" "feed" "I") (List.mem_cons_of_mem _ (List.mem_append_left _ (List.mem_append_left _ (List.mem_append_left _ (List.mem_append_left _ (List.mem_append_left _ (List.mem_of_getElem? (i := 0) rfl)))))))) (fun _ h9 => h9) rfl (by decide +kernel) rfl rfl (Nat.le_of_ble_eq_true rfl) dX11_feed_30 (fun H locs hP hD hS => ?_)
        obtain ⟨u31, hu31⟩ : ∃ v : gS, v = sP u u.2.2.2.1 (va_up u.2.2.2.2 a (.inr (5, [.int (zI ((p1.toNat : Int))), .int (zI (S9 p1.toNat)), .int (zI (L9 p1.toNat)), .int (zI p2)]))) := ⟨_, rfl⟩
        have hG : gH D cy ad jf A u31 H := by rw [hu31, gH, ← gW_set hG.2 ha hk9]; exact ⟨hP, hD⟩
        refine lv_iload hx hb dX11_feed_33 (lv_at hl 0 rfl) ?_
        exact W.iret (v := zI (F9 p1.toNat)) hx hb hr (fun t9 ht9_ hW => ⟨⟨zI (F9 p1.toNat), u31, rfl, (by dsimp only; rw [if_pos (by omega)]; exact ⟨rfl, a, ha0, (by rw [hk0]; subst hu31; rfl)⟩), gB.mk' hG hC hS ht9_ hW⟩, hS.F ht9_⟩) hS.2.2 dX11_feed_35
      · refine z_iconst hx hb dX11_feed_20 ?_
        exact W.iret (v := zI ((-1))) hx hb hr (fun t9 ht9_ hW => ⟨⟨zI ((-1)), u, rfl, (by dsimp only; rw [if_neg (by omega)]; exact ⟨rfl, rfl⟩), gB.mk' hG hC hS ht9_ hW⟩, hS.F ht9_⟩) hS.2.2 dX11_feed_21
  · rw [if_neg hk_] at hr_
    subst hr_
    simp only [va_rf]
    refine lv_astore_nN (lv' := [(3, .null), (0, .ref (ad 0)), (1, .int (zI p1)), (2, .int (zI p2))]) hx hb dX11_feed_5 rfl hl (by decide) rfl (fun ls hl => ?_)
    refine lv_aload_nN hx hb dX11_feed_6 rfl (lv_at hl 0 rfl) ?_
    refine lv_ifnullN (tgt := 20) hx hb dX11_feed_7 (by decide) ?_
    refine z_iconst hx hb dX11_feed_20 ?_
    exact W.iret (v := zI ((-1))) hx hb hr (fun t9 ht9_ hW => ⟨⟨zI ((-1)), u, rfl, (by dsimp only; rw [if_neg (by omega)]; exact ⟨rfl, rfl⟩), gB.mk' hG hC hS ht9_ hW⟩, hS.F ht9_⟩) hS.2.2 dX11_feed_21
