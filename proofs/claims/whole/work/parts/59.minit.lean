set_option maxHeartbeats 8000000 in
set_option maxRecDepth 100000 in
theorem kX12_init (l : Launch) (D : va_G) (cy : Nat → ClassId) (A : Nat → Prop) (u : pS) (a : Nat) (ha_a : a ∈ u.1) (hE_a : u.2 a = .inr (11, (.int (zI 0) :: .null :: .null :: .null :: .int (zI 0) :: .int (zI 0) :: .int (zI 0) :: .null :: .null :: .null :: .null :: .null :: .null :: .null :: .null :: .int (zI 0) :: .int (zI 0) :: .null :: .null :: .null :: .null :: .int (zI 0) :: .null :: .int (zI 0) :: .null :: .int (zI 0) :: .null :: .null :: .null :: .null :: .null :: .null :: .null :: .null :: .null :: .null :: .null :: .null :: .null :: .null :: .null :: .null :: []))) : Met l yX12_init wsX12_init ({ frames := 1, cells := 33, slots := 2722, locals := 30 }) (va_Pc [.ref a] (pB D cy A u)) (va_Qv (fun v : pS => ∃ b1 b7 b15 b35 b47 b61 b77 b95 b115 b137 b161 b200 b228 b258 b290 b324 b360 b398 b438 b480 b524 b570 b618 b668 b720 b774 b830 b888 b948 b1010 b1074 b1140 b1208, v.1 = (((((((((((((((((((((((((((((((((u.1 ++ [b1]) ++ [b7]) ++ [b15]) ++ [b35]) ++ [b47]) ++ [b61]) ++ [b77]) ++ [b95]) ++ [b115]) ++ [b137]) ++ [b161]) ++ [b200]) ++ [b228]) ++ [b258]) ++ [b290]) ++ [b324]) ++ [b360]) ++ [b398]) ++ [b438]) ++ [b480]) ++ [b524]) ++ [b570]) ++ [b618]) ++ [b668]) ++ [b720]) ++ [b774]) ++ [b830]) ++ [b888]) ++ [b948]) ++ [b1010]) ++ [b1074]) ++ [b1140]) ++ [b1208]) ∧ (b1 ∉ u.1 ∧ b7 ∉ (u.1 ++ [b1]) ∧ b15 ∉ ((u.1 ++ [b1]) ++ [b7]) ∧ b35 ∉ (((u.1 ++ [b1]) ++ [b7]) ++ [b15]) ∧ b47 ∉ ((((u.1 ++ [b1]) ++ [b7]) ++ [b15]) ++ [b35]) ∧ b61 ∉ (((((u.1 ++ [b1]) ++ [b7]) ++ [b15]) ++ [b35]) ++ [b47]) ∧ b77 ∉ ((((((u.1 ++ [b1]) ++ [b7]) ++ [b15]) ++ [b35]) ++ [b47]) ++ [b61]) ∧ b95 ∉ (((((((u.1 ++ [b1]) ++ [b7]) ++ [b15]) ++ [b35]) ++ [b47]) ++ [b61]) ++ [b77]) ∧ b115 ∉ ((((((((u.1 ++ [b1]) ++ [b7]) ++ [b15]) ++ [b35]) ++ [b47]) ++ [b61]) ++ [b77]) ++ [b95]) ∧ b137 ∉ (((((((((u.1 ++ [b1]) ++ [b7]) ++ [b15]) ++ [b35]) ++ [b47]) ++ [b61]) ++ [b77]) ++ [b95]) ++ [b115]) ∧ b161 ∉ ((((((((((u.1 ++ [b1]) ++ [b7]) ++ [b15]) ++ [b35]) ++ [b47]) ++ [b61]) ++ [b77]) ++ [b95]) ++ [b115]) ++ [b137]) ∧ b200 ∉ (((((((((((u.1 ++ [b1]) ++ [b7]) ++ [b15]) ++ [b35]) ++ [b47]) ++ [b61]) ++ [b77]) ++ [b95]) ++ [b115]) ++ [b137]) ++ [b161]) ∧ b228 ∉ ((((((((((((u.1 ++ [b1]) ++ [b7]) ++ [b15]) ++ [b35]) ++ [b47]) ++ [b61]) ++ [b77]) ++ [b95]) ++ [b115]) ++ [b137]) ++ [b161]) ++ [b200]) ∧ b258 ∉ (((((((((((((u.1 ++ [b1]) ++ [b7]) ++ [b15]) ++ [b35]) ++ [b47]) ++ [b61]) ++ [b77]) ++ [b95]) ++ [b115]) ++ [b137]) ++ [b161]) ++ [b200]) ++ [b228]) ∧ b290 ∉ ((((((((((((((u.1 ++ [b1]) ++ [b7]) ++ [b15]) ++ [b35]) ++ [b47]) ++ [b61]) ++ [b77]) ++ [b95]) ++ [b115]) ++ [b137]) ++ [b161]) ++ [b200]) ++ [b228]) ++ [b258]) ∧ b324 ∉ (((((((((((((((u.1 ++ [b1]) ++ [b7]) ++ [b15]) ++ [b35]) ++ [b47]) ++ [b61]) ++ [b77]) ++ [b95]) ++ [b115]) ++ [b137]) ++ [b161]) ++ [b200]) ++ [b228]) ++ [b258]) ++ [b290]) ∧ b360 ∉ ((((((((((((((((u.1 ++ [b1]) ++ [b7]) ++ [b15]) ++ [b35]) ++ [b47]) ++ [b61]) ++ [b77]) ++ [b95]) ++ [b115]) ++ [b137]) ++ [b161]) ++ [b200]) ++ [b228]) ++ [b258]) ++ [b290]) ++ [b324]) ∧ b398 ∉ (((((((((((((((((u.1 ++ [b1]) ++ [b7]) ++ [b15]) ++ [b35]) ++ [b47]) ++ [b61]) ++ [b77]) ++ [b95]) ++ [b115]) ++ [b137]) ++ [b161]) ++ [b200]) ++ [b228]) ++ [b258]) ++ [b290]) ++ [b324]) ++ [b360]) ∧ b438 ∉ ((((((((((((((((((u.1 ++ [b1]) ++ [b7]) ++ [b15]) ++ [b35]) ++ [b47]) ++ [b61]) ++ [b77]) ++ [b95]) ++ [b115]) ++ [b137]) ++ [b161]) ++ [b200]) ++ [b228]) ++ [b258]) ++ [b290]) ++ [b324]) ++ [b360]) ++ [b398]) ∧ b480 ∉ (((((((((((((((((((u.1 ++ [b1]) ++ [b7]) ++ [b15]) ++ [b35]) ++ [b47]) ++ [b61]) ++ [b77]) ++ [b95]) ++ [b115]) ++ [b137]) ++ [b161]) ++ [b200]) ++ [b228]) ++ [b258]) ++ [b290]) ++ [b324]) ++ [b360]) ++ [b398]) ++ [b438]) ∧ b524 ∉ ((((((((((((((((((((u.1 ++ [b1]) ++ [b7]) ++ [b15]) ++ [b35]) ++ [b47]) ++ [b61]) ++ [b77]) ++ [b95]) ++ [b115]) ++ [b137]) ++ [b161]) ++ [b200]) ++ [b228]) ++ [b258]) ++ [b290]) ++ [b324]) ++ [b360]) ++ [b398]) ++ [b438]) ++ [b480]) ∧ b570 ∉ (((((((((((((((((((((u.1 ++ [b1]) ++ [b7]) ++ [b15]) ++ [b35]) ++ [b47]) ++ [b61]) ++ [b77]) ++ [b95]) ++ [b115]) ++ [b137]) ++ [b161]) ++ [b200]) ++ [b228]) ++ [b258]) ++ [b290]) ++ [b324]) ++ [b360]) ++ [b398]) ++ [b438]) ++ [b480]) ++ [b524]) ∧ b618 ∉ ((((((((((((((((((((((u.1 ++ [b1]) ++ [b7]) ++ [b15]) ++ [b35]) ++ [b47]) ++ [b61]) ++ [b77]) ++ [b95]) ++ [b115]) ++ [b137]) ++ [b161]) ++ [b200]) ++ [b228]) ++ [b258]) ++ [b290]) ++ [b324]) ++ [b360]) ++ [b398]) ++ [b438]) ++ [b480]) ++ [b524]) ++ [b570]) ∧ b668 ∉ (((((((((((((((((((((((u.1 ++ [b1]) ++ [b7]) ++ [b15]) ++ [b35]) ++ [b47]) ++ [b61]) ++ [b77]) ++ [b95]) ++ [b115]) ++ [b137]) ++ [b161]) ++ [b200]) ++ [b228]) ++ [b258]) ++ [b290]) ++ [b324]) ++ [b360]) ++ [b398]) ++ [b438]) ++ [b480]) ++ [b524]) ++ [b570]) ++ [b618]) ∧ b720 ∉ ((((((((((((((((((((((((u.1 ++ [b1]) ++ [b7]) ++ [b15]) ++ [b35]) ++ [b47]) ++ [b61]) ++ [b77]) ++ [b95]) ++ [b115]) ++ [b137]) ++ [b161]) ++ [b200]) ++ [b228]) ++ [b258]) ++ [b290]) ++ [b324]) ++ [b360]) ++ [b398]) ++ [b438]) ++ [b480]) ++ [b524]) ++ [b570]) ++ [b618]) ++ [b668]) ∧ b774 ∉ (((((((((((((((((((((((((u.1 ++ [b1]) ++ [b7]) ++ [b15]) ++ [b35]) ++ [b47]) ++ [b61]) ++ [b77]) ++ [b95]) ++ [b115]) ++ [b137]) ++ [b161]) ++ [b200]) ++ [b228]) ++ [b258]) ++ [b290]) ++ [b324]) ++ [b360]) ++ [b398]) ++ [b438]) ++ [b480]) ++ [b524]) ++ [b570]) ++ [b618]) ++ [b668]) ++ [b720]) ∧ b830 ∉ ((((((((((((((((((((((((((u.1 ++ [b1]) ++ [b7]) ++ [b15]) ++ [b35]) ++ [b47]) ++ [b61]) ++ [b77]) ++ [b95]) ++ [b115]) ++ [b137]) ++ [b161]) ++ [b200]) ++ [b228]) ++ [b258]) ++ [b290]) ++ [b324]) ++ [b360]) ++ [b398]) ++ [b438]) ++ [b480]) ++ [b524]) ++ [b570]) ++ [b618]) ++ [b668]) ++ [b720]) ++ [b774]) ∧ b888 ∉ (((((((((((((((((((((((((((u.1 ++ [b1]) ++ [b7]) ++ [b15]) ++ [b35]) ++ [b47]) ++ [b61]) ++ [b77]) ++ [b95]) ++ [b115]) ++ [b137]) ++ [b161]) ++ [b200]) ++ [b228]) ++ [b258]) ++ [b290]) ++ [b324]) ++ [b360]) ++ [b398]) ++ [b438]) ++ [b480]) ++ [b524]) ++ [b570]) ++ [b618]) ++ [b668]) ++ [b720]) ++ [b774]) ++ [b830]) ∧ b948 ∉ ((((((((((((((((((((((((((((u.1 ++ [b1]) ++ [b7]) ++ [b15]) ++ [b35]) ++ [b47]) ++ [b61]) ++ [b77]) ++ [b95]) ++ [b115]) ++ [b137]) ++ [b161]) ++ [b200]) ++ [b228]) ++ [b258]) ++ [b290]) ++ [b324]) ++ [b360]) ++ [b398]) ++ [b438]) ++ [b480]) ++ [b524]) ++ [b570]) ++ [b618]) ++ [b668]) ++ [b720]) ++ [b774]) ++ [b830]) ++ [b888]) ∧ b1010 ∉ (((((((((((((((((((((((((((((u.1 ++ [b1]) ++ [b7]) ++ [b15]) ++ [b35]) ++ [b47]) ++ [b61]) ++ [b77]) ++ [b95]) ++ [b115]) ++ [b137]) ++ [b161]) ++ [b200]) ++ [b228]) ++ [b258]) ++ [b290]) ++ [b324]) ++ [b360]) ++ [b398]) ++ [b438]) ++ [b480]) ++ [b524]) ++ [b570]) ++ [b618]) ++ [b668]) ++ [b720]) ++ [b774]) ++ [b830]) ++ [b888]) ++ [b948]) ∧ b1074 ∉ ((((((((((((((((((((((((((((((u.1 ++ [b1]) ++ [b7]) ++ [b15]) ++ [b35]) ++ [b47]) ++ [b61]) ++ [b77]) ++ [b95]) ++ [b115]) ++ [b137]) ++ [b161]) ++ [b200]) ++ [b228]) ++ [b258]) ++ [b290]) ++ [b324]) ++ [b360]) ++ [b398]) ++ [b438]) ++ [b480]) ++ [b524]) ++ [b570]) ++ [b618]) ++ [b668]) ++ [b720]) ++ [b774]) ++ [b830]) ++ [b888]) ++ [b948]) ++ [b1010]) ∧ b1140 ∉ (((((((((((((((((((((((((((((((u.1 ++ [b1]) ++ [b7]) ++ [b15]) ++ [b35]) ++ [b47]) ++ [b61]) ++ [b77]) ++ [b95]) ++ [b115]) ++ [b137]) ++ [b161]) ++ [b200]) ++ [b228]) ++ [b258]) ++ [b290]) ++ [b324]) ++ [b360]) ++ [b398]) ++ [b438]) ++ [b480]) ++ [b524]) ++ [b570]) ++ [b618]) ++ [b668]) ++ [b720]) ++ [b774]) ++ [b830]) ++ [b888]) ++ [b948]) ++ [b1010]) ++ [b1074]) ∧ b1208 ∉ ((((((((((((((((((((((((((((((((u.1 ++ [b1]) ++ [b7]) ++ [b15]) ++ [b35]) ++ [b47]) ++ [b61]) ++ [b77]) ++ [b95]) ++ [b115]) ++ [b137]) ++ [b161]) ++ [b200]) ++ [b228]) ++ [b258]) ++ [b290]) ++ [b324]) ++ [b360]) ++ [b398]) ++ [b438]) ++ [b480]) ++ [b524]) ++ [b570]) ++ [b618]) ++ [b668]) ++ [b720]) ++ [b774]) ++ [b830]) ++ [b888]) ++ [b948]) ++ [b1010]) ++ [b1074]) ++ [b1140])) ∧ (v.2 a = .inr (11, (.int (zI 0) :: .ref b1 :: .ref b7 :: .ref b15 :: .int (zI 5) :: .int (zI 20) :: .int (zI 0) :: .ref b35 :: .ref b47 :: .ref b61 :: .ref b77 :: .ref b95 :: .ref b115 :: .ref b137 :: .ref b161 :: .int (zI ((-1))) :: .int (zI 0) :: .ref b200 :: .ref b228 :: .ref b258 :: .ref b290 :: .int (zI 0) :: .ref b324 :: .int (zI 0) :: .ref b360 :: .int (zI 0) :: .ref b398 :: .ref b438 :: .ref b480 :: .ref b524 :: .ref b570 :: .ref b618 :: .ref b668 :: .ref b720 :: .ref b774 :: .ref b830 :: .ref b888 :: .ref b948 :: .ref b1010 :: .ref b1074 :: .ref b1140 :: .ref b1208 :: [])) ∧ v.2 b1 = .inl (cy 2, 288, .inl (fun _ => zI 0)) ∧ v.2 b7 = .inl (cy 0, 36, .inl (fun _ => zI 0)) ∧ v.2 b15 = .inl (cy 0, 36, .inl (fun _ => zI 0)) ∧ v.2 b35 = .inl (cy 0, 10, .inl (fun _ => zI 0)) ∧ v.2 b47 = .inl (cy 0, 10, .inl (fun _ => zI 0)) ∧ v.2 b61 = .inl (cy 0, 10, .inl (fun _ => zI 0)) ∧ v.2 b77 = .inl (cy 0, 10, .inl (fun _ => zI 0)) ∧ v.2 b95 = .inl (cy 0, 202, .inl (fun _ => zI 0)) ∧ v.2 b115 = .inl (cy 0, 202, .inl (fun _ => zI 0)) ∧ v.2 b137 = .inl (cy 0, 2, .inl (fun _ => zI 0)) ∧ v.2 b161 = .inl (cy 0, 2, .inl (fun _ => zI 0)) ∧ v.2 b200 = .inl (cy 0, 8, .inl (fun _ => zI 0)) ∧ v.2 b228 = .inl (cy 0, 8, .inl (fun _ => zI 0)) ∧ v.2 b258 = .inl (cy 0, 8, .inl (fun _ => zI 0)) ∧ v.2 b290 = .inl (cy 0, 8, .inl (fun _ => zI 0)) ∧ v.2 b324 = .inl (cy 0, 60, .inl (fun _ => zI 0)) ∧ v.2 b360 = .inl (cy 0, 6, .inl (fun _ => zI 0)) ∧ v.2 b398 = .inl (cy 0, 40, .inl (fun _ => zI 0)) ∧ v.2 b438 = .inl (cy 2, 16, .inl (fun _ => zI 0)) ∧ v.2 b480 = .inl (cy 0, 10, .inl (fun _ => zI 0)) ∧ v.2 b524 = .inl (cy 0, 10, .inl (fun _ => zI 0)) ∧ v.2 b570 = .inl (cy 0, 10, .inl (fun _ => zI 0)) ∧ v.2 b618 = .inl (cy 0, 16, .inl (fun _ => zI 0)) ∧ v.2 b668 = .inl (cy 2, 10, .inl (fun _ => zI 0)) ∧ v.2 b720 = .inl (cy 2, 16, .inl (fun _ => zI 0)) ∧ v.2 b774 = .inl (cy 0, 16, .inl (fun _ => zI 0)) ∧ v.2 b830 = .inl (cy 0, 16, .inl (fun _ => zI 0)) ∧ v.2 b888 = .inl (cy 0, 8, .inl (fun _ => zI 0)) ∧ v.2 b948 = .inl (cy 0, 8, .inl (fun _ => zI 0)) ∧ v.2 b1010 = .inl (cy 0, 8, .inl (fun _ => zI 0)) ∧ v.2 b1074 = .inl (cy 0, 8, .inl (fun _ => zI 0)) ∧ v.2 b1140 = .inl (cy 0, 8, .inl (fun _ => zI 0)) ∧ v.2 b1208 = .inl (cy 0, 1616, .inl (fun _ => zI 0))) ∧ ∀ x, x ∈ u.1 → x ≠ a → v.2 x = u.2 x) (pB D cy A) A) 33 2722 A := by
  refine Met.ofW (cc := cX12_init) (maxL := 1) (ret := none) (by decide) rfl ?_
  intro p e s m args below meth c s₁ B hml hv
  obtain ⟨rfl, hG, hI⟩ := hv
  have hx := B.exec
  have hb := B.bytes
  have hr := B.returns
  have hts := atoms_spec (ws := wsX12_init) B.pre
  have hown : s.vm.findClass RX12 = some m.cls := findClass_of_methodNamed B.named
  have hlocks := B.notSynchronized
  have hS : va_S A s.heap s.heap [] := va_S.rf
  have hin2 : meth.name = "<init>" := (name_of_methodNamed B.named B.method).1
  have hl := lv_entry ([.ref a]) (n := 1) (Nat.le_of_ble_eq_true rfl)
  rw [lg_entry_eq]
  generalize (lg_sl ([.ref a]) ++ List.replicate (1 - (lg_sl ([.ref a])).length) Slot.unset).toArray = ls at hl ⊢
  have hl : lv_has ls 1 [(0, .ref a)] := hl
  have hLu : u.1 = u.1 := rfl
  have hMu : ∀ x, x ∈ u.1 → x ∈ u.1 := fun _ h => h
  have hOu : ∀ x, x ∈ u.1 → x ≠ a → u.2 x = u.2 x := fun _ _ _ => rfl
  refine lv_aload_n hx hb dX12_init_0 rfl (lv_at hl 0 rfl) ?_
  refine W.objInit hx hb hown (hts (.methodLink RX12 1 objectInit) (List.mem_cons_of_mem _ (List.mem_append_left _ (List.mem_append_left _ (List.mem_of_getElem? (i := 0) rfl))))) (hts (.instanceMethod objectInit) (List.mem_cons_of_mem _ (List.mem_append_left _ (List.mem_append_left _ (List.mem_of_getElem? (i := 1) rfl))))) (hts (.code objectInit ⟨#[0xb1]⟩ 1 none) (List.mem_cons_of_mem _ (List.mem_append_left _ (List.mem_append_left _ (List.mem_of_getElem? (i := 2) rfl))))) rfl (by rw [hml]; exact hl.1) rfl dX12_init_1 (Nat.le_of_ble_eq_true rfl) (Nat.le_of_ble_eq_true rfl) ?_
  refine W.eq (g2 := F0 m 4 ls []) rfl ?_
  refine lv_aload_n hx hb dX12_init_4 rfl (lv_at hl 0 rfl) ?_
  refine z_sipush hx hb dX12_init_5 (by decide) ?_
  refine p_newZ (z := 288) (M := 288) hx hb (hts (.arrayClass .boolean) (List.mem_cons_of_mem _ (List.mem_append_left _ (List.mem_append_left _ (List.mem_of_getElem? (i := 3) rfl))))) hI hG hS (by omega) (by omega) (by omega) (Nat.le_of_ble_eq_true rfl) (Nat.le_of_ble_eq_true rfl) dX12_init_8 (fun b1 u2 H hu2 hEb1 hpu2 hnb1 hG hS => ?_)
  have hEb1 : u2.2 b1 = .inl (cy 2, 288, .inl (fun _ => zI 0)) := hEb1
  have fb1 : b1 ∉ u.1 := by rw [← hLu]; exact hnb1
  have hLu2 : u2.1 = (u.1 ++ [b1]) := by rw [hu2, hLu]
  have hMu2 : ∀ x, x ∈ u.1 → x ∈ u2.1 := fun x hx => by rw [hu2]; exact List.mem_append_left _ (hMu x hx)
  have hOu2 : ∀ x, x ∈ u.1 → x ≠ a → u2.2 x = u.2 x := fun x hx ne => (hpu2 x (hMu x hx)).trans (hOu x hx ne)
  have da_b1 : a ≠ b1 := fun h => hnb1 (h ▸ ha_a)
  have mt3 : a ∈ u2.1 := (fun x hx => by rw [hu2]; exact List.mem_append_left _ hx : ∀ x, x ∈ u.1 → x ∈ u2.1) a ha_a
  have et3 : u2.2 a = .inr (11, (.int (zI 0) :: .null :: .null :: .null :: .int (zI 0) :: .int (zI 0) :: .int (zI 0) :: .null :: .null :: .null :: .null :: .null :: .null :: .null :: .null :: .int (zI 0) :: .int (zI 0) :: .null :: .null :: .null :: .null :: .int (zI 0) :: .null :: .int (zI 0) :: .null :: .int (zI 0) :: .null :: .null :: .null :: .null :: .null :: .null :: .null :: .null :: .null :: .null :: .null :: .null :: .null :: .null :: .null :: .null :: [])) := (hpu2 a ha_a).trans hE_a
  have mb1 : b1 ∈ u2.1 := by rw [hu2]; exact List.mem_append_right _ List.mem_cons_self
  obtain ⟨k9, hk9⟩ := p_get D u2 mt3
  refine va_putF (C := RX12) (T := TX12) (N := 42) (ci := 11) (ty := tyX12 1) hx hb hts (fun _ h => (List.mem_cons_of_mem _ (List.mem_append_right _ h))) tyX12 tyX12_ok nmX12 hown hI.1 hG.1 hG.2 hS k9 (hk9.trans (by rw [et3])) rfl 1 (by decide) (hts (.fieldLink RX12 7 "StraitSwimModel" "cells" "[Z") (List.mem_cons_of_mem _ (List.mem_append_left _ (List.mem_append_left _ (List.mem_of_getElem? (i := 4) rfl))))) (fun _ h9 => h9) rfl hin2 rfl (tyX12_ok 1 (by decide)) rfl rfl (Nat.le_of_ble_eq_true rfl) dX12_init_10 (fun H locs hP hD hS => ?_)
  obtain ⟨u4, hu4, hEu4, hpu4, hG⟩ := p_set (e := .inr (11, (.int (zI 0) :: .ref b1 :: .null :: .null :: .int (zI 0) :: .int (zI 0) :: .int (zI 0) :: .null :: .null :: .null :: .null :: .null :: .null :: .null :: .null :: .int (zI 0) :: .int (zI 0) :: .null :: .null :: .null :: .null :: .int (zI 0) :: .null :: .int (zI 0) :: .null :: .int (zI 0) :: .null :: .null :: .null :: .null :: .null :: .null :: .null :: .null :: .null :: .null :: .null :: .null :: .null :: .null :: .null :: .null :: []))) hG mt3 hk9 hP hD
  have mt5 : a ∈ u4.1 := (fun x hx => by rw [hu4]; exact hx : ∀ x, x ∈ u2.1 → x ∈ u4.1) a mt3
  have mt6 : b1 ∈ u4.1 := (fun x hx => by rw [hu4]; exact hx : ∀ x, x ∈ u2.1 → x ∈ u4.1) b1 mb1
  have et6 : u4.2 b1 = .inl (cy 2, 288, .inl (fun _ => zI 0)) := (hpu4 b1 (fun h => (fun h9 => da_b1 h9.symm) h)).trans hEb1
  have hLu4 : u4.1 = (u.1 ++ [b1]) := by rw [hu4, hLu2]
  have hMu4 : ∀ x, x ∈ u.1 → x ∈ u4.1 := fun x hx => by rw [hu4]; exact hMu2 x hx
  have hOu4 : ∀ x, x ∈ u.1 → x ≠ a → u4.2 x = u.2 x := fun x hx ne => (hpu4 x ne).trans (hOu2 x hx ne)
  refine lv_aload_n hx hb dX12_init_13 rfl (lv_at hl 0 rfl) ?_
  refine z_bipush hx hb dX12_init_14 (by decide) ?_
  refine p_newI (z := 36) (M := 36) hx hb (hts (.arrayClass .int) (List.mem_cons_of_mem _ (List.mem_append_left _ (List.mem_append_left _ (List.mem_of_getElem? (i := 5) rfl))))) hI hG hS (by omega) (by omega) (by omega) (Nat.le_of_ble_eq_true rfl) (Nat.le_of_ble_eq_true rfl) dX12_init_16 (fun b7 u8 H hu8 hEb7 hpu8 hnb7 hG hS => ?_)
  have hEb7 : u8.2 b7 = .inl (cy 0, 36, .inl (fun _ => zI 0)) := hEb7
  have fb7 : b7 ∉ (u.1 ++ [b1]) := by rw [← hLu4]; exact hnb7
  have hLu8 : u8.1 = ((u.1 ++ [b1]) ++ [b7]) := by rw [hu8, hLu4]
  have hMu8 : ∀ x, x ∈ u.1 → x ∈ u8.1 := fun x hx => by rw [hu8]; exact List.mem_append_left _ (hMu4 x hx)
  have hOu8 : ∀ x, x ∈ u.1 → x ≠ a → u8.2 x = u.2 x := fun x hx ne => (hpu8 x (hMu4 x hx)).trans (hOu4 x hx ne)
  have da_b7 : a ≠ b7 := fun h => hnb7 (h ▸ mt5)
  have db1_b7 : b1 ≠ b7 := fun h => hnb7 (h ▸ mt6)
  have mt9 : a ∈ u8.1 := (fun x hx => by rw [hu8]; exact List.mem_append_left _ hx : ∀ x, x ∈ u4.1 → x ∈ u8.1) a mt5
  have et9 : u8.2 a = .inr (11, (.int (zI 0) :: .ref b1 :: .null :: .null :: .int (zI 0) :: .int (zI 0) :: .int (zI 0) :: .null :: .null :: .null :: .null :: .null :: .null :: .null :: .null :: .int (zI 0) :: .int (zI 0) :: .null :: .null :: .null :: .null :: .int (zI 0) :: .null :: .int (zI 0) :: .null :: .int (zI 0) :: .null :: .null :: .null :: .null :: .null :: .null :: .null :: .null :: .null :: .null :: .null :: .null :: .null :: .null :: .null :: .null :: [])) := (hpu8 a mt5).trans hEu4
  have mt10 : b1 ∈ u8.1 := (fun x hx => by rw [hu8]; exact List.mem_append_left _ hx : ∀ x, x ∈ u4.1 → x ∈ u8.1) b1 mt6
  have et10 : u8.2 b1 = .inl (cy 2, 288, .inl (fun _ => zI 0)) := (hpu8 b1 mt6).trans et6
  have mb7 : b7 ∈ u8.1 := by rw [hu8]; exact List.mem_append_right _ List.mem_cons_self
  obtain ⟨k9, hk9⟩ := p_get D u8 mt9
  refine va_putF (C := RX12) (T := TX12) (N := 42) (ci := 11) (ty := tyX12 2) hx hb hts (fun _ h => (List.mem_cons_of_mem _ (List.mem_append_right _ h))) tyX12 tyX12_ok nmX12 hown hI.1 hG.1 hG.2 hS k9 (hk9.trans (by rw [et9])) rfl 2 (by decide) (hts (.fieldLink RX12 13 "StraitSwimModel" "easts" "[I") (List.mem_cons_of_mem _ (List.mem_append_left _ (List.mem_append_left _ (List.mem_of_getElem? (i := 6) rfl))))) (fun _ h9 => h9) rfl hin2 rfl (tyX12_ok 2 (by decide)) rfl rfl (Nat.le_of_ble_eq_true rfl) dX12_init_18 (fun H locs hP hD hS => ?_)
  obtain ⟨u11, hu11, hEu11, hpu11, hG⟩ := p_set (e := .inr (11, (.int (zI 0) :: .ref b1 :: .ref b7 :: .null :: .int (zI 0) :: .int (zI 0) :: .int (zI 0) :: .null :: .null :: .null :: .null :: .null :: .null :: .null :: .null :: .int (zI 0) :: .int (zI 0) :: .null :: .null :: .null :: .null :: .int (zI 0) :: .null :: .int (zI 0) :: .null :: .int (zI 0) :: .null :: .null :: .null :: .null :: .null :: .null :: .null :: .null :: .null :: .null :: .null :: .null :: .null :: .null :: .null :: .null :: []))) hG mt9 hk9 hP hD
  have mt12 : a ∈ u11.1 := (fun x hx => by rw [hu11]; exact hx : ∀ x, x ∈ u8.1 → x ∈ u11.1) a mt9
  have mt13 : b1 ∈ u11.1 := (fun x hx => by rw [hu11]; exact hx : ∀ x, x ∈ u8.1 → x ∈ u11.1) b1 mt10
  have et13 : u11.2 b1 = .inl (cy 2, 288, .inl (fun _ => zI 0)) := (hpu11 b1 (fun h => (fun h9 => da_b1 h9.symm) h)).trans et10
  have mt14 : b7 ∈ u11.1 := (fun x hx => by rw [hu11]; exact hx : ∀ x, x ∈ u8.1 → x ∈ u11.1) b7 mb7
  have et14 : u11.2 b7 = .inl (cy 0, 36, .inl (fun _ => zI 0)) := (hpu11 b7 (fun h => (fun h9 => da_b7 h9.symm) h)).trans hEb7
  have hLu11 : u11.1 = ((u.1 ++ [b1]) ++ [b7]) := by rw [hu11, hLu8]
  have hMu11 : ∀ x, x ∈ u.1 → x ∈ u11.1 := fun x hx => by rw [hu11]; exact hMu8 x hx
  have hOu11 : ∀ x, x ∈ u.1 → x ≠ a → u11.2 x = u.2 x := fun x hx ne => (hpu11 x ne).trans (hOu8 x hx ne)
  refine lv_aload_n hx hb dX12_init_21 rfl (lv_at hl 0 rfl) ?_
  refine z_bipush hx hb dX12_init_22 (by decide) ?_
  refine p_newI (z := 36) (M := 36) hx hb (hts (.arrayClass .int) (List.mem_cons_of_mem _ (List.mem_append_left _ (List.mem_append_left _ (List.mem_of_getElem? (i := 5) rfl))))) hI hG hS (by omega) (by omega) (by omega) (Nat.le_of_ble_eq_true rfl) (Nat.le_of_ble_eq_true rfl) dX12_init_24 (fun b15 u16 H hu16 hEb15 hpu16 hnb15 hG hS => ?_)
  have hEb15 : u16.2 b15 = .inl (cy 0, 36, .inl (fun _ => zI 0)) := hEb15
  have fb15 : b15 ∉ ((u.1 ++ [b1]) ++ [b7]) := by rw [← hLu11]; exact hnb15
  have hLu16 : u16.1 = (((u.1 ++ [b1]) ++ [b7]) ++ [b15]) := by rw [hu16, hLu11]
  have hMu16 : ∀ x, x ∈ u.1 → x ∈ u16.1 := fun x hx => by rw [hu16]; exact List.mem_append_left _ (hMu11 x hx)
  have hOu16 : ∀ x, x ∈ u.1 → x ≠ a → u16.2 x = u.2 x := fun x hx ne => (hpu16 x (hMu11 x hx)).trans (hOu11 x hx ne)
  have da_b15 : a ≠ b15 := fun h => hnb15 (h ▸ mt12)
  have db1_b15 : b1 ≠ b15 := fun h => hnb15 (h ▸ mt13)
  have db7_b15 : b7 ≠ b15 := fun h => hnb15 (h ▸ mt14)
  have mt17 : a ∈ u16.1 := (fun x hx => by rw [hu16]; exact List.mem_append_left _ hx : ∀ x, x ∈ u11.1 → x ∈ u16.1) a mt12
  have et17 : u16.2 a = .inr (11, (.int (zI 0) :: .ref b1 :: .ref b7 :: .null :: .int (zI 0) :: .int (zI 0) :: .int (zI 0) :: .null :: .null :: .null :: .null :: .null :: .null :: .null :: .null :: .int (zI 0) :: .int (zI 0) :: .null :: .null :: .null :: .null :: .int (zI 0) :: .null :: .int (zI 0) :: .null :: .int (zI 0) :: .null :: .null :: .null :: .null :: .null :: .null :: .null :: .null :: .null :: .null :: .null :: .null :: .null :: .null :: .null :: .null :: [])) := (hpu16 a mt12).trans hEu11
  have mt18 : b1 ∈ u16.1 := (fun x hx => by rw [hu16]; exact List.mem_append_left _ hx : ∀ x, x ∈ u11.1 → x ∈ u16.1) b1 mt13
  have et18 : u16.2 b1 = .inl (cy 2, 288, .inl (fun _ => zI 0)) := (hpu16 b1 mt13).trans et13
  have mt19 : b7 ∈ u16.1 := (fun x hx => by rw [hu16]; exact List.mem_append_left _ hx : ∀ x, x ∈ u11.1 → x ∈ u16.1) b7 mt14
  have et19 : u16.2 b7 = .inl (cy 0, 36, .inl (fun _ => zI 0)) := (hpu16 b7 mt14).trans et14
  have mb15 : b15 ∈ u16.1 := by rw [hu16]; exact List.mem_append_right _ List.mem_cons_self
  obtain ⟨k9, hk9⟩ := p_get D u16 mt17
  refine va_putF (C := RX12) (T := TX12) (N := 42) (ci := 11) (ty := tyX12 3) hx hb hts (fun _ h => (List.mem_cons_of_mem _ (List.mem_append_right _ h))) tyX12 tyX12_ok nmX12 hown hI.1 hG.1 hG.2 hS k9 (hk9.trans (by rw [et17])) rfl 3 (by decide) (hts (.fieldLink RX12 17 "StraitSwimModel" "norths" "[I") (List.mem_cons_of_mem _ (List.mem_append_left _ (List.mem_append_left _ (List.mem_of_getElem? (i := 7) rfl))))) (fun _ h9 => h9) rfl hin2 rfl (tyX12_ok 3 (by decide)) rfl rfl (Nat.le_of_ble_eq_true rfl) dX12_init_26 (fun H locs hP hD hS => ?_)
  obtain ⟨u20, hu20, hEu20, hpu20, hG⟩ := p_set (e := .inr (11, (.int (zI 0) :: .ref b1 :: .ref b7 :: .ref b15 :: .int (zI 0) :: .int (zI 0) :: .int (zI 0) :: .null :: .null :: .null :: .null :: .null :: .null :: .null :: .null :: .int (zI 0) :: .int (zI 0) :: .null :: .null :: .null :: .null :: .int (zI 0) :: .null :: .int (zI 0) :: .null :: .int (zI 0) :: .null :: .null :: .null :: .null :: .null :: .null :: .null :: .null :: .null :: .null :: .null :: .null :: .null :: .null :: .null :: .null :: []))) hG mt17 hk9 hP hD
  have mt21 : a ∈ u20.1 := (fun x hx => by rw [hu20]; exact hx : ∀ x, x ∈ u16.1 → x ∈ u20.1) a mt17
  have mt22 : b1 ∈ u20.1 := (fun x hx => by rw [hu20]; exact hx : ∀ x, x ∈ u16.1 → x ∈ u20.1) b1 mt18
  have et22 : u20.2 b1 = .inl (cy 2, 288, .inl (fun _ => zI 0)) := (hpu20 b1 (fun h => (fun h9 => da_b1 h9.symm) h)).trans et18
  have mt23 : b7 ∈ u20.1 := (fun x hx => by rw [hu20]; exact hx : ∀ x, x ∈ u16.1 → x ∈ u20.1) b7 mt19
  have et23 : u20.2 b7 = .inl (cy 0, 36, .inl (fun _ => zI 0)) := (hpu20 b7 (fun h => (fun h9 => da_b7 h9.symm) h)).trans et19
  have mt24 : b15 ∈ u20.1 := (fun x hx => by rw [hu20]; exact hx : ∀ x, x ∈ u16.1 → x ∈ u20.1) b15 mb15
  have et24 : u20.2 b15 = .inl (cy 0, 36, .inl (fun _ => zI 0)) := (hpu20 b15 (fun h => (fun h9 => da_b15 h9.symm) h)).trans hEb15
  have hLu20 : u20.1 = (((u.1 ++ [b1]) ++ [b7]) ++ [b15]) := by rw [hu20, hLu16]
  have hMu20 : ∀ x, x ∈ u.1 → x ∈ u20.1 := fun x hx => by rw [hu20]; exact hMu16 x hx
  have hOu20 : ∀ x, x ∈ u.1 → x ≠ a → u20.2 x = u.2 x := fun x hx ne => (hpu20 x ne).trans (hOu16 x hx ne)
  refine lv_aload_n hx hb dX12_init_29 rfl (lv_at hl 0 rfl) ?_
  refine z_iconst hx hb dX12_init_30 ?_
  obtain ⟨k9, hk9⟩ := p_get D u20 mt21
  refine va_put (C := RX12) (T := TX12) (N := 42) (ci := 11) (ty := tyX12 4) hx hb hts (fun _ h => (List.mem_cons_of_mem _ (List.mem_append_right _ h))) tyX12 tyX12_ok nmX12 hown hI.1 hG.1 hG.2 hS k9 (hk9.trans (by rw [hEu20])) rfl 4 (by decide) (hts (.fieldLink RX12 20 "StraitSwimModel" "chill" "I") (List.mem_cons_of_mem _ (List.mem_append_left _ (List.mem_append_left _ (List.mem_of_getElem? (i := 8) rfl))))) (fun _ h9 => h9) rfl (tyX12_ok 4 (by decide)) rfl rfl (Nat.le_of_ble_eq_true rfl) dX12_init_31 (fun H locs hP hD hS => ?_)
  obtain ⟨u25, hu25, hEu25, hpu25, hG⟩ := p_set (e := .inr (11, (.int (zI 0) :: .ref b1 :: .ref b7 :: .ref b15 :: .int (zI 5) :: .int (zI 0) :: .int (zI 0) :: .null :: .null :: .null :: .null :: .null :: .null :: .null :: .null :: .int (zI 0) :: .int (zI 0) :: .null :: .null :: .null :: .null :: .int (zI 0) :: .null :: .int (zI 0) :: .null :: .int (zI 0) :: .null :: .null :: .null :: .null :: .null :: .null :: .null :: .null :: .null :: .null :: .null :: .null :: .null :: .null :: .null :: .null :: []))) hG mt21 hk9 hP hD
  have mt26 : a ∈ u25.1 := (fun x hx => by rw [hu25]; exact hx : ∀ x, x ∈ u20.1 → x ∈ u25.1) a mt21
  have mt27 : b1 ∈ u25.1 := (fun x hx => by rw [hu25]; exact hx : ∀ x, x ∈ u20.1 → x ∈ u25.1) b1 mt22
  have et27 : u25.2 b1 = .inl (cy 2, 288, .inl (fun _ => zI 0)) := (hpu25 b1 (fun h => (fun h9 => da_b1 h9.symm) h)).trans et22
  have mt28 : b7 ∈ u25.1 := (fun x hx => by rw [hu25]; exact hx : ∀ x, x ∈ u20.1 → x ∈ u25.1) b7 mt23
  have et28 : u25.2 b7 = .inl (cy 0, 36, .inl (fun _ => zI 0)) := (hpu25 b7 (fun h => (fun h9 => da_b7 h9.symm) h)).trans et23
  have mt29 : b15 ∈ u25.1 := (fun x hx => by rw [hu25]; exact hx : ∀ x, x ∈ u20.1 → x ∈ u25.1) b15 mt24
  have et29 : u25.2 b15 = .inl (cy 0, 36, .inl (fun _ => zI 0)) := (hpu25 b15 (fun h => (fun h9 => da_b15 h9.symm) h)).trans et24
  have hLu25 : u25.1 = (((u.1 ++ [b1]) ++ [b7]) ++ [b15]) := by rw [hu25, hLu20]
  have hMu25 : ∀ x, x ∈ u.1 → x ∈ u25.1 := fun x hx => by rw [hu25]; exact hMu20 x hx
  have hOu25 : ∀ x, x ∈ u.1 → x ≠ a → u25.2 x = u.2 x := fun x hx ne => (hpu25 x ne).trans (hOu20 x hx ne)
  refine lv_aload_n hx hb dX12_init_34 rfl (lv_at hl 0 rfl) ?_
  refine z_bipush hx hb dX12_init_35 (by decide) ?_
  obtain ⟨k9, hk9⟩ := p_get D u25 mt26
  refine va_put (C := RX12) (T := TX12) (N := 42) (ci := 11) (ty := tyX12 5) hx hb hts (fun _ h => (List.mem_cons_of_mem _ (List.mem_append_right _ h))) tyX12 tyX12_ok nmX12 hown hI.1 hG.1 hG.2 hS k9 (hk9.trans (by rw [hEu25])) rfl 5 (by decide) (hts (.fieldLink RX12 24 "StraitSwimModel" "nearness" "I") (List.mem_cons_of_mem _ (List.mem_append_left _ (List.mem_append_left _ (List.mem_of_getElem? (i := 9) rfl))))) (fun _ h9 => h9) rfl (tyX12_ok 5 (by decide)) rfl rfl (Nat.le_of_ble_eq_true rfl) dX12_init_37 (fun H locs hP hD hS => ?_)
  obtain ⟨u30, hu30, hEu30, hpu30, hG⟩ := p_set (e := .inr (11, (.int (zI 0) :: .ref b1 :: .ref b7 :: .ref b15 :: .int (zI 5) :: .int (zI 20) :: .int (zI 0) :: .null :: .null :: .null :: .null :: .null :: .null :: .null :: .null :: .int (zI 0) :: .int (zI 0) :: .null :: .null :: .null :: .null :: .int (zI 0) :: .null :: .int (zI 0) :: .null :: .int (zI 0) :: .null :: .null :: .null :: .null :: .null :: .null :: .null :: .null :: .null :: .null :: .null :: .null :: .null :: .null :: .null :: .null :: []))) hG mt26 hk9 hP hD
  have mt31 : a ∈ u30.1 := (fun x hx => by rw [hu30]; exact hx : ∀ x, x ∈ u25.1 → x ∈ u30.1) a mt26
  have mt32 : b1 ∈ u30.1 := (fun x hx => by rw [hu30]; exact hx : ∀ x, x ∈ u25.1 → x ∈ u30.1) b1 mt27
  have et32 : u30.2 b1 = .inl (cy 2, 288, .inl (fun _ => zI 0)) := (hpu30 b1 (fun h => (fun h9 => da_b1 h9.symm) h)).trans et27
  have mt33 : b7 ∈ u30.1 := (fun x hx => by rw [hu30]; exact hx : ∀ x, x ∈ u25.1 → x ∈ u30.1) b7 mt28
  have et33 : u30.2 b7 = .inl (cy 0, 36, .inl (fun _ => zI 0)) := (hpu30 b7 (fun h => (fun h9 => da_b7 h9.symm) h)).trans et28
  have mt34 : b15 ∈ u30.1 := (fun x hx => by rw [hu30]; exact hx : ∀ x, x ∈ u25.1 → x ∈ u30.1) b15 mt29
  have et34 : u30.2 b15 = .inl (cy 0, 36, .inl (fun _ => zI 0)) := (hpu30 b15 (fun h => (fun h9 => da_b15 h9.symm) h)).trans et29
  have hLu30 : u30.1 = (((u.1 ++ [b1]) ++ [b7]) ++ [b15]) := by rw [hu30, hLu25]
  have hMu30 : ∀ x, x ∈ u.1 → x ∈ u30.1 := fun x hx => by rw [hu30]; exact hMu25 x hx
  have hOu30 : ∀ x, x ∈ u.1 → x ≠ a → u30.2 x = u.2 x := fun x hx ne => (hpu30 x ne).trans (hOu25 x hx ne)
  refine lv_aload_n hx hb dX12_init_40 rfl (lv_at hl 0 rfl) ?_
  refine z_bipush hx hb dX12_init_41 (by decide) ?_
  refine p_newI (z := 10) (M := 10) hx hb (hts (.arrayClass .int) (List.mem_cons_of_mem _ (List.mem_append_left _ (List.mem_append_left _ (List.mem_of_getElem? (i := 5) rfl))))) hI hG hS (by omega) (by omega) (by omega) (Nat.le_of_ble_eq_true rfl) (Nat.le_of_ble_eq_true rfl) dX12_init_43 (fun b35 u36 H hu36 hEb35 hpu36 hnb35 hG hS => ?_)
  have hEb35 : u36.2 b35 = .inl (cy 0, 10, .inl (fun _ => zI 0)) := hEb35
  have fb35 : b35 ∉ (((u.1 ++ [b1]) ++ [b7]) ++ [b15]) := by rw [← hLu30]; exact hnb35
  have hLu36 : u36.1 = ((((u.1 ++ [b1]) ++ [b7]) ++ [b15]) ++ [b35]) := by rw [hu36, hLu30]
  have hMu36 : ∀ x, x ∈ u.1 → x ∈ u36.1 := fun x hx => by rw [hu36]; exact List.mem_append_left _ (hMu30 x hx)
  have hOu36 : ∀ x, x ∈ u.1 → x ≠ a → u36.2 x = u.2 x := fun x hx ne => (hpu36 x (hMu30 x hx)).trans (hOu30 x hx ne)
  have da_b35 : a ≠ b35 := fun h => hnb35 (h ▸ mt31)
  have db1_b35 : b1 ≠ b35 := fun h => hnb35 (h ▸ mt32)
  have db7_b35 : b7 ≠ b35 := fun h => hnb35 (h ▸ mt33)
  have db15_b35 : b15 ≠ b35 := fun h => hnb35 (h ▸ mt34)
  have mt37 : a ∈ u36.1 := (fun x hx => by rw [hu36]; exact List.mem_append_left _ hx : ∀ x, x ∈ u30.1 → x ∈ u36.1) a mt31
  have et37 : u36.2 a = .inr (11, (.int (zI 0) :: .ref b1 :: .ref b7 :: .ref b15 :: .int (zI 5) :: .int (zI 20) :: .int (zI 0) :: .null :: .null :: .null :: .null :: .null :: .null :: .null :: .null :: .int (zI 0) :: .int (zI 0) :: .null :: .null :: .null :: .null :: .int (zI 0) :: .null :: .int (zI 0) :: .null :: .int (zI 0) :: .null :: .null :: .null :: .null :: .null :: .null :: .null :: .null :: .null :: .null :: .null :: .null :: .null :: .null :: .null :: .null :: [])) := (hpu36 a mt31).trans hEu30
  have mt38 : b1 ∈ u36.1 := (fun x hx => by rw [hu36]; exact List.mem_append_left _ hx : ∀ x, x ∈ u30.1 → x ∈ u36.1) b1 mt32
  have et38 : u36.2 b1 = .inl (cy 2, 288, .inl (fun _ => zI 0)) := (hpu36 b1 mt32).trans et32
  have mt39 : b7 ∈ u36.1 := (fun x hx => by rw [hu36]; exact List.mem_append_left _ hx : ∀ x, x ∈ u30.1 → x ∈ u36.1) b7 mt33
  have et39 : u36.2 b7 = .inl (cy 0, 36, .inl (fun _ => zI 0)) := (hpu36 b7 mt33).trans et33
  have mt40 : b15 ∈ u36.1 := (fun x hx => by rw [hu36]; exact List.mem_append_left _ hx : ∀ x, x ∈ u30.1 → x ∈ u36.1) b15 mt34
  have et40 : u36.2 b15 = .inl (cy 0, 36, .inl (fun _ => zI 0)) := (hpu36 b15 mt34).trans et34
  have mb35 : b35 ∈ u36.1 := by rw [hu36]; exact List.mem_append_right _ List.mem_cons_self
  obtain ⟨k9, hk9⟩ := p_get D u36 mt37
  refine va_putF (C := RX12) (T := TX12) (N := 42) (ci := 11) (ty := tyX12 7) hx hb hts (fun _ h => (List.mem_cons_of_mem _ (List.mem_append_right _ h))) tyX12 tyX12_ok nmX12 hown hI.1 hG.1 hG.2 hS k9 (hk9.trans (by rw [et37])) rfl 7 (by decide) (hts (.fieldLink RX12 27 "StraitSwimModel" "kind" "[I") (List.mem_cons_of_mem _ (List.mem_append_left _ (List.mem_append_left _ (List.mem_of_getElem? (i := 10) rfl))))) (fun _ h9 => h9) rfl hin2 rfl (tyX12_ok 7 (by decide)) rfl rfl (Nat.le_of_ble_eq_true rfl) dX12_init_45 (fun H locs hP hD hS => ?_)
  obtain ⟨u41, hu41, hEu41, hpu41, hG⟩ := p_set (e := .inr (11, (.int (zI 0) :: .ref b1 :: .ref b7 :: .ref b15 :: .int (zI 5) :: .int (zI 20) :: .int (zI 0) :: .ref b35 :: .null :: .null :: .null :: .null :: .null :: .null :: .null :: .int (zI 0) :: .int (zI 0) :: .null :: .null :: .null :: .null :: .int (zI 0) :: .null :: .int (zI 0) :: .null :: .int (zI 0) :: .null :: .null :: .null :: .null :: .null :: .null :: .null :: .null :: .null :: .null :: .null :: .null :: .null :: .null :: .null :: .null :: []))) hG mt37 hk9 hP hD
  have mt42 : a ∈ u41.1 := (fun x hx => by rw [hu41]; exact hx : ∀ x, x ∈ u36.1 → x ∈ u41.1) a mt37
  have mt43 : b1 ∈ u41.1 := (fun x hx => by rw [hu41]; exact hx : ∀ x, x ∈ u36.1 → x ∈ u41.1) b1 mt38
  have et43 : u41.2 b1 = .inl (cy 2, 288, .inl (fun _ => zI 0)) := (hpu41 b1 (fun h => (fun h9 => da_b1 h9.symm) h)).trans et38
  have mt44 : b7 ∈ u41.1 := (fun x hx => by rw [hu41]; exact hx : ∀ x, x ∈ u36.1 → x ∈ u41.1) b7 mt39
  have et44 : u41.2 b7 = .inl (cy 0, 36, .inl (fun _ => zI 0)) := (hpu41 b7 (fun h => (fun h9 => da_b7 h9.symm) h)).trans et39
  have mt45 : b15 ∈ u41.1 := (fun x hx => by rw [hu41]; exact hx : ∀ x, x ∈ u36.1 → x ∈ u41.1) b15 mt40
  have et45 : u41.2 b15 = .inl (cy 0, 36, .inl (fun _ => zI 0)) := (hpu41 b15 (fun h => (fun h9 => da_b15 h9.symm) h)).trans et40
  have mt46 : b35 ∈ u41.1 := (fun x hx => by rw [hu41]; exact hx : ∀ x, x ∈ u36.1 → x ∈ u41.1) b35 mb35
  have et46 : u41.2 b35 = .inl (cy 0, 10, .inl (fun _ => zI 0)) := (hpu41 b35 (fun h => (fun h9 => da_b35 h9.symm) h)).trans hEb35
  have hLu41 : u41.1 = ((((u.1 ++ [b1]) ++ [b7]) ++ [b15]) ++ [b35]) := by rw [hu41, hLu36]
  have hMu41 : ∀ x, x ∈ u.1 → x ∈ u41.1 := fun x hx => by rw [hu41]; exact hMu36 x hx
  have hOu41 : ∀ x, x ∈ u.1 → x ≠ a → u41.2 x = u.2 x := fun x hx ne => (hpu41 x ne).trans (hOu36 x hx ne)
  refine lv_aload_n hx hb dX12_init_48 rfl (lv_at hl 0 rfl) ?_
  refine z_bipush hx hb dX12_init_49 (by decide) ?_
  refine p_newI (z := 10) (M := 10) hx hb (hts (.arrayClass .int) (List.mem_cons_of_mem _ (List.mem_append_left _ (List.mem_append_left _ (List.mem_of_getElem? (i := 5) rfl))))) hI hG hS (by omega) (by omega) (by omega) (Nat.le_of_ble_eq_true rfl) (Nat.le_of_ble_eq_true rfl) dX12_init_51 (fun b47 u48 H hu48 hEb47 hpu48 hnb47 hG hS => ?_)
  have hEb47 : u48.2 b47 = .inl (cy 0, 10, .inl (fun _ => zI 0)) := hEb47
  have fb47 : b47 ∉ ((((u.1 ++ [b1]) ++ [b7]) ++ [b15]) ++ [b35]) := by rw [← hLu41]; exact hnb47
  have hLu48 : u48.1 = (((((u.1 ++ [b1]) ++ [b7]) ++ [b15]) ++ [b35]) ++ [b47]) := by rw [hu48, hLu41]
  have hMu48 : ∀ x, x ∈ u.1 → x ∈ u48.1 := fun x hx => by rw [hu48]; exact List.mem_append_left _ (hMu41 x hx)
  have hOu48 : ∀ x, x ∈ u.1 → x ≠ a → u48.2 x = u.2 x := fun x hx ne => (hpu48 x (hMu41 x hx)).trans (hOu41 x hx ne)
  have da_b47 : a ≠ b47 := fun h => hnb47 (h ▸ mt42)
  have db1_b47 : b1 ≠ b47 := fun h => hnb47 (h ▸ mt43)
  have db7_b47 : b7 ≠ b47 := fun h => hnb47 (h ▸ mt44)
  have db15_b47 : b15 ≠ b47 := fun h => hnb47 (h ▸ mt45)
  have db35_b47 : b35 ≠ b47 := fun h => hnb47 (h ▸ mt46)
  have mt49 : a ∈ u48.1 := (fun x hx => by rw [hu48]; exact List.mem_append_left _ hx : ∀ x, x ∈ u41.1 → x ∈ u48.1) a mt42
  have et49 : u48.2 a = .inr (11, (.int (zI 0) :: .ref b1 :: .ref b7 :: .ref b15 :: .int (zI 5) :: .int (zI 20) :: .int (zI 0) :: .ref b35 :: .null :: .null :: .null :: .null :: .null :: .null :: .null :: .int (zI 0) :: .int (zI 0) :: .null :: .null :: .null :: .null :: .int (zI 0) :: .null :: .int (zI 0) :: .null :: .int (zI 0) :: .null :: .null :: .null :: .null :: .null :: .null :: .null :: .null :: .null :: .null :: .null :: .null :: .null :: .null :: .null :: .null :: [])) := (hpu48 a mt42).trans hEu41
  have mt50 : b1 ∈ u48.1 := (fun x hx => by rw [hu48]; exact List.mem_append_left _ hx : ∀ x, x ∈ u41.1 → x ∈ u48.1) b1 mt43
  have et50 : u48.2 b1 = .inl (cy 2, 288, .inl (fun _ => zI 0)) := (hpu48 b1 mt43).trans et43
  have mt51 : b7 ∈ u48.1 := (fun x hx => by rw [hu48]; exact List.mem_append_left _ hx : ∀ x, x ∈ u41.1 → x ∈ u48.1) b7 mt44
  have et51 : u48.2 b7 = .inl (cy 0, 36, .inl (fun _ => zI 0)) := (hpu48 b7 mt44).trans et44
  have mt52 : b15 ∈ u48.1 := (fun x hx => by rw [hu48]; exact List.mem_append_left _ hx : ∀ x, x ∈ u41.1 → x ∈ u48.1) b15 mt45
  have et52 : u48.2 b15 = .inl (cy 0, 36, .inl (fun _ => zI 0)) := (hpu48 b15 mt45).trans et45
  have mt53 : b35 ∈ u48.1 := (fun x hx => by rw [hu48]; exact List.mem_append_left _ hx : ∀ x, x ∈ u41.1 → x ∈ u48.1) b35 mt46
  have et53 : u48.2 b35 = .inl (cy 0, 10, .inl (fun _ => zI 0)) := (hpu48 b35 mt46).trans et46
  have mb47 : b47 ∈ u48.1 := by rw [hu48]; exact List.mem_append_right _ List.mem_cons_self
  obtain ⟨k9, hk9⟩ := p_get D u48 mt49
  refine va_putF (C := RX12) (T := TX12) (N := 42) (ci := 11) (ty := tyX12 8) hx hb hts (fun _ h => (List.mem_cons_of_mem _ (List.mem_append_right _ h))) tyX12 tyX12_ok nmX12 hown hI.1 hG.1 hG.2 hS k9 (hk9.trans (by rw [et49])) rfl 8 (by decide) (hts (.fieldLink RX12 30 "StraitSwimModel" "speed" "[I") (List.mem_cons_of_mem _ (List.mem_append_left _ (List.mem_append_left _ (List.mem_of_getElem? (i := 11) rfl))))) (fun _ h9 => h9) rfl hin2 rfl (tyX12_ok 8 (by decide)) rfl rfl (Nat.le_of_ble_eq_true rfl) dX12_init_53 (fun H locs hP hD hS => ?_)
  obtain ⟨u54, hu54, hEu54, hpu54, hG⟩ := p_set (e := .inr (11, (.int (zI 0) :: .ref b1 :: .ref b7 :: .ref b15 :: .int (zI 5) :: .int (zI 20) :: .int (zI 0) :: .ref b35 :: .ref b47 :: .null :: .null :: .null :: .null :: .null :: .null :: .int (zI 0) :: .int (zI 0) :: .null :: .null :: .null :: .null :: .int (zI 0) :: .null :: .int (zI 0) :: .null :: .int (zI 0) :: .null :: .null :: .null :: .null :: .null :: .null :: .null :: .null :: .null :: .null :: .null :: .null :: .null :: .null :: .null :: .null :: []))) hG mt49 hk9 hP hD
  have mt55 : a ∈ u54.1 := (fun x hx => by rw [hu54]; exact hx : ∀ x, x ∈ u48.1 → x ∈ u54.1) a mt49
  have mt56 : b1 ∈ u54.1 := (fun x hx => by rw [hu54]; exact hx : ∀ x, x ∈ u48.1 → x ∈ u54.1) b1 mt50
  have et56 : u54.2 b1 = .inl (cy 2, 288, .inl (fun _ => zI 0)) := (hpu54 b1 (fun h => (fun h9 => da_b1 h9.symm) h)).trans et50
  have mt57 : b7 ∈ u54.1 := (fun x hx => by rw [hu54]; exact hx : ∀ x, x ∈ u48.1 → x ∈ u54.1) b7 mt51
  have et57 : u54.2 b7 = .inl (cy 0, 36, .inl (fun _ => zI 0)) := (hpu54 b7 (fun h => (fun h9 => da_b7 h9.symm) h)).trans et51
  have mt58 : b15 ∈ u54.1 := (fun x hx => by rw [hu54]; exact hx : ∀ x, x ∈ u48.1 → x ∈ u54.1) b15 mt52
  have et58 : u54.2 b15 = .inl (cy 0, 36, .inl (fun _ => zI 0)) := (hpu54 b15 (fun h => (fun h9 => da_b15 h9.symm) h)).trans et52
  have mt59 : b35 ∈ u54.1 := (fun x hx => by rw [hu54]; exact hx : ∀ x, x ∈ u48.1 → x ∈ u54.1) b35 mt53
  have et59 : u54.2 b35 = .inl (cy 0, 10, .inl (fun _ => zI 0)) := (hpu54 b35 (fun h => (fun h9 => da_b35 h9.symm) h)).trans et53
  have mt60 : b47 ∈ u54.1 := (fun x hx => by rw [hu54]; exact hx : ∀ x, x ∈ u48.1 → x ∈ u54.1) b47 mb47
  have et60 : u54.2 b47 = .inl (cy 0, 10, .inl (fun _ => zI 0)) := (hpu54 b47 (fun h => (fun h9 => da_b47 h9.symm) h)).trans hEb47
  have hLu54 : u54.1 = (((((u.1 ++ [b1]) ++ [b7]) ++ [b15]) ++ [b35]) ++ [b47]) := by rw [hu54, hLu48]
  have hMu54 : ∀ x, x ∈ u.1 → x ∈ u54.1 := fun x hx => by rw [hu54]; exact hMu48 x hx
  have hOu54 : ∀ x, x ∈ u.1 → x ≠ a → u54.2 x = u.2 x := fun x hx ne => (hpu54 x ne).trans (hOu48 x hx ne)
  refine lv_aload_n hx hb dX12_init_56 rfl (lv_at hl 0 rfl) ?_
  refine z_bipush hx hb dX12_init_57 (by decide) ?_
  refine p_newI (z := 10) (M := 10) hx hb (hts (.arrayClass .int) (List.mem_cons_of_mem _ (List.mem_append_left _ (List.mem_append_left _ (List.mem_of_getElem? (i := 5) rfl))))) hI hG hS (by omega) (by omega) (by omega) (Nat.le_of_ble_eq_true rfl) (Nat.le_of_ble_eq_true rfl) dX12_init_59 (fun b61 u62 H hu62 hEb61 hpu62 hnb61 hG hS => ?_)
  have hEb61 : u62.2 b61 = .inl (cy 0, 10, .inl (fun _ => zI 0)) := hEb61
  have fb61 : b61 ∉ (((((u.1 ++ [b1]) ++ [b7]) ++ [b15]) ++ [b35]) ++ [b47]) := by rw [← hLu54]; exact hnb61
  have hLu62 : u62.1 = ((((((u.1 ++ [b1]) ++ [b7]) ++ [b15]) ++ [b35]) ++ [b47]) ++ [b61]) := by rw [hu62, hLu54]
  have hMu62 : ∀ x, x ∈ u.1 → x ∈ u62.1 := fun x hx => by rw [hu62]; exact List.mem_append_left _ (hMu54 x hx)
  have hOu62 : ∀ x, x ∈ u.1 → x ≠ a → u62.2 x = u.2 x := fun x hx ne => (hpu62 x (hMu54 x hx)).trans (hOu54 x hx ne)
  have da_b61 : a ≠ b61 := fun h => hnb61 (h ▸ mt55)
  have db1_b61 : b1 ≠ b61 := fun h => hnb61 (h ▸ mt56)
  have db7_b61 : b7 ≠ b61 := fun h => hnb61 (h ▸ mt57)
  have db15_b61 : b15 ≠ b61 := fun h => hnb61 (h ▸ mt58)
  have db35_b61 : b35 ≠ b61 := fun h => hnb61 (h ▸ mt59)
  have db47_b61 : b47 ≠ b61 := fun h => hnb61 (h ▸ mt60)
  have mt63 : a ∈ u62.1 := (fun x hx => by rw [hu62]; exact List.mem_append_left _ hx : ∀ x, x ∈ u54.1 → x ∈ u62.1) a mt55
  have et63 : u62.2 a = .inr (11, (.int (zI 0) :: .ref b1 :: .ref b7 :: .ref b15 :: .int (zI 5) :: .int (zI 20) :: .int (zI 0) :: .ref b35 :: .ref b47 :: .null :: .null :: .null :: .null :: .null :: .null :: .int (zI 0) :: .int (zI 0) :: .null :: .null :: .null :: .null :: .int (zI 0) :: .null :: .int (zI 0) :: .null :: .int (zI 0) :: .null :: .null :: .null :: .null :: .null :: .null :: .null :: .null :: .null :: .null :: .null :: .null :: .null :: .null :: .null :: .null :: [])) := (hpu62 a mt55).trans hEu54
  have mt64 : b1 ∈ u62.1 := (fun x hx => by rw [hu62]; exact List.mem_append_left _ hx : ∀ x, x ∈ u54.1 → x ∈ u62.1) b1 mt56
  have et64 : u62.2 b1 = .inl (cy 2, 288, .inl (fun _ => zI 0)) := (hpu62 b1 mt56).trans et56
  have mt65 : b7 ∈ u62.1 := (fun x hx => by rw [hu62]; exact List.mem_append_left _ hx : ∀ x, x ∈ u54.1 → x ∈ u62.1) b7 mt57
  have et65 : u62.2 b7 = .inl (cy 0, 36, .inl (fun _ => zI 0)) := (hpu62 b7 mt57).trans et57
  have mt66 : b15 ∈ u62.1 := (fun x hx => by rw [hu62]; exact List.mem_append_left _ hx : ∀ x, x ∈ u54.1 → x ∈ u62.1) b15 mt58
  have et66 : u62.2 b15 = .inl (cy 0, 36, .inl (fun _ => zI 0)) := (hpu62 b15 mt58).trans et58
  have mt67 : b35 ∈ u62.1 := (fun x hx => by rw [hu62]; exact List.mem_append_left _ hx : ∀ x, x ∈ u54.1 → x ∈ u62.1) b35 mt59
  have et67 : u62.2 b35 = .inl (cy 0, 10, .inl (fun _ => zI 0)) := (hpu62 b35 mt59).trans et59
  have mt68 : b47 ∈ u62.1 := (fun x hx => by rw [hu62]; exact List.mem_append_left _ hx : ∀ x, x ∈ u54.1 → x ∈ u62.1) b47 mt60
  have et68 : u62.2 b47 = .inl (cy 0, 10, .inl (fun _ => zI 0)) := (hpu62 b47 mt60).trans et60
  have mb61 : b61 ∈ u62.1 := by rw [hu62]; exact List.mem_append_right _ List.mem_cons_self
  obtain ⟨k9, hk9⟩ := p_get D u62 mt63
  refine va_putF (C := RX12) (T := TX12) (N := 42) (ci := 11) (ty := tyX12 9) hx hb hts (fun _ h => (List.mem_cons_of_mem _ (List.mem_append_right _ h))) tyX12 tyX12_ok nmX12 hown hI.1 hG.1 hG.2 hS k9 (hk9.trans (by rw [et63])) rfl 9 (by decide) (hts (.fieldLink RX12 33 "StraitSwimModel" "limit" "[I") (List.mem_cons_of_mem _ (List.mem_append_left _ (List.mem_append_left _ (List.mem_of_getElem? (i := 12) rfl))))) (fun _ h9 => h9) rfl hin2 rfl (tyX12_ok 9 (by decide)) rfl rfl (Nat.le_of_ble_eq_true rfl) dX12_init_61 (fun H locs hP hD hS => ?_)
  obtain ⟨u69, hu69, hEu69, hpu69, hG⟩ := p_set (e := .inr (11, (.int (zI 0) :: .ref b1 :: .ref b7 :: .ref b15 :: .int (zI 5) :: .int (zI 20) :: .int (zI 0) :: .ref b35 :: .ref b47 :: .ref b61 :: .null :: .null :: .null :: .null :: .null :: .int (zI 0) :: .int (zI 0) :: .null :: .null :: .null :: .null :: .int (zI 0) :: .null :: .int (zI 0) :: .null :: .int (zI 0) :: .null :: .null :: .null :: .null :: .null :: .null :: .null :: .null :: .null :: .null :: .null :: .null :: .null :: .null :: .null :: .null :: []))) hG mt63 hk9 hP hD
  have mt70 : a ∈ u69.1 := (fun x hx => by rw [hu69]; exact hx : ∀ x, x ∈ u62.1 → x ∈ u69.1) a mt63
  have mt71 : b1 ∈ u69.1 := (fun x hx => by rw [hu69]; exact hx : ∀ x, x ∈ u62.1 → x ∈ u69.1) b1 mt64
  have et71 : u69.2 b1 = .inl (cy 2, 288, .inl (fun _ => zI 0)) := (hpu69 b1 (fun h => (fun h9 => da_b1 h9.symm) h)).trans et64
  have mt72 : b7 ∈ u69.1 := (fun x hx => by rw [hu69]; exact hx : ∀ x, x ∈ u62.1 → x ∈ u69.1) b7 mt65
  have et72 : u69.2 b7 = .inl (cy 0, 36, .inl (fun _ => zI 0)) := (hpu69 b7 (fun h => (fun h9 => da_b7 h9.symm) h)).trans et65
  have mt73 : b15 ∈ u69.1 := (fun x hx => by rw [hu69]; exact hx : ∀ x, x ∈ u62.1 → x ∈ u69.1) b15 mt66
  have et73 : u69.2 b15 = .inl (cy 0, 36, .inl (fun _ => zI 0)) := (hpu69 b15 (fun h => (fun h9 => da_b15 h9.symm) h)).trans et66
  have mt74 : b35 ∈ u69.1 := (fun x hx => by rw [hu69]; exact hx : ∀ x, x ∈ u62.1 → x ∈ u69.1) b35 mt67
  have et74 : u69.2 b35 = .inl (cy 0, 10, .inl (fun _ => zI 0)) := (hpu69 b35 (fun h => (fun h9 => da_b35 h9.symm) h)).trans et67
  have mt75 : b47 ∈ u69.1 := (fun x hx => by rw [hu69]; exact hx : ∀ x, x ∈ u62.1 → x ∈ u69.1) b47 mt68
  have et75 : u69.2 b47 = .inl (cy 0, 10, .inl (fun _ => zI 0)) := (hpu69 b47 (fun h => (fun h9 => da_b47 h9.symm) h)).trans et68
  have mt76 : b61 ∈ u69.1 := (fun x hx => by rw [hu69]; exact hx : ∀ x, x ∈ u62.1 → x ∈ u69.1) b61 mb61
  have et76 : u69.2 b61 = .inl (cy 0, 10, .inl (fun _ => zI 0)) := (hpu69 b61 (fun h => (fun h9 => da_b61 h9.symm) h)).trans hEb61
  have hLu69 : u69.1 = ((((((u.1 ++ [b1]) ++ [b7]) ++ [b15]) ++ [b35]) ++ [b47]) ++ [b61]) := by rw [hu69, hLu62]
  have hMu69 : ∀ x, x ∈ u.1 → x ∈ u69.1 := fun x hx => by rw [hu69]; exact hMu62 x hx
  have hOu69 : ∀ x, x ∈ u.1 → x ≠ a → u69.2 x = u.2 x := fun x hx ne => (hpu69 x ne).trans (hOu62 x hx ne)
  refine lv_aload_n hx hb dX12_init_64 rfl (lv_at hl 0 rfl) ?_
  refine z_bipush hx hb dX12_init_65 (by decide) ?_
  refine p_newI (z := 10) (M := 10) hx hb (hts (.arrayClass .int) (List.mem_cons_of_mem _ (List.mem_append_left _ (List.mem_append_left _ (List.mem_of_getElem? (i := 5) rfl))))) hI hG hS (by omega) (by omega) (by omega) (Nat.le_of_ble_eq_true rfl) (Nat.le_of_ble_eq_true rfl) dX12_init_67 (fun b77 u78 H hu78 hEb77 hpu78 hnb77 hG hS => ?_)
  have hEb77 : u78.2 b77 = .inl (cy 0, 10, .inl (fun _ => zI 0)) := hEb77
  have fb77 : b77 ∉ ((((((u.1 ++ [b1]) ++ [b7]) ++ [b15]) ++ [b35]) ++ [b47]) ++ [b61]) := by rw [← hLu69]; exact hnb77
  have hLu78 : u78.1 = (((((((u.1 ++ [b1]) ++ [b7]) ++ [b15]) ++ [b35]) ++ [b47]) ++ [b61]) ++ [b77]) := by rw [hu78, hLu69]
  have hMu78 : ∀ x, x ∈ u.1 → x ∈ u78.1 := fun x hx => by rw [hu78]; exact List.mem_append_left _ (hMu69 x hx)
  have hOu78 : ∀ x, x ∈ u.1 → x ≠ a → u78.2 x = u.2 x := fun x hx ne => (hpu78 x (hMu69 x hx)).trans (hOu69 x hx ne)
  have da_b77 : a ≠ b77 := fun h => hnb77 (h ▸ mt70)
  have db1_b77 : b1 ≠ b77 := fun h => hnb77 (h ▸ mt71)
  have db7_b77 : b7 ≠ b77 := fun h => hnb77 (h ▸ mt72)
  have db15_b77 : b15 ≠ b77 := fun h => hnb77 (h ▸ mt73)
  have db35_b77 : b35 ≠ b77 := fun h => hnb77 (h ▸ mt74)
  have db47_b77 : b47 ≠ b77 := fun h => hnb77 (h ▸ mt75)
  have db61_b77 : b61 ≠ b77 := fun h => hnb77 (h ▸ mt76)
  have mt79 : a ∈ u78.1 := (fun x hx => by rw [hu78]; exact List.mem_append_left _ hx : ∀ x, x ∈ u69.1 → x ∈ u78.1) a mt70
  have et79 : u78.2 a = .inr (11, (.int (zI 0) :: .ref b1 :: .ref b7 :: .ref b15 :: .int (zI 5) :: .int (zI 20) :: .int (zI 0) :: .ref b35 :: .ref b47 :: .ref b61 :: .null :: .null :: .null :: .null :: .null :: .int (zI 0) :: .int (zI 0) :: .null :: .null :: .null :: .null :: .int (zI 0) :: .null :: .int (zI 0) :: .null :: .int (zI 0) :: .null :: .null :: .null :: .null :: .null :: .null :: .null :: .null :: .null :: .null :: .null :: .null :: .null :: .null :: .null :: .null :: [])) := (hpu78 a mt70).trans hEu69
  have mt80 : b1 ∈ u78.1 := (fun x hx => by rw [hu78]; exact List.mem_append_left _ hx : ∀ x, x ∈ u69.1 → x ∈ u78.1) b1 mt71
  have et80 : u78.2 b1 = .inl (cy 2, 288, .inl (fun _ => zI 0)) := (hpu78 b1 mt71).trans et71
  have mt81 : b7 ∈ u78.1 := (fun x hx => by rw [hu78]; exact List.mem_append_left _ hx : ∀ x, x ∈ u69.1 → x ∈ u78.1) b7 mt72
  have et81 : u78.2 b7 = .inl (cy 0, 36, .inl (fun _ => zI 0)) := (hpu78 b7 mt72).trans et72
  have mt82 : b15 ∈ u78.1 := (fun x hx => by rw [hu78]; exact List.mem_append_left _ hx : ∀ x, x ∈ u69.1 → x ∈ u78.1) b15 mt73
  have et82 : u78.2 b15 = .inl (cy 0, 36, .inl (fun _ => zI 0)) := (hpu78 b15 mt73).trans et73
  have mt83 : b35 ∈ u78.1 := (fun x hx => by rw [hu78]; exact List.mem_append_left _ hx : ∀ x, x ∈ u69.1 → x ∈ u78.1) b35 mt74
  have et83 : u78.2 b35 = .inl (cy 0, 10, .inl (fun _ => zI 0)) := (hpu78 b35 mt74).trans et74
  have mt84 : b47 ∈ u78.1 := (fun x hx => by rw [hu78]; exact List.mem_append_left _ hx : ∀ x, x ∈ u69.1 → x ∈ u78.1) b47 mt75
  have et84 : u78.2 b47 = .inl (cy 0, 10, .inl (fun _ => zI 0)) := (hpu78 b47 mt75).trans et75
  have mt85 : b61 ∈ u78.1 := (fun x hx => by rw [hu78]; exact List.mem_append_left _ hx : ∀ x, x ∈ u69.1 → x ∈ u78.1) b61 mt76
  have et85 : u78.2 b61 = .inl (cy 0, 10, .inl (fun _ => zI 0)) := (hpu78 b61 mt76).trans et76
  have mb77 : b77 ∈ u78.1 := by rw [hu78]; exact List.mem_append_right _ List.mem_cons_self
  obtain ⟨k9, hk9⟩ := p_get D u78 mt79
  refine va_putF (C := RX12) (T := TX12) (N := 42) (ci := 11) (ty := tyX12 10) hx hb hts (fun _ h => (List.mem_cons_of_mem _ (List.mem_append_right _ h))) tyX12 tyX12_ok nmX12 hown hI.1 hG.1 hG.2 hS k9 (hk9.trans (by rw [et79])) rfl 10 (by decide) (hts (.fieldLink RX12 36 "StraitSwimModel" "feeds" "[I") (List.mem_cons_of_mem _ (List.mem_append_left _ (List.mem_append_left _ (List.mem_of_getElem? (i := 13) rfl))))) (fun _ h9 => h9) rfl hin2 rfl (tyX12_ok 10 (by decide)) rfl rfl (Nat.le_of_ble_eq_true rfl) dX12_init_69 (fun H locs hP hD hS => ?_)
  obtain ⟨u86, hu86, hEu86, hpu86, hG⟩ := p_set (e := .inr (11, (.int (zI 0) :: .ref b1 :: .ref b7 :: .ref b15 :: .int (zI 5) :: .int (zI 20) :: .int (zI 0) :: .ref b35 :: .ref b47 :: .ref b61 :: .ref b77 :: .null :: .null :: .null :: .null :: .int (zI 0) :: .int (zI 0) :: .null :: .null :: .null :: .null :: .int (zI 0) :: .null :: .int (zI 0) :: .null :: .int (zI 0) :: .null :: .null :: .null :: .null :: .null :: .null :: .null :: .null :: .null :: .null :: .null :: .null :: .null :: .null :: .null :: .null :: []))) hG mt79 hk9 hP hD
  have mt87 : a ∈ u86.1 := (fun x hx => by rw [hu86]; exact hx : ∀ x, x ∈ u78.1 → x ∈ u86.1) a mt79
  have mt88 : b1 ∈ u86.1 := (fun x hx => by rw [hu86]; exact hx : ∀ x, x ∈ u78.1 → x ∈ u86.1) b1 mt80
  have et88 : u86.2 b1 = .inl (cy 2, 288, .inl (fun _ => zI 0)) := (hpu86 b1 (fun h => (fun h9 => da_b1 h9.symm) h)).trans et80
  have mt89 : b7 ∈ u86.1 := (fun x hx => by rw [hu86]; exact hx : ∀ x, x ∈ u78.1 → x ∈ u86.1) b7 mt81
  have et89 : u86.2 b7 = .inl (cy 0, 36, .inl (fun _ => zI 0)) := (hpu86 b7 (fun h => (fun h9 => da_b7 h9.symm) h)).trans et81
  have mt90 : b15 ∈ u86.1 := (fun x hx => by rw [hu86]; exact hx : ∀ x, x ∈ u78.1 → x ∈ u86.1) b15 mt82
  have et90 : u86.2 b15 = .inl (cy 0, 36, .inl (fun _ => zI 0)) := (hpu86 b15 (fun h => (fun h9 => da_b15 h9.symm) h)).trans et82
  have mt91 : b35 ∈ u86.1 := (fun x hx => by rw [hu86]; exact hx : ∀ x, x ∈ u78.1 → x ∈ u86.1) b35 mt83
  have et91 : u86.2 b35 = .inl (cy 0, 10, .inl (fun _ => zI 0)) := (hpu86 b35 (fun h => (fun h9 => da_b35 h9.symm) h)).trans et83
  have mt92 : b47 ∈ u86.1 := (fun x hx => by rw [hu86]; exact hx : ∀ x, x ∈ u78.1 → x ∈ u86.1) b47 mt84
  have et92 : u86.2 b47 = .inl (cy 0, 10, .inl (fun _ => zI 0)) := (hpu86 b47 (fun h => (fun h9 => da_b47 h9.symm) h)).trans et84
  have mt93 : b61 ∈ u86.1 := (fun x hx => by rw [hu86]; exact hx : ∀ x, x ∈ u78.1 → x ∈ u86.1) b61 mt85
  have et93 : u86.2 b61 = .inl (cy 0, 10, .inl (fun _ => zI 0)) := (hpu86 b61 (fun h => (fun h9 => da_b61 h9.symm) h)).trans et85
  have mt94 : b77 ∈ u86.1 := (fun x hx => by rw [hu86]; exact hx : ∀ x, x ∈ u78.1 → x ∈ u86.1) b77 mb77
  have et94 : u86.2 b77 = .inl (cy 0, 10, .inl (fun _ => zI 0)) := (hpu86 b77 (fun h => (fun h9 => da_b77 h9.symm) h)).trans hEb77
  have hLu86 : u86.1 = (((((((u.1 ++ [b1]) ++ [b7]) ++ [b15]) ++ [b35]) ++ [b47]) ++ [b61]) ++ [b77]) := by rw [hu86, hLu78]
  have hMu86 : ∀ x, x ∈ u.1 → x ∈ u86.1 := fun x hx => by rw [hu86]; exact hMu78 x hx
  have hOu86 : ∀ x, x ∈ u.1 → x ≠ a → u86.2 x = u.2 x := fun x hx ne => (hpu86 x ne).trans (hOu78 x hx ne)
  refine lv_aload_n hx hb dX12_init_72 rfl (lv_at hl 0 rfl) ?_
  refine z_sipush hx hb dX12_init_73 (by decide) ?_
  refine p_newI (z := 202) (M := 202) hx hb (hts (.arrayClass .int) (List.mem_cons_of_mem _ (List.mem_append_left _ (List.mem_append_left _ (List.mem_of_getElem? (i := 5) rfl))))) hI hG hS (by omega) (by omega) (by omega) (Nat.le_of_ble_eq_true rfl) (Nat.le_of_ble_eq_true rfl) dX12_init_76 (fun b95 u96 H hu96 hEb95 hpu96 hnb95 hG hS => ?_)
  have hEb95 : u96.2 b95 = .inl (cy 0, 202, .inl (fun _ => zI 0)) := hEb95
  have fb95 : b95 ∉ (((((((u.1 ++ [b1]) ++ [b7]) ++ [b15]) ++ [b35]) ++ [b47]) ++ [b61]) ++ [b77]) := by rw [← hLu86]; exact hnb95
  have hLu96 : u96.1 = ((((((((u.1 ++ [b1]) ++ [b7]) ++ [b15]) ++ [b35]) ++ [b47]) ++ [b61]) ++ [b77]) ++ [b95]) := by rw [hu96, hLu86]
  have hMu96 : ∀ x, x ∈ u.1 → x ∈ u96.1 := fun x hx => by rw [hu96]; exact List.mem_append_left _ (hMu86 x hx)
  have hOu96 : ∀ x, x ∈ u.1 → x ≠ a → u96.2 x = u.2 x := fun x hx ne => (hpu96 x (hMu86 x hx)).trans (hOu86 x hx ne)
  have da_b95 : a ≠ b95 := fun h => hnb95 (h ▸ mt87)
  have db1_b95 : b1 ≠ b95 := fun h => hnb95 (h ▸ mt88)
  have db7_b95 : b7 ≠ b95 := fun h => hnb95 (h ▸ mt89)
  have db15_b95 : b15 ≠ b95 := fun h => hnb95 (h ▸ mt90)
  have db35_b95 : b35 ≠ b95 := fun h => hnb95 (h ▸ mt91)
  have db47_b95 : b47 ≠ b95 := fun h => hnb95 (h ▸ mt92)
  have db61_b95 : b61 ≠ b95 := fun h => hnb95 (h ▸ mt93)
  have db77_b95 : b77 ≠ b95 := fun h => hnb95 (h ▸ mt94)
  have mt97 : a ∈ u96.1 := (fun x hx => by rw [hu96]; exact List.mem_append_left _ hx : ∀ x, x ∈ u86.1 → x ∈ u96.1) a mt87
  have et97 : u96.2 a = .inr (11, (.int (zI 0) :: .ref b1 :: .ref b7 :: .ref b15 :: .int (zI 5) :: .int (zI 20) :: .int (zI 0) :: .ref b35 :: .ref b47 :: .ref b61 :: .ref b77 :: .null :: .null :: .null :: .null :: .int (zI 0) :: .int (zI 0) :: .null :: .null :: .null :: .null :: .int (zI 0) :: .null :: .int (zI 0) :: .null :: .int (zI 0) :: .null :: .null :: .null :: .null :: .null :: .null :: .null :: .null :: .null :: .null :: .null :: .null :: .null :: .null :: .null :: .null :: [])) := (hpu96 a mt87).trans hEu86
  have mt98 : b1 ∈ u96.1 := (fun x hx => by rw [hu96]; exact List.mem_append_left _ hx : ∀ x, x ∈ u86.1 → x ∈ u96.1) b1 mt88
  have et98 : u96.2 b1 = .inl (cy 2, 288, .inl (fun _ => zI 0)) := (hpu96 b1 mt88).trans et88
  have mt99 : b7 ∈ u96.1 := (fun x hx => by rw [hu96]; exact List.mem_append_left _ hx : ∀ x, x ∈ u86.1 → x ∈ u96.1) b7 mt89
  have et99 : u96.2 b7 = .inl (cy 0, 36, .inl (fun _ => zI 0)) := (hpu96 b7 mt89).trans et89
  have mt100 : b15 ∈ u96.1 := (fun x hx => by rw [hu96]; exact List.mem_append_left _ hx : ∀ x, x ∈ u86.1 → x ∈ u96.1) b15 mt90
  have et100 : u96.2 b15 = .inl (cy 0, 36, .inl (fun _ => zI 0)) := (hpu96 b15 mt90).trans et90
  have mt101 : b35 ∈ u96.1 := (fun x hx => by rw [hu96]; exact List.mem_append_left _ hx : ∀ x, x ∈ u86.1 → x ∈ u96.1) b35 mt91
  have et101 : u96.2 b35 = .inl (cy 0, 10, .inl (fun _ => zI 0)) := (hpu96 b35 mt91).trans et91
  have mt102 : b47 ∈ u96.1 := (fun x hx => by rw [hu96]; exact List.mem_append_left _ hx : ∀ x, x ∈ u86.1 → x ∈ u96.1) b47 mt92
  have et102 : u96.2 b47 = .inl (cy 0, 10, .inl (fun _ => zI 0)) := (hpu96 b47 mt92).trans et92
  have mt103 : b61 ∈ u96.1 := (fun x hx => by rw [hu96]; exact List.mem_append_left _ hx : ∀ x, x ∈ u86.1 → x ∈ u96.1) b61 mt93
  have et103 : u96.2 b61 = .inl (cy 0, 10, .inl (fun _ => zI 0)) := (hpu96 b61 mt93).trans et93
  have mt104 : b77 ∈ u96.1 := (fun x hx => by rw [hu96]; exact List.mem_append_left _ hx : ∀ x, x ∈ u86.1 → x ∈ u96.1) b77 mt94
  have et104 : u96.2 b77 = .inl (cy 0, 10, .inl (fun _ => zI 0)) := (hpu96 b77 mt94).trans et94
  have mb95 : b95 ∈ u96.1 := by rw [hu96]; exact List.mem_append_right _ List.mem_cons_self
  obtain ⟨k9, hk9⟩ := p_get D u96 mt97
  refine va_putF (C := RX12) (T := TX12) (N := 42) (ci := 11) (ty := tyX12 11) hx hb hts (fun _ h => (List.mem_cons_of_mem _ (List.mem_append_right _ h))) tyX12 tyX12_ok nmX12 hown hI.1 hG.1 hG.2 hS k9 (hk9.trans (by rw [et97])) rfl 11 (by decide) (hts (.fieldLink RX12 39 "StraitSwimModel" "pathX" "[I") (List.mem_cons_of_mem _ (List.mem_append_left _ (List.mem_append_left _ (List.mem_of_getElem? (i := 14) rfl))))) (fun _ h9 => h9) rfl hin2 rfl (tyX12_ok 11 (by decide)) rfl rfl (Nat.le_of_ble_eq_true rfl) dX12_init_78 (fun H locs hP hD hS => ?_)
  obtain ⟨u105, hu105, hEu105, hpu105, hG⟩ := p_set (e := .inr (11, (.int (zI 0) :: .ref b1 :: .ref b7 :: .ref b15 :: .int (zI 5) :: .int (zI 20) :: .int (zI 0) :: .ref b35 :: .ref b47 :: .ref b61 :: .ref b77 :: .ref b95 :: .null :: .null :: .null :: .int (zI 0) :: .int (zI 0) :: .null :: .null :: .null :: .null :: .int (zI 0) :: .null :: .int (zI 0) :: .null :: .int (zI 0) :: .null :: .null :: .null :: .null :: .null :: .null :: .null :: .null :: .null :: .null :: .null :: .null :: .null :: .null :: .null :: .null :: []))) hG mt97 hk9 hP hD
  have mt106 : a ∈ u105.1 := (fun x hx => by rw [hu105]; exact hx : ∀ x, x ∈ u96.1 → x ∈ u105.1) a mt97
  have mt107 : b1 ∈ u105.1 := (fun x hx => by rw [hu105]; exact hx : ∀ x, x ∈ u96.1 → x ∈ u105.1) b1 mt98
  have et107 : u105.2 b1 = .inl (cy 2, 288, .inl (fun _ => zI 0)) := (hpu105 b1 (fun h => (fun h9 => da_b1 h9.symm) h)).trans et98
  have mt108 : b7 ∈ u105.1 := (fun x hx => by rw [hu105]; exact hx : ∀ x, x ∈ u96.1 → x ∈ u105.1) b7 mt99
  have et108 : u105.2 b7 = .inl (cy 0, 36, .inl (fun _ => zI 0)) := (hpu105 b7 (fun h => (fun h9 => da_b7 h9.symm) h)).trans et99
  have mt109 : b15 ∈ u105.1 := (fun x hx => by rw [hu105]; exact hx : ∀ x, x ∈ u96.1 → x ∈ u105.1) b15 mt100
  have et109 : u105.2 b15 = .inl (cy 0, 36, .inl (fun _ => zI 0)) := (hpu105 b15 (fun h => (fun h9 => da_b15 h9.symm) h)).trans et100
  have mt110 : b35 ∈ u105.1 := (fun x hx => by rw [hu105]; exact hx : ∀ x, x ∈ u96.1 → x ∈ u105.1) b35 mt101
  have et110 : u105.2 b35 = .inl (cy 0, 10, .inl (fun _ => zI 0)) := (hpu105 b35 (fun h => (fun h9 => da_b35 h9.symm) h)).trans et101
  have mt111 : b47 ∈ u105.1 := (fun x hx => by rw [hu105]; exact hx : ∀ x, x ∈ u96.1 → x ∈ u105.1) b47 mt102
  have et111 : u105.2 b47 = .inl (cy 0, 10, .inl (fun _ => zI 0)) := (hpu105 b47 (fun h => (fun h9 => da_b47 h9.symm) h)).trans et102
  have mt112 : b61 ∈ u105.1 := (fun x hx => by rw [hu105]; exact hx : ∀ x, x ∈ u96.1 → x ∈ u105.1) b61 mt103
  have et112 : u105.2 b61 = .inl (cy 0, 10, .inl (fun _ => zI 0)) := (hpu105 b61 (fun h => (fun h9 => da_b61 h9.symm) h)).trans et103
  have mt113 : b77 ∈ u105.1 := (fun x hx => by rw [hu105]; exact hx : ∀ x, x ∈ u96.1 → x ∈ u105.1) b77 mt104
  have et113 : u105.2 b77 = .inl (cy 0, 10, .inl (fun _ => zI 0)) := (hpu105 b77 (fun h => (fun h9 => da_b77 h9.symm) h)).trans et104
  have mt114 : b95 ∈ u105.1 := (fun x hx => by rw [hu105]; exact hx : ∀ x, x ∈ u96.1 → x ∈ u105.1) b95 mb95
  have et114 : u105.2 b95 = .inl (cy 0, 202, .inl (fun _ => zI 0)) := (hpu105 b95 (fun h => (fun h9 => da_b95 h9.symm) h)).trans hEb95
  have hLu105 : u105.1 = ((((((((u.1 ++ [b1]) ++ [b7]) ++ [b15]) ++ [b35]) ++ [b47]) ++ [b61]) ++ [b77]) ++ [b95]) := by rw [hu105, hLu96]
  have hMu105 : ∀ x, x ∈ u.1 → x ∈ u105.1 := fun x hx => by rw [hu105]; exact hMu96 x hx
  have hOu105 : ∀ x, x ∈ u.1 → x ≠ a → u105.2 x = u.2 x := fun x hx ne => (hpu105 x ne).trans (hOu96 x hx ne)
  refine lv_aload_n hx hb dX12_init_81 rfl (lv_at hl 0 rfl) ?_
  refine z_sipush hx hb dX12_init_82 (by decide) ?_
  refine p_newI (z := 202) (M := 202) hx hb (hts (.arrayClass .int) (List.mem_cons_of_mem _ (List.mem_append_left _ (List.mem_append_left _ (List.mem_of_getElem? (i := 5) rfl))))) hI hG hS (by omega) (by omega) (by omega) (Nat.le_of_ble_eq_true rfl) (Nat.le_of_ble_eq_true rfl) dX12_init_85 (fun b115 u116 H hu116 hEb115 hpu116 hnb115 hG hS => ?_)
  have hEb115 : u116.2 b115 = .inl (cy 0, 202, .inl (fun _ => zI 0)) := hEb115
  have fb115 : b115 ∉ ((((((((u.1 ++ [b1]) ++ [b7]) ++ [b15]) ++ [b35]) ++ [b47]) ++ [b61]) ++ [b77]) ++ [b95]) := by rw [← hLu105]; exact hnb115
  have hLu116 : u116.1 = (((((((((u.1 ++ [b1]) ++ [b7]) ++ [b15]) ++ [b35]) ++ [b47]) ++ [b61]) ++ [b77]) ++ [b95]) ++ [b115]) := by rw [hu116, hLu105]
  have hMu116 : ∀ x, x ∈ u.1 → x ∈ u116.1 := fun x hx => by rw [hu116]; exact List.mem_append_left _ (hMu105 x hx)
  have hOu116 : ∀ x, x ∈ u.1 → x ≠ a → u116.2 x = u.2 x := fun x hx ne => (hpu116 x (hMu105 x hx)).trans (hOu105 x hx ne)
  have da_b115 : a ≠ b115 := fun h => hnb115 (h ▸ mt106)
  have db1_b115 : b1 ≠ b115 := fun h => hnb115 (h ▸ mt107)
  have db7_b115 : b7 ≠ b115 := fun h => hnb115 (h ▸ mt108)
  have db15_b115 : b15 ≠ b115 := fun h => hnb115 (h ▸ mt109)
  have db35_b115 : b35 ≠ b115 := fun h => hnb115 (h ▸ mt110)
  have db47_b115 : b47 ≠ b115 := fun h => hnb115 (h ▸ mt111)
  have db61_b115 : b61 ≠ b115 := fun h => hnb115 (h ▸ mt112)
  have db77_b115 : b77 ≠ b115 := fun h => hnb115 (h ▸ mt113)
  have db95_b115 : b95 ≠ b115 := fun h => hnb115 (h ▸ mt114)
  have mt117 : a ∈ u116.1 := (fun x hx => by rw [hu116]; exact List.mem_append_left _ hx : ∀ x, x ∈ u105.1 → x ∈ u116.1) a mt106
  have et117 : u116.2 a = .inr (11, (.int (zI 0) :: .ref b1 :: .ref b7 :: .ref b15 :: .int (zI 5) :: .int (zI 20) :: .int (zI 0) :: .ref b35 :: .ref b47 :: .ref b61 :: .ref b77 :: .ref b95 :: .null :: .null :: .null :: .int (zI 0) :: .int (zI 0) :: .null :: .null :: .null :: .null :: .int (zI 0) :: .null :: .int (zI 0) :: .null :: .int (zI 0) :: .null :: .null :: .null :: .null :: .null :: .null :: .null :: .null :: .null :: .null :: .null :: .null :: .null :: .null :: .null :: .null :: [])) := (hpu116 a mt106).trans hEu105
  have mt118 : b1 ∈ u116.1 := (fun x hx => by rw [hu116]; exact List.mem_append_left _ hx : ∀ x, x ∈ u105.1 → x ∈ u116.1) b1 mt107
  have et118 : u116.2 b1 = .inl (cy 2, 288, .inl (fun _ => zI 0)) := (hpu116 b1 mt107).trans et107
  have mt119 : b7 ∈ u116.1 := (fun x hx => by rw [hu116]; exact List.mem_append_left _ hx : ∀ x, x ∈ u105.1 → x ∈ u116.1) b7 mt108
  have et119 : u116.2 b7 = .inl (cy 0, 36, .inl (fun _ => zI 0)) := (hpu116 b7 mt108).trans et108
  have mt120 : b15 ∈ u116.1 := (fun x hx => by rw [hu116]; exact List.mem_append_left _ hx : ∀ x, x ∈ u105.1 → x ∈ u116.1) b15 mt109
  have et120 : u116.2 b15 = .inl (cy 0, 36, .inl (fun _ => zI 0)) := (hpu116 b15 mt109).trans et109
  have mt121 : b35 ∈ u116.1 := (fun x hx => by rw [hu116]; exact List.mem_append_left _ hx : ∀ x, x ∈ u105.1 → x ∈ u116.1) b35 mt110
  have et121 : u116.2 b35 = .inl (cy 0, 10, .inl (fun _ => zI 0)) := (hpu116 b35 mt110).trans et110
  have mt122 : b47 ∈ u116.1 := (fun x hx => by rw [hu116]; exact List.mem_append_left _ hx : ∀ x, x ∈ u105.1 → x ∈ u116.1) b47 mt111
  have et122 : u116.2 b47 = .inl (cy 0, 10, .inl (fun _ => zI 0)) := (hpu116 b47 mt111).trans et111
  have mt123 : b61 ∈ u116.1 := (fun x hx => by rw [hu116]; exact List.mem_append_left _ hx : ∀ x, x ∈ u105.1 → x ∈ u116.1) b61 mt112
  have et123 : u116.2 b61 = .inl (cy 0, 10, .inl (fun _ => zI 0)) := (hpu116 b61 mt112).trans et112
  have mt124 : b77 ∈ u116.1 := (fun x hx => by rw [hu116]; exact List.mem_append_left _ hx : ∀ x, x ∈ u105.1 → x ∈ u116.1) b77 mt113
  have et124 : u116.2 b77 = .inl (cy 0, 10, .inl (fun _ => zI 0)) := (hpu116 b77 mt113).trans et113
  have mt125 : b95 ∈ u116.1 := (fun x hx => by rw [hu116]; exact List.mem_append_left _ hx : ∀ x, x ∈ u105.1 → x ∈ u116.1) b95 mt114
  have et125 : u116.2 b95 = .inl (cy 0, 202, .inl (fun _ => zI 0)) := (hpu116 b95 mt114).trans et114
  have mb115 : b115 ∈ u116.1 := by rw [hu116]; exact List.mem_append_right _ List.mem_cons_self
  obtain ⟨k9, hk9⟩ := p_get D u116 mt117
  refine va_putF (C := RX12) (T := TX12) (N := 42) (ci := 11) (ty := tyX12 12) hx hb hts (fun _ h => (List.mem_cons_of_mem _ (List.mem_append_right _ h))) tyX12 tyX12_ok nmX12 hown hI.1 hG.1 hG.2 hS k9 (hk9.trans (by rw [et117])) rfl 12 (by decide) (hts (.fieldLink RX12 42 "StraitSwimModel" "pathY" "[I") (List.mem_cons_of_mem _ (List.mem_append_left _ (List.mem_append_left _ (List.mem_of_getElem? (i := 15) rfl))))) (fun _ h9 => h9) rfl hin2 rfl (tyX12_ok 12 (by decide)) rfl rfl (Nat.le_of_ble_eq_true rfl) dX12_init_87 (fun H locs hP hD hS => ?_)
  obtain ⟨u126, hu126, hEu126, hpu126, hG⟩ := p_set (e := .inr (11, (.int (zI 0) :: .ref b1 :: .ref b7 :: .ref b15 :: .int (zI 5) :: .int (zI 20) :: .int (zI 0) :: .ref b35 :: .ref b47 :: .ref b61 :: .ref b77 :: .ref b95 :: .ref b115 :: .null :: .null :: .int (zI 0) :: .int (zI 0) :: .null :: .null :: .null :: .null :: .int (zI 0) :: .null :: .int (zI 0) :: .null :: .int (zI 0) :: .null :: .null :: .null :: .null :: .null :: .null :: .null :: .null :: .null :: .null :: .null :: .null :: .null :: .null :: .null :: .null :: []))) hG mt117 hk9 hP hD
  have mt127 : a ∈ u126.1 := (fun x hx => by rw [hu126]; exact hx : ∀ x, x ∈ u116.1 → x ∈ u126.1) a mt117
  have mt128 : b1 ∈ u126.1 := (fun x hx => by rw [hu126]; exact hx : ∀ x, x ∈ u116.1 → x ∈ u126.1) b1 mt118
  have et128 : u126.2 b1 = .inl (cy 2, 288, .inl (fun _ => zI 0)) := (hpu126 b1 (fun h => (fun h9 => da_b1 h9.symm) h)).trans et118
  have mt129 : b7 ∈ u126.1 := (fun x hx => by rw [hu126]; exact hx : ∀ x, x ∈ u116.1 → x ∈ u126.1) b7 mt119
  have et129 : u126.2 b7 = .inl (cy 0, 36, .inl (fun _ => zI 0)) := (hpu126 b7 (fun h => (fun h9 => da_b7 h9.symm) h)).trans et119
  have mt130 : b15 ∈ u126.1 := (fun x hx => by rw [hu126]; exact hx : ∀ x, x ∈ u116.1 → x ∈ u126.1) b15 mt120
  have et130 : u126.2 b15 = .inl (cy 0, 36, .inl (fun _ => zI 0)) := (hpu126 b15 (fun h => (fun h9 => da_b15 h9.symm) h)).trans et120
  have mt131 : b35 ∈ u126.1 := (fun x hx => by rw [hu126]; exact hx : ∀ x, x ∈ u116.1 → x ∈ u126.1) b35 mt121
  have et131 : u126.2 b35 = .inl (cy 0, 10, .inl (fun _ => zI 0)) := (hpu126 b35 (fun h => (fun h9 => da_b35 h9.symm) h)).trans et121
  have mt132 : b47 ∈ u126.1 := (fun x hx => by rw [hu126]; exact hx : ∀ x, x ∈ u116.1 → x ∈ u126.1) b47 mt122
  have et132 : u126.2 b47 = .inl (cy 0, 10, .inl (fun _ => zI 0)) := (hpu126 b47 (fun h => (fun h9 => da_b47 h9.symm) h)).trans et122
  have mt133 : b61 ∈ u126.1 := (fun x hx => by rw [hu126]; exact hx : ∀ x, x ∈ u116.1 → x ∈ u126.1) b61 mt123
  have et133 : u126.2 b61 = .inl (cy 0, 10, .inl (fun _ => zI 0)) := (hpu126 b61 (fun h => (fun h9 => da_b61 h9.symm) h)).trans et123
  have mt134 : b77 ∈ u126.1 := (fun x hx => by rw [hu126]; exact hx : ∀ x, x ∈ u116.1 → x ∈ u126.1) b77 mt124
  have et134 : u126.2 b77 = .inl (cy 0, 10, .inl (fun _ => zI 0)) := (hpu126 b77 (fun h => (fun h9 => da_b77 h9.symm) h)).trans et124
  have mt135 : b95 ∈ u126.1 := (fun x hx => by rw [hu126]; exact hx : ∀ x, x ∈ u116.1 → x ∈ u126.1) b95 mt125
  have et135 : u126.2 b95 = .inl (cy 0, 202, .inl (fun _ => zI 0)) := (hpu126 b95 (fun h => (fun h9 => da_b95 h9.symm) h)).trans et125
  have mt136 : b115 ∈ u126.1 := (fun x hx => by rw [hu126]; exact hx : ∀ x, x ∈ u116.1 → x ∈ u126.1) b115 mb115
  have et136 : u126.2 b115 = .inl (cy 0, 202, .inl (fun _ => zI 0)) := (hpu126 b115 (fun h => (fun h9 => da_b115 h9.symm) h)).trans hEb115
  have hLu126 : u126.1 = (((((((((u.1 ++ [b1]) ++ [b7]) ++ [b15]) ++ [b35]) ++ [b47]) ++ [b61]) ++ [b77]) ++ [b95]) ++ [b115]) := by rw [hu126, hLu116]
  have hMu126 : ∀ x, x ∈ u.1 → x ∈ u126.1 := fun x hx => by rw [hu126]; exact hMu116 x hx
  have hOu126 : ∀ x, x ∈ u.1 → x ≠ a → u126.2 x = u.2 x := fun x hx ne => (hpu126 x ne).trans (hOu116 x hx ne)
  refine lv_aload_n hx hb dX12_init_90 rfl (lv_at hl 0 rfl) ?_
  refine z_iconst hx hb dX12_init_91 ?_
  refine p_newI (z := 2) (M := 2) hx hb (hts (.arrayClass .int) (List.mem_cons_of_mem _ (List.mem_append_left _ (List.mem_append_left _ (List.mem_of_getElem? (i := 5) rfl))))) hI hG hS (by omega) (by omega) (by omega) (Nat.le_of_ble_eq_true rfl) (Nat.le_of_ble_eq_true rfl) dX12_init_92 (fun b137 u138 H hu138 hEb137 hpu138 hnb137 hG hS => ?_)
  have hEb137 : u138.2 b137 = .inl (cy 0, 2, .inl (fun _ => zI 0)) := hEb137
  have fb137 : b137 ∉ (((((((((u.1 ++ [b1]) ++ [b7]) ++ [b15]) ++ [b35]) ++ [b47]) ++ [b61]) ++ [b77]) ++ [b95]) ++ [b115]) := by rw [← hLu126]; exact hnb137
  have hLu138 : u138.1 = ((((((((((u.1 ++ [b1]) ++ [b7]) ++ [b15]) ++ [b35]) ++ [b47]) ++ [b61]) ++ [b77]) ++ [b95]) ++ [b115]) ++ [b137]) := by rw [hu138, hLu126]
  have hMu138 : ∀ x, x ∈ u.1 → x ∈ u138.1 := fun x hx => by rw [hu138]; exact List.mem_append_left _ (hMu126 x hx)
  have hOu138 : ∀ x, x ∈ u.1 → x ≠ a → u138.2 x = u.2 x := fun x hx ne => (hpu138 x (hMu126 x hx)).trans (hOu126 x hx ne)
  have da_b137 : a ≠ b137 := fun h => hnb137 (h ▸ mt127)
  have db1_b137 : b1 ≠ b137 := fun h => hnb137 (h ▸ mt128)
  have db7_b137 : b7 ≠ b137 := fun h => hnb137 (h ▸ mt129)
  have db15_b137 : b15 ≠ b137 := fun h => hnb137 (h ▸ mt130)
  have db35_b137 : b35 ≠ b137 := fun h => hnb137 (h ▸ mt131)
  have db47_b137 : b47 ≠ b137 := fun h => hnb137 (h ▸ mt132)
  have db61_b137 : b61 ≠ b137 := fun h => hnb137 (h ▸ mt133)
  have db77_b137 : b77 ≠ b137 := fun h => hnb137 (h ▸ mt134)
  have db95_b137 : b95 ≠ b137 := fun h => hnb137 (h ▸ mt135)
  have db115_b137 : b115 ≠ b137 := fun h => hnb137 (h ▸ mt136)
  have mt139 : a ∈ u138.1 := (fun x hx => by rw [hu138]; exact List.mem_append_left _ hx : ∀ x, x ∈ u126.1 → x ∈ u138.1) a mt127
  have et139 : u138.2 a = .inr (11, (.int (zI 0) :: .ref b1 :: .ref b7 :: .ref b15 :: .int (zI 5) :: .int (zI 20) :: .int (zI 0) :: .ref b35 :: .ref b47 :: .ref b61 :: .ref b77 :: .ref b95 :: .ref b115 :: .null :: .null :: .int (zI 0) :: .int (zI 0) :: .null :: .null :: .null :: .null :: .int (zI 0) :: .null :: .int (zI 0) :: .null :: .int (zI 0) :: .null :: .null :: .null :: .null :: .null :: .null :: .null :: .null :: .null :: .null :: .null :: .null :: .null :: .null :: .null :: .null :: [])) := (hpu138 a mt127).trans hEu126
  have mt140 : b1 ∈ u138.1 := (fun x hx => by rw [hu138]; exact List.mem_append_left _ hx : ∀ x, x ∈ u126.1 → x ∈ u138.1) b1 mt128
  have et140 : u138.2 b1 = .inl (cy 2, 288, .inl (fun _ => zI 0)) := (hpu138 b1 mt128).trans et128
  have mt141 : b7 ∈ u138.1 := (fun x hx => by rw [hu138]; exact List.mem_append_left _ hx : ∀ x, x ∈ u126.1 → x ∈ u138.1) b7 mt129
  have et141 : u138.2 b7 = .inl (cy 0, 36, .inl (fun _ => zI 0)) := (hpu138 b7 mt129).trans et129
  have mt142 : b15 ∈ u138.1 := (fun x hx => by rw [hu138]; exact List.mem_append_left _ hx : ∀ x, x ∈ u126.1 → x ∈ u138.1) b15 mt130
  have et142 : u138.2 b15 = .inl (cy 0, 36, .inl (fun _ => zI 0)) := (hpu138 b15 mt130).trans et130
  have mt143 : b35 ∈ u138.1 := (fun x hx => by rw [hu138]; exact List.mem_append_left _ hx : ∀ x, x ∈ u126.1 → x ∈ u138.1) b35 mt131
  have et143 : u138.2 b35 = .inl (cy 0, 10, .inl (fun _ => zI 0)) := (hpu138 b35 mt131).trans et131
  have mt144 : b47 ∈ u138.1 := (fun x hx => by rw [hu138]; exact List.mem_append_left _ hx : ∀ x, x ∈ u126.1 → x ∈ u138.1) b47 mt132
  have et144 : u138.2 b47 = .inl (cy 0, 10, .inl (fun _ => zI 0)) := (hpu138 b47 mt132).trans et132
  have mt145 : b61 ∈ u138.1 := (fun x hx => by rw [hu138]; exact List.mem_append_left _ hx : ∀ x, x ∈ u126.1 → x ∈ u138.1) b61 mt133
  have et145 : u138.2 b61 = .inl (cy 0, 10, .inl (fun _ => zI 0)) := (hpu138 b61 mt133).trans et133
  have mt146 : b77 ∈ u138.1 := (fun x hx => by rw [hu138]; exact List.mem_append_left _ hx : ∀ x, x ∈ u126.1 → x ∈ u138.1) b77 mt134
  have et146 : u138.2 b77 = .inl (cy 0, 10, .inl (fun _ => zI 0)) := (hpu138 b77 mt134).trans et134
  have mt147 : b95 ∈ u138.1 := (fun x hx => by rw [hu138]; exact List.mem_append_left _ hx : ∀ x, x ∈ u126.1 → x ∈ u138.1) b95 mt135
  have et147 : u138.2 b95 = .inl (cy 0, 202, .inl (fun _ => zI 0)) := (hpu138 b95 mt135).trans et135
  have mt148 : b115 ∈ u138.1 := (fun x hx => by rw [hu138]; exact List.mem_append_left _ hx : ∀ x, x ∈ u126.1 → x ∈ u138.1) b115 mt136
  have et148 : u138.2 b115 = .inl (cy 0, 202, .inl (fun _ => zI 0)) := (hpu138 b115 mt136).trans et136
  have mb137 : b137 ∈ u138.1 := by rw [hu138]; exact List.mem_append_right _ List.mem_cons_self
  obtain ⟨k9, hk9⟩ := p_get D u138 mt139
  refine va_putF (C := RX12) (T := TX12) (N := 42) (ci := 11) (ty := tyX12 13) hx hb hts (fun _ h => (List.mem_cons_of_mem _ (List.mem_append_right _ h))) tyX12 tyX12_ok nmX12 hown hI.1 hG.1 hG.2 hS k9 (hk9.trans (by rw [et139])) rfl 13 (by decide) (hts (.fieldLink RX12 45 "StraitSwimModel" "quarters" "[I") (List.mem_cons_of_mem _ (List.mem_append_left _ (List.mem_append_left _ (List.mem_of_getElem? (i := 16) rfl))))) (fun _ h9 => h9) rfl hin2 rfl (tyX12_ok 13 (by decide)) rfl rfl (Nat.le_of_ble_eq_true rfl) dX12_init_94 (fun H locs hP hD hS => ?_)
  obtain ⟨u149, hu149, hEu149, hpu149, hG⟩ := p_set (e := .inr (11, (.int (zI 0) :: .ref b1 :: .ref b7 :: .ref b15 :: .int (zI 5) :: .int (zI 20) :: .int (zI 0) :: .ref b35 :: .ref b47 :: .ref b61 :: .ref b77 :: .ref b95 :: .ref b115 :: .ref b137 :: .null :: .int (zI 0) :: .int (zI 0) :: .null :: .null :: .null :: .null :: .int (zI 0) :: .null :: .int (zI 0) :: .null :: .int (zI 0) :: .null :: .null :: .null :: .null :: .null :: .null :: .null :: .null :: .null :: .null :: .null :: .null :: .null :: .null :: .null :: .null :: []))) hG mt139 hk9 hP hD
  have mt150 : a ∈ u149.1 := (fun x hx => by rw [hu149]; exact hx : ∀ x, x ∈ u138.1 → x ∈ u149.1) a mt139
  have mt151 : b1 ∈ u149.1 := (fun x hx => by rw [hu149]; exact hx : ∀ x, x ∈ u138.1 → x ∈ u149.1) b1 mt140
  have et151 : u149.2 b1 = .inl (cy 2, 288, .inl (fun _ => zI 0)) := (hpu149 b1 (fun h => (fun h9 => da_b1 h9.symm) h)).trans et140
  have mt152 : b7 ∈ u149.1 := (fun x hx => by rw [hu149]; exact hx : ∀ x, x ∈ u138.1 → x ∈ u149.1) b7 mt141
  have et152 : u149.2 b7 = .inl (cy 0, 36, .inl (fun _ => zI 0)) := (hpu149 b7 (fun h => (fun h9 => da_b7 h9.symm) h)).trans et141
  have mt153 : b15 ∈ u149.1 := (fun x hx => by rw [hu149]; exact hx : ∀ x, x ∈ u138.1 → x ∈ u149.1) b15 mt142
  have et153 : u149.2 b15 = .inl (cy 0, 36, .inl (fun _ => zI 0)) := (hpu149 b15 (fun h => (fun h9 => da_b15 h9.symm) h)).trans et142
  have mt154 : b35 ∈ u149.1 := (fun x hx => by rw [hu149]; exact hx : ∀ x, x ∈ u138.1 → x ∈ u149.1) b35 mt143
  have et154 : u149.2 b35 = .inl (cy 0, 10, .inl (fun _ => zI 0)) := (hpu149 b35 (fun h => (fun h9 => da_b35 h9.symm) h)).trans et143
  have mt155 : b47 ∈ u149.1 := (fun x hx => by rw [hu149]; exact hx : ∀ x, x ∈ u138.1 → x ∈ u149.1) b47 mt144
  have et155 : u149.2 b47 = .inl (cy 0, 10, .inl (fun _ => zI 0)) := (hpu149 b47 (fun h => (fun h9 => da_b47 h9.symm) h)).trans et144
  have mt156 : b61 ∈ u149.1 := (fun x hx => by rw [hu149]; exact hx : ∀ x, x ∈ u138.1 → x ∈ u149.1) b61 mt145
  have et156 : u149.2 b61 = .inl (cy 0, 10, .inl (fun _ => zI 0)) := (hpu149 b61 (fun h => (fun h9 => da_b61 h9.symm) h)).trans et145
  have mt157 : b77 ∈ u149.1 := (fun x hx => by rw [hu149]; exact hx : ∀ x, x ∈ u138.1 → x ∈ u149.1) b77 mt146
  have et157 : u149.2 b77 = .inl (cy 0, 10, .inl (fun _ => zI 0)) := (hpu149 b77 (fun h => (fun h9 => da_b77 h9.symm) h)).trans et146
  have mt158 : b95 ∈ u149.1 := (fun x hx => by rw [hu149]; exact hx : ∀ x, x ∈ u138.1 → x ∈ u149.1) b95 mt147
  have et158 : u149.2 b95 = .inl (cy 0, 202, .inl (fun _ => zI 0)) := (hpu149 b95 (fun h => (fun h9 => da_b95 h9.symm) h)).trans et147
  have mt159 : b115 ∈ u149.1 := (fun x hx => by rw [hu149]; exact hx : ∀ x, x ∈ u138.1 → x ∈ u149.1) b115 mt148
  have et159 : u149.2 b115 = .inl (cy 0, 202, .inl (fun _ => zI 0)) := (hpu149 b115 (fun h => (fun h9 => da_b115 h9.symm) h)).trans et148
  have mt160 : b137 ∈ u149.1 := (fun x hx => by rw [hu149]; exact hx : ∀ x, x ∈ u138.1 → x ∈ u149.1) b137 mb137
  have et160 : u149.2 b137 = .inl (cy 0, 2, .inl (fun _ => zI 0)) := (hpu149 b137 (fun h => (fun h9 => da_b137 h9.symm) h)).trans hEb137
  have hLu149 : u149.1 = ((((((((((u.1 ++ [b1]) ++ [b7]) ++ [b15]) ++ [b35]) ++ [b47]) ++ [b61]) ++ [b77]) ++ [b95]) ++ [b115]) ++ [b137]) := by rw [hu149, hLu138]
  have hMu149 : ∀ x, x ∈ u.1 → x ∈ u149.1 := fun x hx => by rw [hu149]; exact hMu138 x hx
  have hOu149 : ∀ x, x ∈ u.1 → x ≠ a → u149.2 x = u.2 x := fun x hx ne => (hpu149 x ne).trans (hOu138 x hx ne)
  refine lv_aload_n hx hb dX12_init_97 rfl (lv_at hl 0 rfl) ?_
  refine z_iconst hx hb dX12_init_98 ?_
  refine p_newI (z := 2) (M := 2) hx hb (hts (.arrayClass .int) (List.mem_cons_of_mem _ (List.mem_append_left _ (List.mem_append_left _ (List.mem_of_getElem? (i := 5) rfl))))) hI hG hS (by omega) (by omega) (by omega) (Nat.le_of_ble_eq_true rfl) (Nat.le_of_ble_eq_true rfl) dX12_init_99 (fun b161 u162 H hu162 hEb161 hpu162 hnb161 hG hS => ?_)
  have hEb161 : u162.2 b161 = .inl (cy 0, 2, .inl (fun _ => zI 0)) := hEb161
  have fb161 : b161 ∉ ((((((((((u.1 ++ [b1]) ++ [b7]) ++ [b15]) ++ [b35]) ++ [b47]) ++ [b61]) ++ [b77]) ++ [b95]) ++ [b115]) ++ [b137]) := by rw [← hLu149]; exact hnb161
  have hLu162 : u162.1 = (((((((((((u.1 ++ [b1]) ++ [b7]) ++ [b15]) ++ [b35]) ++ [b47]) ++ [b61]) ++ [b77]) ++ [b95]) ++ [b115]) ++ [b137]) ++ [b161]) := by rw [hu162, hLu149]
  have hMu162 : ∀ x, x ∈ u.1 → x ∈ u162.1 := fun x hx => by rw [hu162]; exact List.mem_append_left _ (hMu149 x hx)
  have hOu162 : ∀ x, x ∈ u.1 → x ≠ a → u162.2 x = u.2 x := fun x hx ne => (hpu162 x (hMu149 x hx)).trans (hOu149 x hx ne)
  have da_b161 : a ≠ b161 := fun h => hnb161 (h ▸ mt150)
  have db1_b161 : b1 ≠ b161 := fun h => hnb161 (h ▸ mt151)
  have db7_b161 : b7 ≠ b161 := fun h => hnb161 (h ▸ mt152)
  have db15_b161 : b15 ≠ b161 := fun h => hnb161 (h ▸ mt153)
  have db35_b161 : b35 ≠ b161 := fun h => hnb161 (h ▸ mt154)
  have db47_b161 : b47 ≠ b161 := fun h => hnb161 (h ▸ mt155)
  have db61_b161 : b61 ≠ b161 := fun h => hnb161 (h ▸ mt156)
  have db77_b161 : b77 ≠ b161 := fun h => hnb161 (h ▸ mt157)
  have db95_b161 : b95 ≠ b161 := fun h => hnb161 (h ▸ mt158)
  have db115_b161 : b115 ≠ b161 := fun h => hnb161 (h ▸ mt159)
  have db137_b161 : b137 ≠ b161 := fun h => hnb161 (h ▸ mt160)
  have mt163 : a ∈ u162.1 := (fun x hx => by rw [hu162]; exact List.mem_append_left _ hx : ∀ x, x ∈ u149.1 → x ∈ u162.1) a mt150
  have et163 : u162.2 a = .inr (11, (.int (zI 0) :: .ref b1 :: .ref b7 :: .ref b15 :: .int (zI 5) :: .int (zI 20) :: .int (zI 0) :: .ref b35 :: .ref b47 :: .ref b61 :: .ref b77 :: .ref b95 :: .ref b115 :: .ref b137 :: .null :: .int (zI 0) :: .int (zI 0) :: .null :: .null :: .null :: .null :: .int (zI 0) :: .null :: .int (zI 0) :: .null :: .int (zI 0) :: .null :: .null :: .null :: .null :: .null :: .null :: .null :: .null :: .null :: .null :: .null :: .null :: .null :: .null :: .null :: .null :: [])) := (hpu162 a mt150).trans hEu149
  have mt164 : b1 ∈ u162.1 := (fun x hx => by rw [hu162]; exact List.mem_append_left _ hx : ∀ x, x ∈ u149.1 → x ∈ u162.1) b1 mt151
  have et164 : u162.2 b1 = .inl (cy 2, 288, .inl (fun _ => zI 0)) := (hpu162 b1 mt151).trans et151
  have mt165 : b7 ∈ u162.1 := (fun x hx => by rw [hu162]; exact List.mem_append_left _ hx : ∀ x, x ∈ u149.1 → x ∈ u162.1) b7 mt152
  have et165 : u162.2 b7 = .inl (cy 0, 36, .inl (fun _ => zI 0)) := (hpu162 b7 mt152).trans et152
  have mt166 : b15 ∈ u162.1 := (fun x hx => by rw [hu162]; exact List.mem_append_left _ hx : ∀ x, x ∈ u149.1 → x ∈ u162.1) b15 mt153
  have et166 : u162.2 b15 = .inl (cy 0, 36, .inl (fun _ => zI 0)) := (hpu162 b15 mt153).trans et153
  have mt167 : b35 ∈ u162.1 := (fun x hx => by rw [hu162]; exact List.mem_append_left _ hx : ∀ x, x ∈ u149.1 → x ∈ u162.1) b35 mt154
  have et167 : u162.2 b35 = .inl (cy 0, 10, .inl (fun _ => zI 0)) := (hpu162 b35 mt154).trans et154
  have mt168 : b47 ∈ u162.1 := (fun x hx => by rw [hu162]; exact List.mem_append_left _ hx : ∀ x, x ∈ u149.1 → x ∈ u162.1) b47 mt155
  have et168 : u162.2 b47 = .inl (cy 0, 10, .inl (fun _ => zI 0)) := (hpu162 b47 mt155).trans et155
  have mt169 : b61 ∈ u162.1 := (fun x hx => by rw [hu162]; exact List.mem_append_left _ hx : ∀ x, x ∈ u149.1 → x ∈ u162.1) b61 mt156
  have et169 : u162.2 b61 = .inl (cy 0, 10, .inl (fun _ => zI 0)) := (hpu162 b61 mt156).trans et156
  have mt170 : b77 ∈ u162.1 := (fun x hx => by rw [hu162]; exact List.mem_append_left _ hx : ∀ x, x ∈ u149.1 → x ∈ u162.1) b77 mt157
  have et170 : u162.2 b77 = .inl (cy 0, 10, .inl (fun _ => zI 0)) := (hpu162 b77 mt157).trans et157
  have mt171 : b95 ∈ u162.1 := (fun x hx => by rw [hu162]; exact List.mem_append_left _ hx : ∀ x, x ∈ u149.1 → x ∈ u162.1) b95 mt158
  have et171 : u162.2 b95 = .inl (cy 0, 202, .inl (fun _ => zI 0)) := (hpu162 b95 mt158).trans et158
  have mt172 : b115 ∈ u162.1 := (fun x hx => by rw [hu162]; exact List.mem_append_left _ hx : ∀ x, x ∈ u149.1 → x ∈ u162.1) b115 mt159
  have et172 : u162.2 b115 = .inl (cy 0, 202, .inl (fun _ => zI 0)) := (hpu162 b115 mt159).trans et159
  have mt173 : b137 ∈ u162.1 := (fun x hx => by rw [hu162]; exact List.mem_append_left _ hx : ∀ x, x ∈ u149.1 → x ∈ u162.1) b137 mt160
  have et173 : u162.2 b137 = .inl (cy 0, 2, .inl (fun _ => zI 0)) := (hpu162 b137 mt160).trans et160
  have mb161 : b161 ∈ u162.1 := by rw [hu162]; exact List.mem_append_right _ List.mem_cons_self
  obtain ⟨k9, hk9⟩ := p_get D u162 mt163
  refine va_putF (C := RX12) (T := TX12) (N := 42) (ci := 11) (ty := tyX12 14) hx hb hts (fun _ h => (List.mem_cons_of_mem _ (List.mem_append_right _ h))) tyX12 tyX12_ok nmX12 hown hI.1 hG.1 hG.2 hS k9 (hk9.trans (by rw [et163])) rfl 14 (by decide) (hts (.fieldLink RX12 48 "StraitSwimModel" "colds" "[I") (List.mem_cons_of_mem _ (List.mem_append_left _ (List.mem_append_left _ (List.mem_of_getElem? (i := 17) rfl))))) (fun _ h9 => h9) rfl hin2 rfl (tyX12_ok 14 (by decide)) rfl rfl (Nat.le_of_ble_eq_true rfl) dX12_init_101 (fun H locs hP hD hS => ?_)
  obtain ⟨u174, hu174, hEu174, hpu174, hG⟩ := p_set (e := .inr (11, (.int (zI 0) :: .ref b1 :: .ref b7 :: .ref b15 :: .int (zI 5) :: .int (zI 20) :: .int (zI 0) :: .ref b35 :: .ref b47 :: .ref b61 :: .ref b77 :: .ref b95 :: .ref b115 :: .ref b137 :: .ref b161 :: .int (zI 0) :: .int (zI 0) :: .null :: .null :: .null :: .null :: .int (zI 0) :: .null :: .int (zI 0) :: .null :: .int (zI 0) :: .null :: .null :: .null :: .null :: .null :: .null :: .null :: .null :: .null :: .null :: .null :: .null :: .null :: .null :: .null :: .null :: []))) hG mt163 hk9 hP hD
  have mt175 : a ∈ u174.1 := (fun x hx => by rw [hu174]; exact hx : ∀ x, x ∈ u162.1 → x ∈ u174.1) a mt163
  have mt176 : b1 ∈ u174.1 := (fun x hx => by rw [hu174]; exact hx : ∀ x, x ∈ u162.1 → x ∈ u174.1) b1 mt164
  have et176 : u174.2 b1 = .inl (cy 2, 288, .inl (fun _ => zI 0)) := (hpu174 b1 (fun h => (fun h9 => da_b1 h9.symm) h)).trans et164
  have mt177 : b7 ∈ u174.1 := (fun x hx => by rw [hu174]; exact hx : ∀ x, x ∈ u162.1 → x ∈ u174.1) b7 mt165
  have et177 : u174.2 b7 = .inl (cy 0, 36, .inl (fun _ => zI 0)) := (hpu174 b7 (fun h => (fun h9 => da_b7 h9.symm) h)).trans et165
  have mt178 : b15 ∈ u174.1 := (fun x hx => by rw [hu174]; exact hx : ∀ x, x ∈ u162.1 → x ∈ u174.1) b15 mt166
  have et178 : u174.2 b15 = .inl (cy 0, 36, .inl (fun _ => zI 0)) := (hpu174 b15 (fun h => (fun h9 => da_b15 h9.symm) h)).trans et166
  have mt179 : b35 ∈ u174.1 := (fun x hx => by rw [hu174]; exact hx : ∀ x, x ∈ u162.1 → x ∈ u174.1) b35 mt167
  have et179 : u174.2 b35 = .inl (cy 0, 10, .inl (fun _ => zI 0)) := (hpu174 b35 (fun h => (fun h9 => da_b35 h9.symm) h)).trans et167
  have mt180 : b47 ∈ u174.1 := (fun x hx => by rw [hu174]; exact hx : ∀ x, x ∈ u162.1 → x ∈ u174.1) b47 mt168
  have et180 : u174.2 b47 = .inl (cy 0, 10, .inl (fun _ => zI 0)) := (hpu174 b47 (fun h => (fun h9 => da_b47 h9.symm) h)).trans et168
  have mt181 : b61 ∈ u174.1 := (fun x hx => by rw [hu174]; exact hx : ∀ x, x ∈ u162.1 → x ∈ u174.1) b61 mt169
  have et181 : u174.2 b61 = .inl (cy 0, 10, .inl (fun _ => zI 0)) := (hpu174 b61 (fun h => (fun h9 => da_b61 h9.symm) h)).trans et169
  have mt182 : b77 ∈ u174.1 := (fun x hx => by rw [hu174]; exact hx : ∀ x, x ∈ u162.1 → x ∈ u174.1) b77 mt170
  have et182 : u174.2 b77 = .inl (cy 0, 10, .inl (fun _ => zI 0)) := (hpu174 b77 (fun h => (fun h9 => da_b77 h9.symm) h)).trans et170
  have mt183 : b95 ∈ u174.1 := (fun x hx => by rw [hu174]; exact hx : ∀ x, x ∈ u162.1 → x ∈ u174.1) b95 mt171
  have et183 : u174.2 b95 = .inl (cy 0, 202, .inl (fun _ => zI 0)) := (hpu174 b95 (fun h => (fun h9 => da_b95 h9.symm) h)).trans et171
  have mt184 : b115 ∈ u174.1 := (fun x hx => by rw [hu174]; exact hx : ∀ x, x ∈ u162.1 → x ∈ u174.1) b115 mt172
  have et184 : u174.2 b115 = .inl (cy 0, 202, .inl (fun _ => zI 0)) := (hpu174 b115 (fun h => (fun h9 => da_b115 h9.symm) h)).trans et172
  have mt185 : b137 ∈ u174.1 := (fun x hx => by rw [hu174]; exact hx : ∀ x, x ∈ u162.1 → x ∈ u174.1) b137 mt173
  have et185 : u174.2 b137 = .inl (cy 0, 2, .inl (fun _ => zI 0)) := (hpu174 b137 (fun h => (fun h9 => da_b137 h9.symm) h)).trans et173
  have mt186 : b161 ∈ u174.1 := (fun x hx => by rw [hu174]; exact hx : ∀ x, x ∈ u162.1 → x ∈ u174.1) b161 mb161
  have et186 : u174.2 b161 = .inl (cy 0, 2, .inl (fun _ => zI 0)) := (hpu174 b161 (fun h => (fun h9 => da_b161 h9.symm) h)).trans hEb161
  have hLu174 : u174.1 = (((((((((((u.1 ++ [b1]) ++ [b7]) ++ [b15]) ++ [b35]) ++ [b47]) ++ [b61]) ++ [b77]) ++ [b95]) ++ [b115]) ++ [b137]) ++ [b161]) := by rw [hu174, hLu162]
  have hMu174 : ∀ x, x ∈ u.1 → x ∈ u174.1 := fun x hx => by rw [hu174]; exact hMu162 x hx
  have hOu174 : ∀ x, x ∈ u.1 → x ≠ a → u174.2 x = u.2 x := fun x hx ne => (hpu174 x ne).trans (hOu162 x hx ne)
  refine lv_aload_n hx hb dX12_init_104 rfl (lv_at hl 0 rfl) ?_
  refine z_iconst hx hb dX12_init_105 ?_
  obtain ⟨k9, hk9⟩ := p_get D u174 mt175
  refine va_put (C := RX12) (T := TX12) (N := 42) (ci := 11) (ty := tyX12 15) hx hb hts (fun _ h => (List.mem_cons_of_mem _ (List.mem_append_right _ h))) tyX12 tyX12_ok nmX12 hown hI.1 hG.1 hG.2 hS k9 (hk9.trans (by rw [hEu174])) rfl 15 (by decide) (hts (.fieldLink RX12 51 "StraitSwimModel" "lastSwimmer" "I") (List.mem_cons_of_mem _ (List.mem_append_left _ (List.mem_append_left _ (List.mem_of_getElem? (i := 18) rfl))))) (fun _ h9 => h9) rfl (tyX12_ok 15 (by decide)) rfl rfl (Nat.le_of_ble_eq_true rfl) dX12_init_106 (fun H locs hP hD hS => ?_)
  obtain ⟨u187, hu187, hEu187, hpu187, hG⟩ := p_set (e := .inr (11, (.int (zI 0) :: .ref b1 :: .ref b7 :: .ref b15 :: .int (zI 5) :: .int (zI 20) :: .int (zI 0) :: .ref b35 :: .ref b47 :: .ref b61 :: .ref b77 :: .ref b95 :: .ref b115 :: .ref b137 :: .ref b161 :: .int (zI ((-1))) :: .int (zI 0) :: .null :: .null :: .null :: .null :: .int (zI 0) :: .null :: .int (zI 0) :: .null :: .int (zI 0) :: .null :: .null :: .null :: .null :: .null :: .null :: .null :: .null :: .null :: .null :: .null :: .null :: .null :: .null :: .null :: .null :: []))) hG mt175 hk9 hP hD
  have mt188 : a ∈ u187.1 := (fun x hx => by rw [hu187]; exact hx : ∀ x, x ∈ u174.1 → x ∈ u187.1) a mt175
  have mt189 : b1 ∈ u187.1 := (fun x hx => by rw [hu187]; exact hx : ∀ x, x ∈ u174.1 → x ∈ u187.1) b1 mt176
  have et189 : u187.2 b1 = .inl (cy 2, 288, .inl (fun _ => zI 0)) := (hpu187 b1 (fun h => (fun h9 => da_b1 h9.symm) h)).trans et176
  have mt190 : b7 ∈ u187.1 := (fun x hx => by rw [hu187]; exact hx : ∀ x, x ∈ u174.1 → x ∈ u187.1) b7 mt177
  have et190 : u187.2 b7 = .inl (cy 0, 36, .inl (fun _ => zI 0)) := (hpu187 b7 (fun h => (fun h9 => da_b7 h9.symm) h)).trans et177
  have mt191 : b15 ∈ u187.1 := (fun x hx => by rw [hu187]; exact hx : ∀ x, x ∈ u174.1 → x ∈ u187.1) b15 mt178
  have et191 : u187.2 b15 = .inl (cy 0, 36, .inl (fun _ => zI 0)) := (hpu187 b15 (fun h => (fun h9 => da_b15 h9.symm) h)).trans et178
  have mt192 : b35 ∈ u187.1 := (fun x hx => by rw [hu187]; exact hx : ∀ x, x ∈ u174.1 → x ∈ u187.1) b35 mt179
  have et192 : u187.2 b35 = .inl (cy 0, 10, .inl (fun _ => zI 0)) := (hpu187 b35 (fun h => (fun h9 => da_b35 h9.symm) h)).trans et179
  have mt193 : b47 ∈ u187.1 := (fun x hx => by rw [hu187]; exact hx : ∀ x, x ∈ u174.1 → x ∈ u187.1) b47 mt180
  have et193 : u187.2 b47 = .inl (cy 0, 10, .inl (fun _ => zI 0)) := (hpu187 b47 (fun h => (fun h9 => da_b47 h9.symm) h)).trans et180
  have mt194 : b61 ∈ u187.1 := (fun x hx => by rw [hu187]; exact hx : ∀ x, x ∈ u174.1 → x ∈ u187.1) b61 mt181
  have et194 : u187.2 b61 = .inl (cy 0, 10, .inl (fun _ => zI 0)) := (hpu187 b61 (fun h => (fun h9 => da_b61 h9.symm) h)).trans et181
  have mt195 : b77 ∈ u187.1 := (fun x hx => by rw [hu187]; exact hx : ∀ x, x ∈ u174.1 → x ∈ u187.1) b77 mt182
  have et195 : u187.2 b77 = .inl (cy 0, 10, .inl (fun _ => zI 0)) := (hpu187 b77 (fun h => (fun h9 => da_b77 h9.symm) h)).trans et182
  have mt196 : b95 ∈ u187.1 := (fun x hx => by rw [hu187]; exact hx : ∀ x, x ∈ u174.1 → x ∈ u187.1) b95 mt183
  have et196 : u187.2 b95 = .inl (cy 0, 202, .inl (fun _ => zI 0)) := (hpu187 b95 (fun h => (fun h9 => da_b95 h9.symm) h)).trans et183
  have mt197 : b115 ∈ u187.1 := (fun x hx => by rw [hu187]; exact hx : ∀ x, x ∈ u174.1 → x ∈ u187.1) b115 mt184
  have et197 : u187.2 b115 = .inl (cy 0, 202, .inl (fun _ => zI 0)) := (hpu187 b115 (fun h => (fun h9 => da_b115 h9.symm) h)).trans et184
  have mt198 : b137 ∈ u187.1 := (fun x hx => by rw [hu187]; exact hx : ∀ x, x ∈ u174.1 → x ∈ u187.1) b137 mt185
  have et198 : u187.2 b137 = .inl (cy 0, 2, .inl (fun _ => zI 0)) := (hpu187 b137 (fun h => (fun h9 => da_b137 h9.symm) h)).trans et185
  have mt199 : b161 ∈ u187.1 := (fun x hx => by rw [hu187]; exact hx : ∀ x, x ∈ u174.1 → x ∈ u187.1) b161 mt186
  have et199 : u187.2 b161 = .inl (cy 0, 2, .inl (fun _ => zI 0)) := (hpu187 b161 (fun h => (fun h9 => da_b161 h9.symm) h)).trans et186
  have hLu187 : u187.1 = (((((((((((u.1 ++ [b1]) ++ [b7]) ++ [b15]) ++ [b35]) ++ [b47]) ++ [b61]) ++ [b77]) ++ [b95]) ++ [b115]) ++ [b137]) ++ [b161]) := by rw [hu187, hLu174]
  have hMu187 : ∀ x, x ∈ u.1 → x ∈ u187.1 := fun x hx => by rw [hu187]; exact hMu174 x hx
  have hOu187 : ∀ x, x ∈ u.1 → x ≠ a → u187.2 x = u.2 x := fun x hx ne => (hpu187 x ne).trans (hOu174 x hx ne)
  refine lv_aload_n hx hb dX12_init_109 rfl (lv_at hl 0 rfl) ?_
  refine z_bipush hx hb dX12_init_110 (by decide) ?_
  refine p_newI (z := 8) (M := 8) hx hb (hts (.arrayClass .int) (List.mem_cons_of_mem _ (List.mem_append_left _ (List.mem_append_left _ (List.mem_of_getElem? (i := 5) rfl))))) hI hG hS (by omega) (by omega) (by omega) (Nat.le_of_ble_eq_true rfl) (Nat.le_of_ble_eq_true rfl) dX12_init_112 (fun b200 u201 H hu201 hEb200 hpu201 hnb200 hG hS => ?_)
  have hEb200 : u201.2 b200 = .inl (cy 0, 8, .inl (fun _ => zI 0)) := hEb200
  have fb200 : b200 ∉ (((((((((((u.1 ++ [b1]) ++ [b7]) ++ [b15]) ++ [b35]) ++ [b47]) ++ [b61]) ++ [b77]) ++ [b95]) ++ [b115]) ++ [b137]) ++ [b161]) := by rw [← hLu187]; exact hnb200
  have hLu201 : u201.1 = ((((((((((((u.1 ++ [b1]) ++ [b7]) ++ [b15]) ++ [b35]) ++ [b47]) ++ [b61]) ++ [b77]) ++ [b95]) ++ [b115]) ++ [b137]) ++ [b161]) ++ [b200]) := by rw [hu201, hLu187]
  have hMu201 : ∀ x, x ∈ u.1 → x ∈ u201.1 := fun x hx => by rw [hu201]; exact List.mem_append_left _ (hMu187 x hx)
  have hOu201 : ∀ x, x ∈ u.1 → x ≠ a → u201.2 x = u.2 x := fun x hx ne => (hpu201 x (hMu187 x hx)).trans (hOu187 x hx ne)
  have da_b200 : a ≠ b200 := fun h => hnb200 (h ▸ mt188)
  have db1_b200 : b1 ≠ b200 := fun h => hnb200 (h ▸ mt189)
  have db7_b200 : b7 ≠ b200 := fun h => hnb200 (h ▸ mt190)
  have db15_b200 : b15 ≠ b200 := fun h => hnb200 (h ▸ mt191)
  have db35_b200 : b35 ≠ b200 := fun h => hnb200 (h ▸ mt192)
  have db47_b200 : b47 ≠ b200 := fun h => hnb200 (h ▸ mt193)
  have db61_b200 : b61 ≠ b200 := fun h => hnb200 (h ▸ mt194)
  have db77_b200 : b77 ≠ b200 := fun h => hnb200 (h ▸ mt195)
  have db95_b200 : b95 ≠ b200 := fun h => hnb200 (h ▸ mt196)
  have db115_b200 : b115 ≠ b200 := fun h => hnb200 (h ▸ mt197)
  have db137_b200 : b137 ≠ b200 := fun h => hnb200 (h ▸ mt198)
  have db161_b200 : b161 ≠ b200 := fun h => hnb200 (h ▸ mt199)
  have mt202 : a ∈ u201.1 := (fun x hx => by rw [hu201]; exact List.mem_append_left _ hx : ∀ x, x ∈ u187.1 → x ∈ u201.1) a mt188
  have et202 : u201.2 a = .inr (11, (.int (zI 0) :: .ref b1 :: .ref b7 :: .ref b15 :: .int (zI 5) :: .int (zI 20) :: .int (zI 0) :: .ref b35 :: .ref b47 :: .ref b61 :: .ref b77 :: .ref b95 :: .ref b115 :: .ref b137 :: .ref b161 :: .int (zI ((-1))) :: .int (zI 0) :: .null :: .null :: .null :: .null :: .int (zI 0) :: .null :: .int (zI 0) :: .null :: .int (zI 0) :: .null :: .null :: .null :: .null :: .null :: .null :: .null :: .null :: .null :: .null :: .null :: .null :: .null :: .null :: .null :: .null :: [])) := (hpu201 a mt188).trans hEu187
  have mt203 : b1 ∈ u201.1 := (fun x hx => by rw [hu201]; exact List.mem_append_left _ hx : ∀ x, x ∈ u187.1 → x ∈ u201.1) b1 mt189
  have et203 : u201.2 b1 = .inl (cy 2, 288, .inl (fun _ => zI 0)) := (hpu201 b1 mt189).trans et189
  have mt204 : b7 ∈ u201.1 := (fun x hx => by rw [hu201]; exact List.mem_append_left _ hx : ∀ x, x ∈ u187.1 → x ∈ u201.1) b7 mt190
  have et204 : u201.2 b7 = .inl (cy 0, 36, .inl (fun _ => zI 0)) := (hpu201 b7 mt190).trans et190
  have mt205 : b15 ∈ u201.1 := (fun x hx => by rw [hu201]; exact List.mem_append_left _ hx : ∀ x, x ∈ u187.1 → x ∈ u201.1) b15 mt191
  have et205 : u201.2 b15 = .inl (cy 0, 36, .inl (fun _ => zI 0)) := (hpu201 b15 mt191).trans et191
  have mt206 : b35 ∈ u201.1 := (fun x hx => by rw [hu201]; exact List.mem_append_left _ hx : ∀ x, x ∈ u187.1 → x ∈ u201.1) b35 mt192
  have et206 : u201.2 b35 = .inl (cy 0, 10, .inl (fun _ => zI 0)) := (hpu201 b35 mt192).trans et192
  have mt207 : b47 ∈ u201.1 := (fun x hx => by rw [hu201]; exact List.mem_append_left _ hx : ∀ x, x ∈ u187.1 → x ∈ u201.1) b47 mt193
  have et207 : u201.2 b47 = .inl (cy 0, 10, .inl (fun _ => zI 0)) := (hpu201 b47 mt193).trans et193
  have mt208 : b61 ∈ u201.1 := (fun x hx => by rw [hu201]; exact List.mem_append_left _ hx : ∀ x, x ∈ u187.1 → x ∈ u201.1) b61 mt194
  have et208 : u201.2 b61 = .inl (cy 0, 10, .inl (fun _ => zI 0)) := (hpu201 b61 mt194).trans et194
  have mt209 : b77 ∈ u201.1 := (fun x hx => by rw [hu201]; exact List.mem_append_left _ hx : ∀ x, x ∈ u187.1 → x ∈ u201.1) b77 mt195
  have et209 : u201.2 b77 = .inl (cy 0, 10, .inl (fun _ => zI 0)) := (hpu201 b77 mt195).trans et195
  have mt210 : b95 ∈ u201.1 := (fun x hx => by rw [hu201]; exact List.mem_append_left _ hx : ∀ x, x ∈ u187.1 → x ∈ u201.1) b95 mt196
  have et210 : u201.2 b95 = .inl (cy 0, 202, .inl (fun _ => zI 0)) := (hpu201 b95 mt196).trans et196
  have mt211 : b115 ∈ u201.1 := (fun x hx => by rw [hu201]; exact List.mem_append_left _ hx : ∀ x, x ∈ u187.1 → x ∈ u201.1) b115 mt197
  have et211 : u201.2 b115 = .inl (cy 0, 202, .inl (fun _ => zI 0)) := (hpu201 b115 mt197).trans et197
  have mt212 : b137 ∈ u201.1 := (fun x hx => by rw [hu201]; exact List.mem_append_left _ hx : ∀ x, x ∈ u187.1 → x ∈ u201.1) b137 mt198
  have et212 : u201.2 b137 = .inl (cy 0, 2, .inl (fun _ => zI 0)) := (hpu201 b137 mt198).trans et198
  have mt213 : b161 ∈ u201.1 := (fun x hx => by rw [hu201]; exact List.mem_append_left _ hx : ∀ x, x ∈ u187.1 → x ∈ u201.1) b161 mt199
  have et213 : u201.2 b161 = .inl (cy 0, 2, .inl (fun _ => zI 0)) := (hpu201 b161 mt199).trans et199
  have mb200 : b200 ∈ u201.1 := by rw [hu201]; exact List.mem_append_right _ List.mem_cons_self
  obtain ⟨k9, hk9⟩ := p_get D u201 mt202
  refine va_putF (C := RX12) (T := TX12) (N := 42) (ci := 11) (ty := tyX12 17) hx hb hts (fun _ h => (List.mem_cons_of_mem _ (List.mem_append_right _ h))) tyX12 tyX12_ok nmX12 hown hI.1 hG.1 hG.2 hS k9 (hk9.trans (by rw [et202])) rfl 17 (by decide) (hts (.fieldLink RX12 54 "StraitSwimModel" "shipX" "[I") (List.mem_cons_of_mem _ (List.mem_append_left _ (List.mem_append_left _ (List.mem_of_getElem? (i := 19) rfl))))) (fun _ h9 => h9) rfl hin2 rfl (tyX12_ok 17 (by decide)) rfl rfl (Nat.le_of_ble_eq_true rfl) dX12_init_114 (fun H locs hP hD hS => ?_)
  obtain ⟨u214, hu214, hEu214, hpu214, hG⟩ := p_set (e := .inr (11, (.int (zI 0) :: .ref b1 :: .ref b7 :: .ref b15 :: .int (zI 5) :: .int (zI 20) :: .int (zI 0) :: .ref b35 :: .ref b47 :: .ref b61 :: .ref b77 :: .ref b95 :: .ref b115 :: .ref b137 :: .ref b161 :: .int (zI ((-1))) :: .int (zI 0) :: .ref b200 :: .null :: .null :: .null :: .int (zI 0) :: .null :: .int (zI 0) :: .null :: .int (zI 0) :: .null :: .null :: .null :: .null :: .null :: .null :: .null :: .null :: .null :: .null :: .null :: .null :: .null :: .null :: .null :: .null :: []))) hG mt202 hk9 hP hD
  have mt215 : a ∈ u214.1 := (fun x hx => by rw [hu214]; exact hx : ∀ x, x ∈ u201.1 → x ∈ u214.1) a mt202
  have mt216 : b1 ∈ u214.1 := (fun x hx => by rw [hu214]; exact hx : ∀ x, x ∈ u201.1 → x ∈ u214.1) b1 mt203
  have et216 : u214.2 b1 = .inl (cy 2, 288, .inl (fun _ => zI 0)) := (hpu214 b1 (fun h => (fun h9 => da_b1 h9.symm) h)).trans et203
  have mt217 : b7 ∈ u214.1 := (fun x hx => by rw [hu214]; exact hx : ∀ x, x ∈ u201.1 → x ∈ u214.1) b7 mt204
  have et217 : u214.2 b7 = .inl (cy 0, 36, .inl (fun _ => zI 0)) := (hpu214 b7 (fun h => (fun h9 => da_b7 h9.symm) h)).trans et204
  have mt218 : b15 ∈ u214.1 := (fun x hx => by rw [hu214]; exact hx : ∀ x, x ∈ u201.1 → x ∈ u214.1) b15 mt205
  have et218 : u214.2 b15 = .inl (cy 0, 36, .inl (fun _ => zI 0)) := (hpu214 b15 (fun h => (fun h9 => da_b15 h9.symm) h)).trans et205
  have mt219 : b35 ∈ u214.1 := (fun x hx => by rw [hu214]; exact hx : ∀ x, x ∈ u201.1 → x ∈ u214.1) b35 mt206
  have et219 : u214.2 b35 = .inl (cy 0, 10, .inl (fun _ => zI 0)) := (hpu214 b35 (fun h => (fun h9 => da_b35 h9.symm) h)).trans et206
  have mt220 : b47 ∈ u214.1 := (fun x hx => by rw [hu214]; exact hx : ∀ x, x ∈ u201.1 → x ∈ u214.1) b47 mt207
  have et220 : u214.2 b47 = .inl (cy 0, 10, .inl (fun _ => zI 0)) := (hpu214 b47 (fun h => (fun h9 => da_b47 h9.symm) h)).trans et207
  have mt221 : b61 ∈ u214.1 := (fun x hx => by rw [hu214]; exact hx : ∀ x, x ∈ u201.1 → x ∈ u214.1) b61 mt208
  have et221 : u214.2 b61 = .inl (cy 0, 10, .inl (fun _ => zI 0)) := (hpu214 b61 (fun h => (fun h9 => da_b61 h9.symm) h)).trans et208
  have mt222 : b77 ∈ u214.1 := (fun x hx => by rw [hu214]; exact hx : ∀ x, x ∈ u201.1 → x ∈ u214.1) b77 mt209
  have et222 : u214.2 b77 = .inl (cy 0, 10, .inl (fun _ => zI 0)) := (hpu214 b77 (fun h => (fun h9 => da_b77 h9.symm) h)).trans et209
  have mt223 : b95 ∈ u214.1 := (fun x hx => by rw [hu214]; exact hx : ∀ x, x ∈ u201.1 → x ∈ u214.1) b95 mt210
  have et223 : u214.2 b95 = .inl (cy 0, 202, .inl (fun _ => zI 0)) := (hpu214 b95 (fun h => (fun h9 => da_b95 h9.symm) h)).trans et210
  have mt224 : b115 ∈ u214.1 := (fun x hx => by rw [hu214]; exact hx : ∀ x, x ∈ u201.1 → x ∈ u214.1) b115 mt211
  have et224 : u214.2 b115 = .inl (cy 0, 202, .inl (fun _ => zI 0)) := (hpu214 b115 (fun h => (fun h9 => da_b115 h9.symm) h)).trans et211
  have mt225 : b137 ∈ u214.1 := (fun x hx => by rw [hu214]; exact hx : ∀ x, x ∈ u201.1 → x ∈ u214.1) b137 mt212
  have et225 : u214.2 b137 = .inl (cy 0, 2, .inl (fun _ => zI 0)) := (hpu214 b137 (fun h => (fun h9 => da_b137 h9.symm) h)).trans et212
  have mt226 : b161 ∈ u214.1 := (fun x hx => by rw [hu214]; exact hx : ∀ x, x ∈ u201.1 → x ∈ u214.1) b161 mt213
  have et226 : u214.2 b161 = .inl (cy 0, 2, .inl (fun _ => zI 0)) := (hpu214 b161 (fun h => (fun h9 => da_b161 h9.symm) h)).trans et213
  have mt227 : b200 ∈ u214.1 := (fun x hx => by rw [hu214]; exact hx : ∀ x, x ∈ u201.1 → x ∈ u214.1) b200 mb200
  have et227 : u214.2 b200 = .inl (cy 0, 8, .inl (fun _ => zI 0)) := (hpu214 b200 (fun h => (fun h9 => da_b200 h9.symm) h)).trans hEb200
  have hLu214 : u214.1 = ((((((((((((u.1 ++ [b1]) ++ [b7]) ++ [b15]) ++ [b35]) ++ [b47]) ++ [b61]) ++ [b77]) ++ [b95]) ++ [b115]) ++ [b137]) ++ [b161]) ++ [b200]) := by rw [hu214, hLu201]
  have hMu214 : ∀ x, x ∈ u.1 → x ∈ u214.1 := fun x hx => by rw [hu214]; exact hMu201 x hx
  have hOu214 : ∀ x, x ∈ u.1 → x ≠ a → u214.2 x = u.2 x := fun x hx ne => (hpu214 x ne).trans (hOu201 x hx ne)
  refine lv_aload_n hx hb dX12_init_117 rfl (lv_at hl 0 rfl) ?_
  refine z_bipush hx hb dX12_init_118 (by decide) ?_
  refine p_newI (z := 8) (M := 8) hx hb (hts (.arrayClass .int) (List.mem_cons_of_mem _ (List.mem_append_left _ (List.mem_append_left _ (List.mem_of_getElem? (i := 5) rfl))))) hI hG hS (by omega) (by omega) (by omega) (Nat.le_of_ble_eq_true rfl) (Nat.le_of_ble_eq_true rfl) dX12_init_120 (fun b228 u229 H hu229 hEb228 hpu229 hnb228 hG hS => ?_)
  have hEb228 : u229.2 b228 = .inl (cy 0, 8, .inl (fun _ => zI 0)) := hEb228
  have fb228 : b228 ∉ ((((((((((((u.1 ++ [b1]) ++ [b7]) ++ [b15]) ++ [b35]) ++ [b47]) ++ [b61]) ++ [b77]) ++ [b95]) ++ [b115]) ++ [b137]) ++ [b161]) ++ [b200]) := by rw [← hLu214]; exact hnb228
  have hLu229 : u229.1 = (((((((((((((u.1 ++ [b1]) ++ [b7]) ++ [b15]) ++ [b35]) ++ [b47]) ++ [b61]) ++ [b77]) ++ [b95]) ++ [b115]) ++ [b137]) ++ [b161]) ++ [b200]) ++ [b228]) := by rw [hu229, hLu214]
  have hMu229 : ∀ x, x ∈ u.1 → x ∈ u229.1 := fun x hx => by rw [hu229]; exact List.mem_append_left _ (hMu214 x hx)
  have hOu229 : ∀ x, x ∈ u.1 → x ≠ a → u229.2 x = u.2 x := fun x hx ne => (hpu229 x (hMu214 x hx)).trans (hOu214 x hx ne)
  have da_b228 : a ≠ b228 := fun h => hnb228 (h ▸ mt215)
  have db1_b228 : b1 ≠ b228 := fun h => hnb228 (h ▸ mt216)
  have db7_b228 : b7 ≠ b228 := fun h => hnb228 (h ▸ mt217)
  have db15_b228 : b15 ≠ b228 := fun h => hnb228 (h ▸ mt218)
  have db35_b228 : b35 ≠ b228 := fun h => hnb228 (h ▸ mt219)
  have db47_b228 : b47 ≠ b228 := fun h => hnb228 (h ▸ mt220)
  have db61_b228 : b61 ≠ b228 := fun h => hnb228 (h ▸ mt221)
  have db77_b228 : b77 ≠ b228 := fun h => hnb228 (h ▸ mt222)
  have db95_b228 : b95 ≠ b228 := fun h => hnb228 (h ▸ mt223)
  have db115_b228 : b115 ≠ b228 := fun h => hnb228 (h ▸ mt224)
  have db137_b228 : b137 ≠ b228 := fun h => hnb228 (h ▸ mt225)
  have db161_b228 : b161 ≠ b228 := fun h => hnb228 (h ▸ mt226)
  have db200_b228 : b200 ≠ b228 := fun h => hnb228 (h ▸ mt227)
  have mt230 : a ∈ u229.1 := (fun x hx => by rw [hu229]; exact List.mem_append_left _ hx : ∀ x, x ∈ u214.1 → x ∈ u229.1) a mt215
  have et230 : u229.2 a = .inr (11, (.int (zI 0) :: .ref b1 :: .ref b7 :: .ref b15 :: .int (zI 5) :: .int (zI 20) :: .int (zI 0) :: .ref b35 :: .ref b47 :: .ref b61 :: .ref b77 :: .ref b95 :: .ref b115 :: .ref b137 :: .ref b161 :: .int (zI ((-1))) :: .int (zI 0) :: .ref b200 :: .null :: .null :: .null :: .int (zI 0) :: .null :: .int (zI 0) :: .null :: .int (zI 0) :: .null :: .null :: .null :: .null :: .null :: .null :: .null :: .null :: .null :: .null :: .null :: .null :: .null :: .null :: .null :: .null :: [])) := (hpu229 a mt215).trans hEu214
  have mt231 : b1 ∈ u229.1 := (fun x hx => by rw [hu229]; exact List.mem_append_left _ hx : ∀ x, x ∈ u214.1 → x ∈ u229.1) b1 mt216
  have et231 : u229.2 b1 = .inl (cy 2, 288, .inl (fun _ => zI 0)) := (hpu229 b1 mt216).trans et216
  have mt232 : b7 ∈ u229.1 := (fun x hx => by rw [hu229]; exact List.mem_append_left _ hx : ∀ x, x ∈ u214.1 → x ∈ u229.1) b7 mt217
  have et232 : u229.2 b7 = .inl (cy 0, 36, .inl (fun _ => zI 0)) := (hpu229 b7 mt217).trans et217
  have mt233 : b15 ∈ u229.1 := (fun x hx => by rw [hu229]; exact List.mem_append_left _ hx : ∀ x, x ∈ u214.1 → x ∈ u229.1) b15 mt218
  have et233 : u229.2 b15 = .inl (cy 0, 36, .inl (fun _ => zI 0)) := (hpu229 b15 mt218).trans et218
  have mt234 : b35 ∈ u229.1 := (fun x hx => by rw [hu229]; exact List.mem_append_left _ hx : ∀ x, x ∈ u214.1 → x ∈ u229.1) b35 mt219
  have et234 : u229.2 b35 = .inl (cy 0, 10, .inl (fun _ => zI 0)) := (hpu229 b35 mt219).trans et219
  have mt235 : b47 ∈ u229.1 := (fun x hx => by rw [hu229]; exact List.mem_append_left _ hx : ∀ x, x ∈ u214.1 → x ∈ u229.1) b47 mt220
  have et235 : u229.2 b47 = .inl (cy 0, 10, .inl (fun _ => zI 0)) := (hpu229 b47 mt220).trans et220
  have mt236 : b61 ∈ u229.1 := (fun x hx => by rw [hu229]; exact List.mem_append_left _ hx : ∀ x, x ∈ u214.1 → x ∈ u229.1) b61 mt221
  have et236 : u229.2 b61 = .inl (cy 0, 10, .inl (fun _ => zI 0)) := (hpu229 b61 mt221).trans et221
  have mt237 : b77 ∈ u229.1 := (fun x hx => by rw [hu229]; exact List.mem_append_left _ hx : ∀ x, x ∈ u214.1 → x ∈ u229.1) b77 mt222
  have et237 : u229.2 b77 = .inl (cy 0, 10, .inl (fun _ => zI 0)) := (hpu229 b77 mt222).trans et222
  have mt238 : b95 ∈ u229.1 := (fun x hx => by rw [hu229]; exact List.mem_append_left _ hx : ∀ x, x ∈ u214.1 → x ∈ u229.1) b95 mt223
  have et238 : u229.2 b95 = .inl (cy 0, 202, .inl (fun _ => zI 0)) := (hpu229 b95 mt223).trans et223
  have mt239 : b115 ∈ u229.1 := (fun x hx => by rw [hu229]; exact List.mem_append_left _ hx : ∀ x, x ∈ u214.1 → x ∈ u229.1) b115 mt224
  have et239 : u229.2 b115 = .inl (cy 0, 202, .inl (fun _ => zI 0)) := (hpu229 b115 mt224).trans et224
  have mt240 : b137 ∈ u229.1 := (fun x hx => by rw [hu229]; exact List.mem_append_left _ hx : ∀ x, x ∈ u214.1 → x ∈ u229.1) b137 mt225
  have et240 : u229.2 b137 = .inl (cy 0, 2, .inl (fun _ => zI 0)) := (hpu229 b137 mt225).trans et225
  have mt241 : b161 ∈ u229.1 := (fun x hx => by rw [hu229]; exact List.mem_append_left _ hx : ∀ x, x ∈ u214.1 → x ∈ u229.1) b161 mt226
  have et241 : u229.2 b161 = .inl (cy 0, 2, .inl (fun _ => zI 0)) := (hpu229 b161 mt226).trans et226
  have mt242 : b200 ∈ u229.1 := (fun x hx => by rw [hu229]; exact List.mem_append_left _ hx : ∀ x, x ∈ u214.1 → x ∈ u229.1) b200 mt227
  have et242 : u229.2 b200 = .inl (cy 0, 8, .inl (fun _ => zI 0)) := (hpu229 b200 mt227).trans et227
  have mb228 : b228 ∈ u229.1 := by rw [hu229]; exact List.mem_append_right _ List.mem_cons_self
  obtain ⟨k9, hk9⟩ := p_get D u229 mt230
  refine va_putF (C := RX12) (T := TX12) (N := 42) (ci := 11) (ty := tyX12 18) hx hb hts (fun _ h => (List.mem_cons_of_mem _ (List.mem_append_right _ h))) tyX12 tyX12_ok nmX12 hown hI.1 hG.1 hG.2 hS k9 (hk9.trans (by rw [et230])) rfl 18 (by decide) (hts (.fieldLink RX12 57 "StraitSwimModel" "shipY" "[I") (List.mem_cons_of_mem _ (List.mem_append_left _ (List.mem_append_left _ (List.mem_of_getElem? (i := 20) rfl))))) (fun _ h9 => h9) rfl hin2 rfl (tyX12_ok 18 (by decide)) rfl rfl (Nat.le_of_ble_eq_true rfl) dX12_init_122 (fun H locs hP hD hS => ?_)
  obtain ⟨u243, hu243, hEu243, hpu243, hG⟩ := p_set (e := .inr (11, (.int (zI 0) :: .ref b1 :: .ref b7 :: .ref b15 :: .int (zI 5) :: .int (zI 20) :: .int (zI 0) :: .ref b35 :: .ref b47 :: .ref b61 :: .ref b77 :: .ref b95 :: .ref b115 :: .ref b137 :: .ref b161 :: .int (zI ((-1))) :: .int (zI 0) :: .ref b200 :: .ref b228 :: .null :: .null :: .int (zI 0) :: .null :: .int (zI 0) :: .null :: .int (zI 0) :: .null :: .null :: .null :: .null :: .null :: .null :: .null :: .null :: .null :: .null :: .null :: .null :: .null :: .null :: .null :: .null :: []))) hG mt230 hk9 hP hD
  have mt244 : a ∈ u243.1 := (fun x hx => by rw [hu243]; exact hx : ∀ x, x ∈ u229.1 → x ∈ u243.1) a mt230
  have mt245 : b1 ∈ u243.1 := (fun x hx => by rw [hu243]; exact hx : ∀ x, x ∈ u229.1 → x ∈ u243.1) b1 mt231
  have et245 : u243.2 b1 = .inl (cy 2, 288, .inl (fun _ => zI 0)) := (hpu243 b1 (fun h => (fun h9 => da_b1 h9.symm) h)).trans et231
  have mt246 : b7 ∈ u243.1 := (fun x hx => by rw [hu243]; exact hx : ∀ x, x ∈ u229.1 → x ∈ u243.1) b7 mt232
  have et246 : u243.2 b7 = .inl (cy 0, 36, .inl (fun _ => zI 0)) := (hpu243 b7 (fun h => (fun h9 => da_b7 h9.symm) h)).trans et232
  have mt247 : b15 ∈ u243.1 := (fun x hx => by rw [hu243]; exact hx : ∀ x, x ∈ u229.1 → x ∈ u243.1) b15 mt233
  have et247 : u243.2 b15 = .inl (cy 0, 36, .inl (fun _ => zI 0)) := (hpu243 b15 (fun h => (fun h9 => da_b15 h9.symm) h)).trans et233
  have mt248 : b35 ∈ u243.1 := (fun x hx => by rw [hu243]; exact hx : ∀ x, x ∈ u229.1 → x ∈ u243.1) b35 mt234
  have et248 : u243.2 b35 = .inl (cy 0, 10, .inl (fun _ => zI 0)) := (hpu243 b35 (fun h => (fun h9 => da_b35 h9.symm) h)).trans et234
  have mt249 : b47 ∈ u243.1 := (fun x hx => by rw [hu243]; exact hx : ∀ x, x ∈ u229.1 → x ∈ u243.1) b47 mt235
  have et249 : u243.2 b47 = .inl (cy 0, 10, .inl (fun _ => zI 0)) := (hpu243 b47 (fun h => (fun h9 => da_b47 h9.symm) h)).trans et235
  have mt250 : b61 ∈ u243.1 := (fun x hx => by rw [hu243]; exact hx : ∀ x, x ∈ u229.1 → x ∈ u243.1) b61 mt236
  have et250 : u243.2 b61 = .inl (cy 0, 10, .inl (fun _ => zI 0)) := (hpu243 b61 (fun h => (fun h9 => da_b61 h9.symm) h)).trans et236
  have mt251 : b77 ∈ u243.1 := (fun x hx => by rw [hu243]; exact hx : ∀ x, x ∈ u229.1 → x ∈ u243.1) b77 mt237
  have et251 : u243.2 b77 = .inl (cy 0, 10, .inl (fun _ => zI 0)) := (hpu243 b77 (fun h => (fun h9 => da_b77 h9.symm) h)).trans et237
  have mt252 : b95 ∈ u243.1 := (fun x hx => by rw [hu243]; exact hx : ∀ x, x ∈ u229.1 → x ∈ u243.1) b95 mt238
  have et252 : u243.2 b95 = .inl (cy 0, 202, .inl (fun _ => zI 0)) := (hpu243 b95 (fun h => (fun h9 => da_b95 h9.symm) h)).trans et238
  have mt253 : b115 ∈ u243.1 := (fun x hx => by rw [hu243]; exact hx : ∀ x, x ∈ u229.1 → x ∈ u243.1) b115 mt239
  have et253 : u243.2 b115 = .inl (cy 0, 202, .inl (fun _ => zI 0)) := (hpu243 b115 (fun h => (fun h9 => da_b115 h9.symm) h)).trans et239
  have mt254 : b137 ∈ u243.1 := (fun x hx => by rw [hu243]; exact hx : ∀ x, x ∈ u229.1 → x ∈ u243.1) b137 mt240
  have et254 : u243.2 b137 = .inl (cy 0, 2, .inl (fun _ => zI 0)) := (hpu243 b137 (fun h => (fun h9 => da_b137 h9.symm) h)).trans et240
  have mt255 : b161 ∈ u243.1 := (fun x hx => by rw [hu243]; exact hx : ∀ x, x ∈ u229.1 → x ∈ u243.1) b161 mt241
  have et255 : u243.2 b161 = .inl (cy 0, 2, .inl (fun _ => zI 0)) := (hpu243 b161 (fun h => (fun h9 => da_b161 h9.symm) h)).trans et241
  have mt256 : b200 ∈ u243.1 := (fun x hx => by rw [hu243]; exact hx : ∀ x, x ∈ u229.1 → x ∈ u243.1) b200 mt242
  have et256 : u243.2 b200 = .inl (cy 0, 8, .inl (fun _ => zI 0)) := (hpu243 b200 (fun h => (fun h9 => da_b200 h9.symm) h)).trans et242
  have mt257 : b228 ∈ u243.1 := (fun x hx => by rw [hu243]; exact hx : ∀ x, x ∈ u229.1 → x ∈ u243.1) b228 mb228
  have et257 : u243.2 b228 = .inl (cy 0, 8, .inl (fun _ => zI 0)) := (hpu243 b228 (fun h => (fun h9 => da_b228 h9.symm) h)).trans hEb228
  have hLu243 : u243.1 = (((((((((((((u.1 ++ [b1]) ++ [b7]) ++ [b15]) ++ [b35]) ++ [b47]) ++ [b61]) ++ [b77]) ++ [b95]) ++ [b115]) ++ [b137]) ++ [b161]) ++ [b200]) ++ [b228]) := by rw [hu243, hLu229]
  have hMu243 : ∀ x, x ∈ u.1 → x ∈ u243.1 := fun x hx => by rw [hu243]; exact hMu229 x hx
  have hOu243 : ∀ x, x ∈ u.1 → x ≠ a → u243.2 x = u.2 x := fun x hx ne => (hpu243 x ne).trans (hOu229 x hx ne)
  refine lv_aload_n hx hb dX12_init_125 rfl (lv_at hl 0 rfl) ?_
  refine z_bipush hx hb dX12_init_126 (by decide) ?_
  refine p_newI (z := 8) (M := 8) hx hb (hts (.arrayClass .int) (List.mem_cons_of_mem _ (List.mem_append_left _ (List.mem_append_left _ (List.mem_of_getElem? (i := 5) rfl))))) hI hG hS (by omega) (by omega) (by omega) (Nat.le_of_ble_eq_true rfl) (Nat.le_of_ble_eq_true rfl) dX12_init_128 (fun b258 u259 H hu259 hEb258 hpu259 hnb258 hG hS => ?_)
  have hEb258 : u259.2 b258 = .inl (cy 0, 8, .inl (fun _ => zI 0)) := hEb258
  have fb258 : b258 ∉ (((((((((((((u.1 ++ [b1]) ++ [b7]) ++ [b15]) ++ [b35]) ++ [b47]) ++ [b61]) ++ [b77]) ++ [b95]) ++ [b115]) ++ [b137]) ++ [b161]) ++ [b200]) ++ [b228]) := by rw [← hLu243]; exact hnb258
  have hLu259 : u259.1 = ((((((((((((((u.1 ++ [b1]) ++ [b7]) ++ [b15]) ++ [b35]) ++ [b47]) ++ [b61]) ++ [b77]) ++ [b95]) ++ [b115]) ++ [b137]) ++ [b161]) ++ [b200]) ++ [b228]) ++ [b258]) := by rw [hu259, hLu243]
  have hMu259 : ∀ x, x ∈ u.1 → x ∈ u259.1 := fun x hx => by rw [hu259]; exact List.mem_append_left _ (hMu243 x hx)
  have hOu259 : ∀ x, x ∈ u.1 → x ≠ a → u259.2 x = u.2 x := fun x hx ne => (hpu259 x (hMu243 x hx)).trans (hOu243 x hx ne)
  have da_b258 : a ≠ b258 := fun h => hnb258 (h ▸ mt244)
  have db1_b258 : b1 ≠ b258 := fun h => hnb258 (h ▸ mt245)
  have db7_b258 : b7 ≠ b258 := fun h => hnb258 (h ▸ mt246)
  have db15_b258 : b15 ≠ b258 := fun h => hnb258 (h ▸ mt247)
  have db35_b258 : b35 ≠ b258 := fun h => hnb258 (h ▸ mt248)
  have db47_b258 : b47 ≠ b258 := fun h => hnb258 (h ▸ mt249)
  have db61_b258 : b61 ≠ b258 := fun h => hnb258 (h ▸ mt250)
  have db77_b258 : b77 ≠ b258 := fun h => hnb258 (h ▸ mt251)
  have db95_b258 : b95 ≠ b258 := fun h => hnb258 (h ▸ mt252)
  have db115_b258 : b115 ≠ b258 := fun h => hnb258 (h ▸ mt253)
  have db137_b258 : b137 ≠ b258 := fun h => hnb258 (h ▸ mt254)
  have db161_b258 : b161 ≠ b258 := fun h => hnb258 (h ▸ mt255)
  have db200_b258 : b200 ≠ b258 := fun h => hnb258 (h ▸ mt256)
  have db228_b258 : b228 ≠ b258 := fun h => hnb258 (h ▸ mt257)
  have mt260 : a ∈ u259.1 := (fun x hx => by rw [hu259]; exact List.mem_append_left _ hx : ∀ x, x ∈ u243.1 → x ∈ u259.1) a mt244
  have et260 : u259.2 a = .inr (11, (.int (zI 0) :: .ref b1 :: .ref b7 :: .ref b15 :: .int (zI 5) :: .int (zI 20) :: .int (zI 0) :: .ref b35 :: .ref b47 :: .ref b61 :: .ref b77 :: .ref b95 :: .ref b115 :: .ref b137 :: .ref b161 :: .int (zI ((-1))) :: .int (zI 0) :: .ref b200 :: .ref b228 :: .null :: .null :: .int (zI 0) :: .null :: .int (zI 0) :: .null :: .int (zI 0) :: .null :: .null :: .null :: .null :: .null :: .null :: .null :: .null :: .null :: .null :: .null :: .null :: .null :: .null :: .null :: .null :: [])) := (hpu259 a mt244).trans hEu243
  have mt261 : b1 ∈ u259.1 := (fun x hx => by rw [hu259]; exact List.mem_append_left _ hx : ∀ x, x ∈ u243.1 → x ∈ u259.1) b1 mt245
  have et261 : u259.2 b1 = .inl (cy 2, 288, .inl (fun _ => zI 0)) := (hpu259 b1 mt245).trans et245
  have mt262 : b7 ∈ u259.1 := (fun x hx => by rw [hu259]; exact List.mem_append_left _ hx : ∀ x, x ∈ u243.1 → x ∈ u259.1) b7 mt246
  have et262 : u259.2 b7 = .inl (cy 0, 36, .inl (fun _ => zI 0)) := (hpu259 b7 mt246).trans et246
  have mt263 : b15 ∈ u259.1 := (fun x hx => by rw [hu259]; exact List.mem_append_left _ hx : ∀ x, x ∈ u243.1 → x ∈ u259.1) b15 mt247
  have et263 : u259.2 b15 = .inl (cy 0, 36, .inl (fun _ => zI 0)) := (hpu259 b15 mt247).trans et247
  have mt264 : b35 ∈ u259.1 := (fun x hx => by rw [hu259]; exact List.mem_append_left _ hx : ∀ x, x ∈ u243.1 → x ∈ u259.1) b35 mt248
  have et264 : u259.2 b35 = .inl (cy 0, 10, .inl (fun _ => zI 0)) := (hpu259 b35 mt248).trans et248
  have mt265 : b47 ∈ u259.1 := (fun x hx => by rw [hu259]; exact List.mem_append_left _ hx : ∀ x, x ∈ u243.1 → x ∈ u259.1) b47 mt249
  have et265 : u259.2 b47 = .inl (cy 0, 10, .inl (fun _ => zI 0)) := (hpu259 b47 mt249).trans et249
  have mt266 : b61 ∈ u259.1 := (fun x hx => by rw [hu259]; exact List.mem_append_left _ hx : ∀ x, x ∈ u243.1 → x ∈ u259.1) b61 mt250
  have et266 : u259.2 b61 = .inl (cy 0, 10, .inl (fun _ => zI 0)) := (hpu259 b61 mt250).trans et250
  have mt267 : b77 ∈ u259.1 := (fun x hx => by rw [hu259]; exact List.mem_append_left _ hx : ∀ x, x ∈ u243.1 → x ∈ u259.1) b77 mt251
  have et267 : u259.2 b77 = .inl (cy 0, 10, .inl (fun _ => zI 0)) := (hpu259 b77 mt251).trans et251
  have mt268 : b95 ∈ u259.1 := (fun x hx => by rw [hu259]; exact List.mem_append_left _ hx : ∀ x, x ∈ u243.1 → x ∈ u259.1) b95 mt252
  have et268 : u259.2 b95 = .inl (cy 0, 202, .inl (fun _ => zI 0)) := (hpu259 b95 mt252).trans et252
  have mt269 : b115 ∈ u259.1 := (fun x hx => by rw [hu259]; exact List.mem_append_left _ hx : ∀ x, x ∈ u243.1 → x ∈ u259.1) b115 mt253
  have et269 : u259.2 b115 = .inl (cy 0, 202, .inl (fun _ => zI 0)) := (hpu259 b115 mt253).trans et253
  have mt270 : b137 ∈ u259.1 := (fun x hx => by rw [hu259]; exact List.mem_append_left _ hx : ∀ x, x ∈ u243.1 → x ∈ u259.1) b137 mt254
  have et270 : u259.2 b137 = .inl (cy 0, 2, .inl (fun _ => zI 0)) := (hpu259 b137 mt254).trans et254
  have mt271 : b161 ∈ u259.1 := (fun x hx => by rw [hu259]; exact List.mem_append_left _ hx : ∀ x, x ∈ u243.1 → x ∈ u259.1) b161 mt255
  have et271 : u259.2 b161 = .inl (cy 0, 2, .inl (fun _ => zI 0)) := (hpu259 b161 mt255).trans et255
  have mt272 : b200 ∈ u259.1 := (fun x hx => by rw [hu259]; exact List.mem_append_left _ hx : ∀ x, x ∈ u243.1 → x ∈ u259.1) b200 mt256
  have et272 : u259.2 b200 = .inl (cy 0, 8, .inl (fun _ => zI 0)) := (hpu259 b200 mt256).trans et256
  have mt273 : b228 ∈ u259.1 := (fun x hx => by rw [hu259]; exact List.mem_append_left _ hx : ∀ x, x ∈ u243.1 → x ∈ u259.1) b228 mt257
  have et273 : u259.2 b228 = .inl (cy 0, 8, .inl (fun _ => zI 0)) := (hpu259 b228 mt257).trans et257
  have mb258 : b258 ∈ u259.1 := by rw [hu259]; exact List.mem_append_right _ List.mem_cons_self
  obtain ⟨k9, hk9⟩ := p_get D u259 mt260
  refine va_putF (C := RX12) (T := TX12) (N := 42) (ci := 11) (ty := tyX12 19) hx hb hts (fun _ h => (List.mem_cons_of_mem _ (List.mem_append_right _ h))) tyX12 tyX12_ok nmX12 hown hI.1 hG.1 hG.2 hS k9 (hk9.trans (by rw [et260])) rfl 19 (by decide) (hts (.fieldLink RX12 60 "StraitSwimModel" "shipEast" "[I") (List.mem_cons_of_mem _ (List.mem_append_left _ (List.mem_append_left _ (List.mem_of_getElem? (i := 21) rfl))))) (fun _ h9 => h9) rfl hin2 rfl (tyX12_ok 19 (by decide)) rfl rfl (Nat.le_of_ble_eq_true rfl) dX12_init_130 (fun H locs hP hD hS => ?_)
  obtain ⟨u274, hu274, hEu274, hpu274, hG⟩ := p_set (e := .inr (11, (.int (zI 0) :: .ref b1 :: .ref b7 :: .ref b15 :: .int (zI 5) :: .int (zI 20) :: .int (zI 0) :: .ref b35 :: .ref b47 :: .ref b61 :: .ref b77 :: .ref b95 :: .ref b115 :: .ref b137 :: .ref b161 :: .int (zI ((-1))) :: .int (zI 0) :: .ref b200 :: .ref b228 :: .ref b258 :: .null :: .int (zI 0) :: .null :: .int (zI 0) :: .null :: .int (zI 0) :: .null :: .null :: .null :: .null :: .null :: .null :: .null :: .null :: .null :: .null :: .null :: .null :: .null :: .null :: .null :: .null :: []))) hG mt260 hk9 hP hD
  have mt275 : a ∈ u274.1 := (fun x hx => by rw [hu274]; exact hx : ∀ x, x ∈ u259.1 → x ∈ u274.1) a mt260
  have mt276 : b1 ∈ u274.1 := (fun x hx => by rw [hu274]; exact hx : ∀ x, x ∈ u259.1 → x ∈ u274.1) b1 mt261
  have et276 : u274.2 b1 = .inl (cy 2, 288, .inl (fun _ => zI 0)) := (hpu274 b1 (fun h => (fun h9 => da_b1 h9.symm) h)).trans et261
  have mt277 : b7 ∈ u274.1 := (fun x hx => by rw [hu274]; exact hx : ∀ x, x ∈ u259.1 → x ∈ u274.1) b7 mt262
  have et277 : u274.2 b7 = .inl (cy 0, 36, .inl (fun _ => zI 0)) := (hpu274 b7 (fun h => (fun h9 => da_b7 h9.symm) h)).trans et262
  have mt278 : b15 ∈ u274.1 := (fun x hx => by rw [hu274]; exact hx : ∀ x, x ∈ u259.1 → x ∈ u274.1) b15 mt263
  have et278 : u274.2 b15 = .inl (cy 0, 36, .inl (fun _ => zI 0)) := (hpu274 b15 (fun h => (fun h9 => da_b15 h9.symm) h)).trans et263
  have mt279 : b35 ∈ u274.1 := (fun x hx => by rw [hu274]; exact hx : ∀ x, x ∈ u259.1 → x ∈ u274.1) b35 mt264
  have et279 : u274.2 b35 = .inl (cy 0, 10, .inl (fun _ => zI 0)) := (hpu274 b35 (fun h => (fun h9 => da_b35 h9.symm) h)).trans et264
  have mt280 : b47 ∈ u274.1 := (fun x hx => by rw [hu274]; exact hx : ∀ x, x ∈ u259.1 → x ∈ u274.1) b47 mt265
  have et280 : u274.2 b47 = .inl (cy 0, 10, .inl (fun _ => zI 0)) := (hpu274 b47 (fun h => (fun h9 => da_b47 h9.symm) h)).trans et265
  have mt281 : b61 ∈ u274.1 := (fun x hx => by rw [hu274]; exact hx : ∀ x, x ∈ u259.1 → x ∈ u274.1) b61 mt266
  have et281 : u274.2 b61 = .inl (cy 0, 10, .inl (fun _ => zI 0)) := (hpu274 b61 (fun h => (fun h9 => da_b61 h9.symm) h)).trans et266
  have mt282 : b77 ∈ u274.1 := (fun x hx => by rw [hu274]; exact hx : ∀ x, x ∈ u259.1 → x ∈ u274.1) b77 mt267
  have et282 : u274.2 b77 = .inl (cy 0, 10, .inl (fun _ => zI 0)) := (hpu274 b77 (fun h => (fun h9 => da_b77 h9.symm) h)).trans et267
  have mt283 : b95 ∈ u274.1 := (fun x hx => by rw [hu274]; exact hx : ∀ x, x ∈ u259.1 → x ∈ u274.1) b95 mt268
  have et283 : u274.2 b95 = .inl (cy 0, 202, .inl (fun _ => zI 0)) := (hpu274 b95 (fun h => (fun h9 => da_b95 h9.symm) h)).trans et268
  have mt284 : b115 ∈ u274.1 := (fun x hx => by rw [hu274]; exact hx : ∀ x, x ∈ u259.1 → x ∈ u274.1) b115 mt269
  have et284 : u274.2 b115 = .inl (cy 0, 202, .inl (fun _ => zI 0)) := (hpu274 b115 (fun h => (fun h9 => da_b115 h9.symm) h)).trans et269
  have mt285 : b137 ∈ u274.1 := (fun x hx => by rw [hu274]; exact hx : ∀ x, x ∈ u259.1 → x ∈ u274.1) b137 mt270
  have et285 : u274.2 b137 = .inl (cy 0, 2, .inl (fun _ => zI 0)) := (hpu274 b137 (fun h => (fun h9 => da_b137 h9.symm) h)).trans et270
  have mt286 : b161 ∈ u274.1 := (fun x hx => by rw [hu274]; exact hx : ∀ x, x ∈ u259.1 → x ∈ u274.1) b161 mt271
  have et286 : u274.2 b161 = .inl (cy 0, 2, .inl (fun _ => zI 0)) := (hpu274 b161 (fun h => (fun h9 => da_b161 h9.symm) h)).trans et271
  have mt287 : b200 ∈ u274.1 := (fun x hx => by rw [hu274]; exact hx : ∀ x, x ∈ u259.1 → x ∈ u274.1) b200 mt272
  have et287 : u274.2 b200 = .inl (cy 0, 8, .inl (fun _ => zI 0)) := (hpu274 b200 (fun h => (fun h9 => da_b200 h9.symm) h)).trans et272
  have mt288 : b228 ∈ u274.1 := (fun x hx => by rw [hu274]; exact hx : ∀ x, x ∈ u259.1 → x ∈ u274.1) b228 mt273
  have et288 : u274.2 b228 = .inl (cy 0, 8, .inl (fun _ => zI 0)) := (hpu274 b228 (fun h => (fun h9 => da_b228 h9.symm) h)).trans et273
  have mt289 : b258 ∈ u274.1 := (fun x hx => by rw [hu274]; exact hx : ∀ x, x ∈ u259.1 → x ∈ u274.1) b258 mb258
  have et289 : u274.2 b258 = .inl (cy 0, 8, .inl (fun _ => zI 0)) := (hpu274 b258 (fun h => (fun h9 => da_b258 h9.symm) h)).trans hEb258
  have hLu274 : u274.1 = ((((((((((((((u.1 ++ [b1]) ++ [b7]) ++ [b15]) ++ [b35]) ++ [b47]) ++ [b61]) ++ [b77]) ++ [b95]) ++ [b115]) ++ [b137]) ++ [b161]) ++ [b200]) ++ [b228]) ++ [b258]) := by rw [hu274, hLu259]
  have hMu274 : ∀ x, x ∈ u.1 → x ∈ u274.1 := fun x hx => by rw [hu274]; exact hMu259 x hx
  have hOu274 : ∀ x, x ∈ u.1 → x ≠ a → u274.2 x = u.2 x := fun x hx ne => (hpu274 x ne).trans (hOu259 x hx ne)
  refine lv_aload_n hx hb dX12_init_133 rfl (lv_at hl 0 rfl) ?_
  refine z_bipush hx hb dX12_init_134 (by decide) ?_
  refine p_newI (z := 8) (M := 8) hx hb (hts (.arrayClass .int) (List.mem_cons_of_mem _ (List.mem_append_left _ (List.mem_append_left _ (List.mem_of_getElem? (i := 5) rfl))))) hI hG hS (by omega) (by omega) (by omega) (Nat.le_of_ble_eq_true rfl) (Nat.le_of_ble_eq_true rfl) dX12_init_136 (fun b290 u291 H hu291 hEb290 hpu291 hnb290 hG hS => ?_)
  have hEb290 : u291.2 b290 = .inl (cy 0, 8, .inl (fun _ => zI 0)) := hEb290
  have fb290 : b290 ∉ ((((((((((((((u.1 ++ [b1]) ++ [b7]) ++ [b15]) ++ [b35]) ++ [b47]) ++ [b61]) ++ [b77]) ++ [b95]) ++ [b115]) ++ [b137]) ++ [b161]) ++ [b200]) ++ [b228]) ++ [b258]) := by rw [← hLu274]; exact hnb290
  have hLu291 : u291.1 = (((((((((((((((u.1 ++ [b1]) ++ [b7]) ++ [b15]) ++ [b35]) ++ [b47]) ++ [b61]) ++ [b77]) ++ [b95]) ++ [b115]) ++ [b137]) ++ [b161]) ++ [b200]) ++ [b228]) ++ [b258]) ++ [b290]) := by rw [hu291, hLu274]
  have hMu291 : ∀ x, x ∈ u.1 → x ∈ u291.1 := fun x hx => by rw [hu291]; exact List.mem_append_left _ (hMu274 x hx)
  have hOu291 : ∀ x, x ∈ u.1 → x ≠ a → u291.2 x = u.2 x := fun x hx ne => (hpu291 x (hMu274 x hx)).trans (hOu274 x hx ne)
  have da_b290 : a ≠ b290 := fun h => hnb290 (h ▸ mt275)
  have db1_b290 : b1 ≠ b290 := fun h => hnb290 (h ▸ mt276)
  have db7_b290 : b7 ≠ b290 := fun h => hnb290 (h ▸ mt277)
  have db15_b290 : b15 ≠ b290 := fun h => hnb290 (h ▸ mt278)
  have db35_b290 : b35 ≠ b290 := fun h => hnb290 (h ▸ mt279)
  have db47_b290 : b47 ≠ b290 := fun h => hnb290 (h ▸ mt280)
  have db61_b290 : b61 ≠ b290 := fun h => hnb290 (h ▸ mt281)
  have db77_b290 : b77 ≠ b290 := fun h => hnb290 (h ▸ mt282)
  have db95_b290 : b95 ≠ b290 := fun h => hnb290 (h ▸ mt283)
  have db115_b290 : b115 ≠ b290 := fun h => hnb290 (h ▸ mt284)
  have db137_b290 : b137 ≠ b290 := fun h => hnb290 (h ▸ mt285)
  have db161_b290 : b161 ≠ b290 := fun h => hnb290 (h ▸ mt286)
  have db200_b290 : b200 ≠ b290 := fun h => hnb290 (h ▸ mt287)
  have db228_b290 : b228 ≠ b290 := fun h => hnb290 (h ▸ mt288)
  have db258_b290 : b258 ≠ b290 := fun h => hnb290 (h ▸ mt289)
  have mt292 : a ∈ u291.1 := (fun x hx => by rw [hu291]; exact List.mem_append_left _ hx : ∀ x, x ∈ u274.1 → x ∈ u291.1) a mt275
  have et292 : u291.2 a = .inr (11, (.int (zI 0) :: .ref b1 :: .ref b7 :: .ref b15 :: .int (zI 5) :: .int (zI 20) :: .int (zI 0) :: .ref b35 :: .ref b47 :: .ref b61 :: .ref b77 :: .ref b95 :: .ref b115 :: .ref b137 :: .ref b161 :: .int (zI ((-1))) :: .int (zI 0) :: .ref b200 :: .ref b228 :: .ref b258 :: .null :: .int (zI 0) :: .null :: .int (zI 0) :: .null :: .int (zI 0) :: .null :: .null :: .null :: .null :: .null :: .null :: .null :: .null :: .null :: .null :: .null :: .null :: .null :: .null :: .null :: .null :: [])) := (hpu291 a mt275).trans hEu274
  have mt293 : b1 ∈ u291.1 := (fun x hx => by rw [hu291]; exact List.mem_append_left _ hx : ∀ x, x ∈ u274.1 → x ∈ u291.1) b1 mt276
  have et293 : u291.2 b1 = .inl (cy 2, 288, .inl (fun _ => zI 0)) := (hpu291 b1 mt276).trans et276
  have mt294 : b7 ∈ u291.1 := (fun x hx => by rw [hu291]; exact List.mem_append_left _ hx : ∀ x, x ∈ u274.1 → x ∈ u291.1) b7 mt277
  have et294 : u291.2 b7 = .inl (cy 0, 36, .inl (fun _ => zI 0)) := (hpu291 b7 mt277).trans et277
  have mt295 : b15 ∈ u291.1 := (fun x hx => by rw [hu291]; exact List.mem_append_left _ hx : ∀ x, x ∈ u274.1 → x ∈ u291.1) b15 mt278
  have et295 : u291.2 b15 = .inl (cy 0, 36, .inl (fun _ => zI 0)) := (hpu291 b15 mt278).trans et278
  have mt296 : b35 ∈ u291.1 := (fun x hx => by rw [hu291]; exact List.mem_append_left _ hx : ∀ x, x ∈ u274.1 → x ∈ u291.1) b35 mt279
  have et296 : u291.2 b35 = .inl (cy 0, 10, .inl (fun _ => zI 0)) := (hpu291 b35 mt279).trans et279
  have mt297 : b47 ∈ u291.1 := (fun x hx => by rw [hu291]; exact List.mem_append_left _ hx : ∀ x, x ∈ u274.1 → x ∈ u291.1) b47 mt280
  have et297 : u291.2 b47 = .inl (cy 0, 10, .inl (fun _ => zI 0)) := (hpu291 b47 mt280).trans et280
  have mt298 : b61 ∈ u291.1 := (fun x hx => by rw [hu291]; exact List.mem_append_left _ hx : ∀ x, x ∈ u274.1 → x ∈ u291.1) b61 mt281
  have et298 : u291.2 b61 = .inl (cy 0, 10, .inl (fun _ => zI 0)) := (hpu291 b61 mt281).trans et281
  have mt299 : b77 ∈ u291.1 := (fun x hx => by rw [hu291]; exact List.mem_append_left _ hx : ∀ x, x ∈ u274.1 → x ∈ u291.1) b77 mt282
  have et299 : u291.2 b77 = .inl (cy 0, 10, .inl (fun _ => zI 0)) := (hpu291 b77 mt282).trans et282
  have mt300 : b95 ∈ u291.1 := (fun x hx => by rw [hu291]; exact List.mem_append_left _ hx : ∀ x, x ∈ u274.1 → x ∈ u291.1) b95 mt283
  have et300 : u291.2 b95 = .inl (cy 0, 202, .inl (fun _ => zI 0)) := (hpu291 b95 mt283).trans et283
  have mt301 : b115 ∈ u291.1 := (fun x hx => by rw [hu291]; exact List.mem_append_left _ hx : ∀ x, x ∈ u274.1 → x ∈ u291.1) b115 mt284
  have et301 : u291.2 b115 = .inl (cy 0, 202, .inl (fun _ => zI 0)) := (hpu291 b115 mt284).trans et284
  have mt302 : b137 ∈ u291.1 := (fun x hx => by rw [hu291]; exact List.mem_append_left _ hx : ∀ x, x ∈ u274.1 → x ∈ u291.1) b137 mt285
  have et302 : u291.2 b137 = .inl (cy 0, 2, .inl (fun _ => zI 0)) := (hpu291 b137 mt285).trans et285
  have mt303 : b161 ∈ u291.1 := (fun x hx => by rw [hu291]; exact List.mem_append_left _ hx : ∀ x, x ∈ u274.1 → x ∈ u291.1) b161 mt286
  have et303 : u291.2 b161 = .inl (cy 0, 2, .inl (fun _ => zI 0)) := (hpu291 b161 mt286).trans et286
  have mt304 : b200 ∈ u291.1 := (fun x hx => by rw [hu291]; exact List.mem_append_left _ hx : ∀ x, x ∈ u274.1 → x ∈ u291.1) b200 mt287
  have et304 : u291.2 b200 = .inl (cy 0, 8, .inl (fun _ => zI 0)) := (hpu291 b200 mt287).trans et287
  have mt305 : b228 ∈ u291.1 := (fun x hx => by rw [hu291]; exact List.mem_append_left _ hx : ∀ x, x ∈ u274.1 → x ∈ u291.1) b228 mt288
  have et305 : u291.2 b228 = .inl (cy 0, 8, .inl (fun _ => zI 0)) := (hpu291 b228 mt288).trans et288
  have mt306 : b258 ∈ u291.1 := (fun x hx => by rw [hu291]; exact List.mem_append_left _ hx : ∀ x, x ∈ u274.1 → x ∈ u291.1) b258 mt289
  have et306 : u291.2 b258 = .inl (cy 0, 8, .inl (fun _ => zI 0)) := (hpu291 b258 mt289).trans et289
  have mb290 : b290 ∈ u291.1 := by rw [hu291]; exact List.mem_append_right _ List.mem_cons_self
  obtain ⟨k9, hk9⟩ := p_get D u291 mt292
  refine va_putF (C := RX12) (T := TX12) (N := 42) (ci := 11) (ty := tyX12 20) hx hb hts (fun _ h => (List.mem_cons_of_mem _ (List.mem_append_right _ h))) tyX12 tyX12_ok nmX12 hown hI.1 hG.1 hG.2 hS k9 (hk9.trans (by rw [et292])) rfl 20 (by decide) (hts (.fieldLink RX12 63 "StraitSwimModel" "shipNorth" "[I") (List.mem_cons_of_mem _ (List.mem_append_left _ (List.mem_append_left _ (List.mem_of_getElem? (i := 22) rfl))))) (fun _ h9 => h9) rfl hin2 rfl (tyX12_ok 20 (by decide)) rfl rfl (Nat.le_of_ble_eq_true rfl) dX12_init_138 (fun H locs hP hD hS => ?_)
  obtain ⟨u307, hu307, hEu307, hpu307, hG⟩ := p_set (e := .inr (11, (.int (zI 0) :: .ref b1 :: .ref b7 :: .ref b15 :: .int (zI 5) :: .int (zI 20) :: .int (zI 0) :: .ref b35 :: .ref b47 :: .ref b61 :: .ref b77 :: .ref b95 :: .ref b115 :: .ref b137 :: .ref b161 :: .int (zI ((-1))) :: .int (zI 0) :: .ref b200 :: .ref b228 :: .ref b258 :: .ref b290 :: .int (zI 0) :: .null :: .int (zI 0) :: .null :: .int (zI 0) :: .null :: .null :: .null :: .null :: .null :: .null :: .null :: .null :: .null :: .null :: .null :: .null :: .null :: .null :: .null :: .null :: []))) hG mt292 hk9 hP hD
  have mt308 : a ∈ u307.1 := (fun x hx => by rw [hu307]; exact hx : ∀ x, x ∈ u291.1 → x ∈ u307.1) a mt292
  have mt309 : b1 ∈ u307.1 := (fun x hx => by rw [hu307]; exact hx : ∀ x, x ∈ u291.1 → x ∈ u307.1) b1 mt293
  have et309 : u307.2 b1 = .inl (cy 2, 288, .inl (fun _ => zI 0)) := (hpu307 b1 (fun h => (fun h9 => da_b1 h9.symm) h)).trans et293
  have mt310 : b7 ∈ u307.1 := (fun x hx => by rw [hu307]; exact hx : ∀ x, x ∈ u291.1 → x ∈ u307.1) b7 mt294
  have et310 : u307.2 b7 = .inl (cy 0, 36, .inl (fun _ => zI 0)) := (hpu307 b7 (fun h => (fun h9 => da_b7 h9.symm) h)).trans et294
  have mt311 : b15 ∈ u307.1 := (fun x hx => by rw [hu307]; exact hx : ∀ x, x ∈ u291.1 → x ∈ u307.1) b15 mt295
  have et311 : u307.2 b15 = .inl (cy 0, 36, .inl (fun _ => zI 0)) := (hpu307 b15 (fun h => (fun h9 => da_b15 h9.symm) h)).trans et295
  have mt312 : b35 ∈ u307.1 := (fun x hx => by rw [hu307]; exact hx : ∀ x, x ∈ u291.1 → x ∈ u307.1) b35 mt296
  have et312 : u307.2 b35 = .inl (cy 0, 10, .inl (fun _ => zI 0)) := (hpu307 b35 (fun h => (fun h9 => da_b35 h9.symm) h)).trans et296
  have mt313 : b47 ∈ u307.1 := (fun x hx => by rw [hu307]; exact hx : ∀ x, x ∈ u291.1 → x ∈ u307.1) b47 mt297
  have et313 : u307.2 b47 = .inl (cy 0, 10, .inl (fun _ => zI 0)) := (hpu307 b47 (fun h => (fun h9 => da_b47 h9.symm) h)).trans et297
  have mt314 : b61 ∈ u307.1 := (fun x hx => by rw [hu307]; exact hx : ∀ x, x ∈ u291.1 → x ∈ u307.1) b61 mt298
  have et314 : u307.2 b61 = .inl (cy 0, 10, .inl (fun _ => zI 0)) := (hpu307 b61 (fun h => (fun h9 => da_b61 h9.symm) h)).trans et298
  have mt315 : b77 ∈ u307.1 := (fun x hx => by rw [hu307]; exact hx : ∀ x, x ∈ u291.1 → x ∈ u307.1) b77 mt299
  have et315 : u307.2 b77 = .inl (cy 0, 10, .inl (fun _ => zI 0)) := (hpu307 b77 (fun h => (fun h9 => da_b77 h9.symm) h)).trans et299
  have mt316 : b95 ∈ u307.1 := (fun x hx => by rw [hu307]; exact hx : ∀ x, x ∈ u291.1 → x ∈ u307.1) b95 mt300
  have et316 : u307.2 b95 = .inl (cy 0, 202, .inl (fun _ => zI 0)) := (hpu307 b95 (fun h => (fun h9 => da_b95 h9.symm) h)).trans et300
  have mt317 : b115 ∈ u307.1 := (fun x hx => by rw [hu307]; exact hx : ∀ x, x ∈ u291.1 → x ∈ u307.1) b115 mt301
  have et317 : u307.2 b115 = .inl (cy 0, 202, .inl (fun _ => zI 0)) := (hpu307 b115 (fun h => (fun h9 => da_b115 h9.symm) h)).trans et301
  have mt318 : b137 ∈ u307.1 := (fun x hx => by rw [hu307]; exact hx : ∀ x, x ∈ u291.1 → x ∈ u307.1) b137 mt302
  have et318 : u307.2 b137 = .inl (cy 0, 2, .inl (fun _ => zI 0)) := (hpu307 b137 (fun h => (fun h9 => da_b137 h9.symm) h)).trans et302
  have mt319 : b161 ∈ u307.1 := (fun x hx => by rw [hu307]; exact hx : ∀ x, x ∈ u291.1 → x ∈ u307.1) b161 mt303
  have et319 : u307.2 b161 = .inl (cy 0, 2, .inl (fun _ => zI 0)) := (hpu307 b161 (fun h => (fun h9 => da_b161 h9.symm) h)).trans et303
  have mt320 : b200 ∈ u307.1 := (fun x hx => by rw [hu307]; exact hx : ∀ x, x ∈ u291.1 → x ∈ u307.1) b200 mt304
  have et320 : u307.2 b200 = .inl (cy 0, 8, .inl (fun _ => zI 0)) := (hpu307 b200 (fun h => (fun h9 => da_b200 h9.symm) h)).trans et304
  have mt321 : b228 ∈ u307.1 := (fun x hx => by rw [hu307]; exact hx : ∀ x, x ∈ u291.1 → x ∈ u307.1) b228 mt305
  have et321 : u307.2 b228 = .inl (cy 0, 8, .inl (fun _ => zI 0)) := (hpu307 b228 (fun h => (fun h9 => da_b228 h9.symm) h)).trans et305
  have mt322 : b258 ∈ u307.1 := (fun x hx => by rw [hu307]; exact hx : ∀ x, x ∈ u291.1 → x ∈ u307.1) b258 mt306
  have et322 : u307.2 b258 = .inl (cy 0, 8, .inl (fun _ => zI 0)) := (hpu307 b258 (fun h => (fun h9 => da_b258 h9.symm) h)).trans et306
  have mt323 : b290 ∈ u307.1 := (fun x hx => by rw [hu307]; exact hx : ∀ x, x ∈ u291.1 → x ∈ u307.1) b290 mb290
  have et323 : u307.2 b290 = .inl (cy 0, 8, .inl (fun _ => zI 0)) := (hpu307 b290 (fun h => (fun h9 => da_b290 h9.symm) h)).trans hEb290
  have hLu307 : u307.1 = (((((((((((((((u.1 ++ [b1]) ++ [b7]) ++ [b15]) ++ [b35]) ++ [b47]) ++ [b61]) ++ [b77]) ++ [b95]) ++ [b115]) ++ [b137]) ++ [b161]) ++ [b200]) ++ [b228]) ++ [b258]) ++ [b290]) := by rw [hu307, hLu291]
  have hMu307 : ∀ x, x ∈ u.1 → x ∈ u307.1 := fun x hx => by rw [hu307]; exact hMu291 x hx
  have hOu307 : ∀ x, x ∈ u.1 → x ≠ a → u307.2 x = u.2 x := fun x hx ne => (hpu307 x ne).trans (hOu291 x hx ne)
  refine lv_aload_n hx hb dX12_init_141 rfl (lv_at hl 0 rfl) ?_
  refine z_bipush hx hb dX12_init_142 (by decide) ?_
  refine p_newI (z := 60) (M := 60) hx hb (hts (.arrayClass .int) (List.mem_cons_of_mem _ (List.mem_append_left _ (List.mem_append_left _ (List.mem_of_getElem? (i := 5) rfl))))) hI hG hS (by omega) (by omega) (by omega) (Nat.le_of_ble_eq_true rfl) (Nat.le_of_ble_eq_true rfl) dX12_init_144 (fun b324 u325 H hu325 hEb324 hpu325 hnb324 hG hS => ?_)
  have hEb324 : u325.2 b324 = .inl (cy 0, 60, .inl (fun _ => zI 0)) := hEb324
  have fb324 : b324 ∉ (((((((((((((((u.1 ++ [b1]) ++ [b7]) ++ [b15]) ++ [b35]) ++ [b47]) ++ [b61]) ++ [b77]) ++ [b95]) ++ [b115]) ++ [b137]) ++ [b161]) ++ [b200]) ++ [b228]) ++ [b258]) ++ [b290]) := by rw [← hLu307]; exact hnb324
  have hLu325 : u325.1 = ((((((((((((((((u.1 ++ [b1]) ++ [b7]) ++ [b15]) ++ [b35]) ++ [b47]) ++ [b61]) ++ [b77]) ++ [b95]) ++ [b115]) ++ [b137]) ++ [b161]) ++ [b200]) ++ [b228]) ++ [b258]) ++ [b290]) ++ [b324]) := by rw [hu325, hLu307]
  have hMu325 : ∀ x, x ∈ u.1 → x ∈ u325.1 := fun x hx => by rw [hu325]; exact List.mem_append_left _ (hMu307 x hx)
  have hOu325 : ∀ x, x ∈ u.1 → x ≠ a → u325.2 x = u.2 x := fun x hx ne => (hpu325 x (hMu307 x hx)).trans (hOu307 x hx ne)
  have da_b324 : a ≠ b324 := fun h => hnb324 (h ▸ mt308)
  have db1_b324 : b1 ≠ b324 := fun h => hnb324 (h ▸ mt309)
  have db7_b324 : b7 ≠ b324 := fun h => hnb324 (h ▸ mt310)
  have db15_b324 : b15 ≠ b324 := fun h => hnb324 (h ▸ mt311)
  have db35_b324 : b35 ≠ b324 := fun h => hnb324 (h ▸ mt312)
  have db47_b324 : b47 ≠ b324 := fun h => hnb324 (h ▸ mt313)
  have db61_b324 : b61 ≠ b324 := fun h => hnb324 (h ▸ mt314)
  have db77_b324 : b77 ≠ b324 := fun h => hnb324 (h ▸ mt315)
  have db95_b324 : b95 ≠ b324 := fun h => hnb324 (h ▸ mt316)
  have db115_b324 : b115 ≠ b324 := fun h => hnb324 (h ▸ mt317)
  have db137_b324 : b137 ≠ b324 := fun h => hnb324 (h ▸ mt318)
  have db161_b324 : b161 ≠ b324 := fun h => hnb324 (h ▸ mt319)
  have db200_b324 : b200 ≠ b324 := fun h => hnb324 (h ▸ mt320)
  have db228_b324 : b228 ≠ b324 := fun h => hnb324 (h ▸ mt321)
  have db258_b324 : b258 ≠ b324 := fun h => hnb324 (h ▸ mt322)
  have db290_b324 : b290 ≠ b324 := fun h => hnb324 (h ▸ mt323)
  have mt326 : a ∈ u325.1 := (fun x hx => by rw [hu325]; exact List.mem_append_left _ hx : ∀ x, x ∈ u307.1 → x ∈ u325.1) a mt308
  have et326 : u325.2 a = .inr (11, (.int (zI 0) :: .ref b1 :: .ref b7 :: .ref b15 :: .int (zI 5) :: .int (zI 20) :: .int (zI 0) :: .ref b35 :: .ref b47 :: .ref b61 :: .ref b77 :: .ref b95 :: .ref b115 :: .ref b137 :: .ref b161 :: .int (zI ((-1))) :: .int (zI 0) :: .ref b200 :: .ref b228 :: .ref b258 :: .ref b290 :: .int (zI 0) :: .null :: .int (zI 0) :: .null :: .int (zI 0) :: .null :: .null :: .null :: .null :: .null :: .null :: .null :: .null :: .null :: .null :: .null :: .null :: .null :: .null :: .null :: .null :: [])) := (hpu325 a mt308).trans hEu307
  have mt327 : b1 ∈ u325.1 := (fun x hx => by rw [hu325]; exact List.mem_append_left _ hx : ∀ x, x ∈ u307.1 → x ∈ u325.1) b1 mt309
  have et327 : u325.2 b1 = .inl (cy 2, 288, .inl (fun _ => zI 0)) := (hpu325 b1 mt309).trans et309
  have mt328 : b7 ∈ u325.1 := (fun x hx => by rw [hu325]; exact List.mem_append_left _ hx : ∀ x, x ∈ u307.1 → x ∈ u325.1) b7 mt310
  have et328 : u325.2 b7 = .inl (cy 0, 36, .inl (fun _ => zI 0)) := (hpu325 b7 mt310).trans et310
  have mt329 : b15 ∈ u325.1 := (fun x hx => by rw [hu325]; exact List.mem_append_left _ hx : ∀ x, x ∈ u307.1 → x ∈ u325.1) b15 mt311
  have et329 : u325.2 b15 = .inl (cy 0, 36, .inl (fun _ => zI 0)) := (hpu325 b15 mt311).trans et311
  have mt330 : b35 ∈ u325.1 := (fun x hx => by rw [hu325]; exact List.mem_append_left _ hx : ∀ x, x ∈ u307.1 → x ∈ u325.1) b35 mt312
  have et330 : u325.2 b35 = .inl (cy 0, 10, .inl (fun _ => zI 0)) := (hpu325 b35 mt312).trans et312
  have mt331 : b47 ∈ u325.1 := (fun x hx => by rw [hu325]; exact List.mem_append_left _ hx : ∀ x, x ∈ u307.1 → x ∈ u325.1) b47 mt313
  have et331 : u325.2 b47 = .inl (cy 0, 10, .inl (fun _ => zI 0)) := (hpu325 b47 mt313).trans et313
  have mt332 : b61 ∈ u325.1 := (fun x hx => by rw [hu325]; exact List.mem_append_left _ hx : ∀ x, x ∈ u307.1 → x ∈ u325.1) b61 mt314
  have et332 : u325.2 b61 = .inl (cy 0, 10, .inl (fun _ => zI 0)) := (hpu325 b61 mt314).trans et314
  have mt333 : b77 ∈ u325.1 := (fun x hx => by rw [hu325]; exact List.mem_append_left _ hx : ∀ x, x ∈ u307.1 → x ∈ u325.1) b77 mt315
  have et333 : u325.2 b77 = .inl (cy 0, 10, .inl (fun _ => zI 0)) := (hpu325 b77 mt315).trans et315
  have mt334 : b95 ∈ u325.1 := (fun x hx => by rw [hu325]; exact List.mem_append_left _ hx : ∀ x, x ∈ u307.1 → x ∈ u325.1) b95 mt316
  have et334 : u325.2 b95 = .inl (cy 0, 202, .inl (fun _ => zI 0)) := (hpu325 b95 mt316).trans et316
  have mt335 : b115 ∈ u325.1 := (fun x hx => by rw [hu325]; exact List.mem_append_left _ hx : ∀ x, x ∈ u307.1 → x ∈ u325.1) b115 mt317
  have et335 : u325.2 b115 = .inl (cy 0, 202, .inl (fun _ => zI 0)) := (hpu325 b115 mt317).trans et317
  have mt336 : b137 ∈ u325.1 := (fun x hx => by rw [hu325]; exact List.mem_append_left _ hx : ∀ x, x ∈ u307.1 → x ∈ u325.1) b137 mt318
  have et336 : u325.2 b137 = .inl (cy 0, 2, .inl (fun _ => zI 0)) := (hpu325 b137 mt318).trans et318
  have mt337 : b161 ∈ u325.1 := (fun x hx => by rw [hu325]; exact List.mem_append_left _ hx : ∀ x, x ∈ u307.1 → x ∈ u325.1) b161 mt319
  have et337 : u325.2 b161 = .inl (cy 0, 2, .inl (fun _ => zI 0)) := (hpu325 b161 mt319).trans et319
  have mt338 : b200 ∈ u325.1 := (fun x hx => by rw [hu325]; exact List.mem_append_left _ hx : ∀ x, x ∈ u307.1 → x ∈ u325.1) b200 mt320
  have et338 : u325.2 b200 = .inl (cy 0, 8, .inl (fun _ => zI 0)) := (hpu325 b200 mt320).trans et320
  have mt339 : b228 ∈ u325.1 := (fun x hx => by rw [hu325]; exact List.mem_append_left _ hx : ∀ x, x ∈ u307.1 → x ∈ u325.1) b228 mt321
  have et339 : u325.2 b228 = .inl (cy 0, 8, .inl (fun _ => zI 0)) := (hpu325 b228 mt321).trans et321
  have mt340 : b258 ∈ u325.1 := (fun x hx => by rw [hu325]; exact List.mem_append_left _ hx : ∀ x, x ∈ u307.1 → x ∈ u325.1) b258 mt322
  have et340 : u325.2 b258 = .inl (cy 0, 8, .inl (fun _ => zI 0)) := (hpu325 b258 mt322).trans et322
  have mt341 : b290 ∈ u325.1 := (fun x hx => by rw [hu325]; exact List.mem_append_left _ hx : ∀ x, x ∈ u307.1 → x ∈ u325.1) b290 mt323
  have et341 : u325.2 b290 = .inl (cy 0, 8, .inl (fun _ => zI 0)) := (hpu325 b290 mt323).trans et323
  have mb324 : b324 ∈ u325.1 := by rw [hu325]; exact List.mem_append_right _ List.mem_cons_self
  obtain ⟨k9, hk9⟩ := p_get D u325 mt326
  refine va_putF (C := RX12) (T := TX12) (N := 42) (ci := 11) (ty := tyX12 22) hx hb hts (fun _ h => (List.mem_cons_of_mem _ (List.mem_append_right _ h))) tyX12 tyX12_ok nmX12 hown hI.1 hG.1 hG.2 hS k9 (hk9.trans (by rw [et326])) rfl 22 (by decide) (hts (.fieldLink RX12 66 "StraitSwimModel" "counts" "[I") (List.mem_cons_of_mem _ (List.mem_append_left _ (List.mem_append_left _ (List.mem_of_getElem? (i := 23) rfl))))) (fun _ h9 => h9) rfl hin2 rfl (tyX12_ok 22 (by decide)) rfl rfl (Nat.le_of_ble_eq_true rfl) dX12_init_146 (fun H locs hP hD hS => ?_)
  obtain ⟨u342, hu342, hEu342, hpu342, hG⟩ := p_set (e := .inr (11, (.int (zI 0) :: .ref b1 :: .ref b7 :: .ref b15 :: .int (zI 5) :: .int (zI 20) :: .int (zI 0) :: .ref b35 :: .ref b47 :: .ref b61 :: .ref b77 :: .ref b95 :: .ref b115 :: .ref b137 :: .ref b161 :: .int (zI ((-1))) :: .int (zI 0) :: .ref b200 :: .ref b228 :: .ref b258 :: .ref b290 :: .int (zI 0) :: .ref b324 :: .int (zI 0) :: .null :: .int (zI 0) :: .null :: .null :: .null :: .null :: .null :: .null :: .null :: .null :: .null :: .null :: .null :: .null :: .null :: .null :: .null :: .null :: []))) hG mt326 hk9 hP hD
  have mt343 : a ∈ u342.1 := (fun x hx => by rw [hu342]; exact hx : ∀ x, x ∈ u325.1 → x ∈ u342.1) a mt326
  have mt344 : b1 ∈ u342.1 := (fun x hx => by rw [hu342]; exact hx : ∀ x, x ∈ u325.1 → x ∈ u342.1) b1 mt327
  have et344 : u342.2 b1 = .inl (cy 2, 288, .inl (fun _ => zI 0)) := (hpu342 b1 (fun h => (fun h9 => da_b1 h9.symm) h)).trans et327
  have mt345 : b7 ∈ u342.1 := (fun x hx => by rw [hu342]; exact hx : ∀ x, x ∈ u325.1 → x ∈ u342.1) b7 mt328
  have et345 : u342.2 b7 = .inl (cy 0, 36, .inl (fun _ => zI 0)) := (hpu342 b7 (fun h => (fun h9 => da_b7 h9.symm) h)).trans et328
  have mt346 : b15 ∈ u342.1 := (fun x hx => by rw [hu342]; exact hx : ∀ x, x ∈ u325.1 → x ∈ u342.1) b15 mt329
  have et346 : u342.2 b15 = .inl (cy 0, 36, .inl (fun _ => zI 0)) := (hpu342 b15 (fun h => (fun h9 => da_b15 h9.symm) h)).trans et329
  have mt347 : b35 ∈ u342.1 := (fun x hx => by rw [hu342]; exact hx : ∀ x, x ∈ u325.1 → x ∈ u342.1) b35 mt330
  have et347 : u342.2 b35 = .inl (cy 0, 10, .inl (fun _ => zI 0)) := (hpu342 b35 (fun h => (fun h9 => da_b35 h9.symm) h)).trans et330
  have mt348 : b47 ∈ u342.1 := (fun x hx => by rw [hu342]; exact hx : ∀ x, x ∈ u325.1 → x ∈ u342.1) b47 mt331
  have et348 : u342.2 b47 = .inl (cy 0, 10, .inl (fun _ => zI 0)) := (hpu342 b47 (fun h => (fun h9 => da_b47 h9.symm) h)).trans et331
  have mt349 : b61 ∈ u342.1 := (fun x hx => by rw [hu342]; exact hx : ∀ x, x ∈ u325.1 → x ∈ u342.1) b61 mt332
  have et349 : u342.2 b61 = .inl (cy 0, 10, .inl (fun _ => zI 0)) := (hpu342 b61 (fun h => (fun h9 => da_b61 h9.symm) h)).trans et332
  have mt350 : b77 ∈ u342.1 := (fun x hx => by rw [hu342]; exact hx : ∀ x, x ∈ u325.1 → x ∈ u342.1) b77 mt333
  have et350 : u342.2 b77 = .inl (cy 0, 10, .inl (fun _ => zI 0)) := (hpu342 b77 (fun h => (fun h9 => da_b77 h9.symm) h)).trans et333
  have mt351 : b95 ∈ u342.1 := (fun x hx => by rw [hu342]; exact hx : ∀ x, x ∈ u325.1 → x ∈ u342.1) b95 mt334
  have et351 : u342.2 b95 = .inl (cy 0, 202, .inl (fun _ => zI 0)) := (hpu342 b95 (fun h => (fun h9 => da_b95 h9.symm) h)).trans et334
  have mt352 : b115 ∈ u342.1 := (fun x hx => by rw [hu342]; exact hx : ∀ x, x ∈ u325.1 → x ∈ u342.1) b115 mt335
  have et352 : u342.2 b115 = .inl (cy 0, 202, .inl (fun _ => zI 0)) := (hpu342 b115 (fun h => (fun h9 => da_b115 h9.symm) h)).trans et335
  have mt353 : b137 ∈ u342.1 := (fun x hx => by rw [hu342]; exact hx : ∀ x, x ∈ u325.1 → x ∈ u342.1) b137 mt336
  have et353 : u342.2 b137 = .inl (cy 0, 2, .inl (fun _ => zI 0)) := (hpu342 b137 (fun h => (fun h9 => da_b137 h9.symm) h)).trans et336
  have mt354 : b161 ∈ u342.1 := (fun x hx => by rw [hu342]; exact hx : ∀ x, x ∈ u325.1 → x ∈ u342.1) b161 mt337
  have et354 : u342.2 b161 = .inl (cy 0, 2, .inl (fun _ => zI 0)) := (hpu342 b161 (fun h => (fun h9 => da_b161 h9.symm) h)).trans et337
  have mt355 : b200 ∈ u342.1 := (fun x hx => by rw [hu342]; exact hx : ∀ x, x ∈ u325.1 → x ∈ u342.1) b200 mt338
  have et355 : u342.2 b200 = .inl (cy 0, 8, .inl (fun _ => zI 0)) := (hpu342 b200 (fun h => (fun h9 => da_b200 h9.symm) h)).trans et338
  have mt356 : b228 ∈ u342.1 := (fun x hx => by rw [hu342]; exact hx : ∀ x, x ∈ u325.1 → x ∈ u342.1) b228 mt339
  have et356 : u342.2 b228 = .inl (cy 0, 8, .inl (fun _ => zI 0)) := (hpu342 b228 (fun h => (fun h9 => da_b228 h9.symm) h)).trans et339
  have mt357 : b258 ∈ u342.1 := (fun x hx => by rw [hu342]; exact hx : ∀ x, x ∈ u325.1 → x ∈ u342.1) b258 mt340
  have et357 : u342.2 b258 = .inl (cy 0, 8, .inl (fun _ => zI 0)) := (hpu342 b258 (fun h => (fun h9 => da_b258 h9.symm) h)).trans et340
  have mt358 : b290 ∈ u342.1 := (fun x hx => by rw [hu342]; exact hx : ∀ x, x ∈ u325.1 → x ∈ u342.1) b290 mt341
  have et358 : u342.2 b290 = .inl (cy 0, 8, .inl (fun _ => zI 0)) := (hpu342 b290 (fun h => (fun h9 => da_b290 h9.symm) h)).trans et341
  have mt359 : b324 ∈ u342.1 := (fun x hx => by rw [hu342]; exact hx : ∀ x, x ∈ u325.1 → x ∈ u342.1) b324 mb324
  have et359 : u342.2 b324 = .inl (cy 0, 60, .inl (fun _ => zI 0)) := (hpu342 b324 (fun h => (fun h9 => da_b324 h9.symm) h)).trans hEb324
  have hLu342 : u342.1 = ((((((((((((((((u.1 ++ [b1]) ++ [b7]) ++ [b15]) ++ [b35]) ++ [b47]) ++ [b61]) ++ [b77]) ++ [b95]) ++ [b115]) ++ [b137]) ++ [b161]) ++ [b200]) ++ [b228]) ++ [b258]) ++ [b290]) ++ [b324]) := by rw [hu342, hLu325]
  have hMu342 : ∀ x, x ∈ u.1 → x ∈ u342.1 := fun x hx => by rw [hu342]; exact hMu325 x hx
  have hOu342 : ∀ x, x ∈ u.1 → x ≠ a → u342.2 x = u.2 x := fun x hx ne => (hpu342 x ne).trans (hOu325 x hx ne)
  refine lv_aload_n hx hb dX12_init_149 rfl (lv_at hl 0 rfl) ?_
  refine z_bipush hx hb dX12_init_150 (by decide) ?_
  refine p_newI (z := 6) (M := 6) hx hb (hts (.arrayClass .int) (List.mem_cons_of_mem _ (List.mem_append_left _ (List.mem_append_left _ (List.mem_of_getElem? (i := 5) rfl))))) hI hG hS (by omega) (by omega) (by omega) (Nat.le_of_ble_eq_true rfl) (Nat.le_of_ble_eq_true rfl) dX12_init_152 (fun b360 u361 H hu361 hEb360 hpu361 hnb360 hG hS => ?_)
  have hEb360 : u361.2 b360 = .inl (cy 0, 6, .inl (fun _ => zI 0)) := hEb360
  have fb360 : b360 ∉ ((((((((((((((((u.1 ++ [b1]) ++ [b7]) ++ [b15]) ++ [b35]) ++ [b47]) ++ [b61]) ++ [b77]) ++ [b95]) ++ [b115]) ++ [b137]) ++ [b161]) ++ [b200]) ++ [b228]) ++ [b258]) ++ [b290]) ++ [b324]) := by rw [← hLu342]; exact hnb360
  have hLu361 : u361.1 = (((((((((((((((((u.1 ++ [b1]) ++ [b7]) ++ [b15]) ++ [b35]) ++ [b47]) ++ [b61]) ++ [b77]) ++ [b95]) ++ [b115]) ++ [b137]) ++ [b161]) ++ [b200]) ++ [b228]) ++ [b258]) ++ [b290]) ++ [b324]) ++ [b360]) := by rw [hu361, hLu342]
  have hMu361 : ∀ x, x ∈ u.1 → x ∈ u361.1 := fun x hx => by rw [hu361]; exact List.mem_append_left _ (hMu342 x hx)
  have hOu361 : ∀ x, x ∈ u.1 → x ≠ a → u361.2 x = u.2 x := fun x hx ne => (hpu361 x (hMu342 x hx)).trans (hOu342 x hx ne)
  have da_b360 : a ≠ b360 := fun h => hnb360 (h ▸ mt343)
  have db1_b360 : b1 ≠ b360 := fun h => hnb360 (h ▸ mt344)
  have db7_b360 : b7 ≠ b360 := fun h => hnb360 (h ▸ mt345)
  have db15_b360 : b15 ≠ b360 := fun h => hnb360 (h ▸ mt346)
  have db35_b360 : b35 ≠ b360 := fun h => hnb360 (h ▸ mt347)
  have db47_b360 : b47 ≠ b360 := fun h => hnb360 (h ▸ mt348)
  have db61_b360 : b61 ≠ b360 := fun h => hnb360 (h ▸ mt349)
  have db77_b360 : b77 ≠ b360 := fun h => hnb360 (h ▸ mt350)
  have db95_b360 : b95 ≠ b360 := fun h => hnb360 (h ▸ mt351)
  have db115_b360 : b115 ≠ b360 := fun h => hnb360 (h ▸ mt352)
  have db137_b360 : b137 ≠ b360 := fun h => hnb360 (h ▸ mt353)
  have db161_b360 : b161 ≠ b360 := fun h => hnb360 (h ▸ mt354)
  have db200_b360 : b200 ≠ b360 := fun h => hnb360 (h ▸ mt355)
  have db228_b360 : b228 ≠ b360 := fun h => hnb360 (h ▸ mt356)
  have db258_b360 : b258 ≠ b360 := fun h => hnb360 (h ▸ mt357)
  have db290_b360 : b290 ≠ b360 := fun h => hnb360 (h ▸ mt358)
  have db324_b360 : b324 ≠ b360 := fun h => hnb360 (h ▸ mt359)
  have mt362 : a ∈ u361.1 := (fun x hx => by rw [hu361]; exact List.mem_append_left _ hx : ∀ x, x ∈ u342.1 → x ∈ u361.1) a mt343
  have et362 : u361.2 a = .inr (11, (.int (zI 0) :: .ref b1 :: .ref b7 :: .ref b15 :: .int (zI 5) :: .int (zI 20) :: .int (zI 0) :: .ref b35 :: .ref b47 :: .ref b61 :: .ref b77 :: .ref b95 :: .ref b115 :: .ref b137 :: .ref b161 :: .int (zI ((-1))) :: .int (zI 0) :: .ref b200 :: .ref b228 :: .ref b258 :: .ref b290 :: .int (zI 0) :: .ref b324 :: .int (zI 0) :: .null :: .int (zI 0) :: .null :: .null :: .null :: .null :: .null :: .null :: .null :: .null :: .null :: .null :: .null :: .null :: .null :: .null :: .null :: .null :: [])) := (hpu361 a mt343).trans hEu342
  have mt363 : b1 ∈ u361.1 := (fun x hx => by rw [hu361]; exact List.mem_append_left _ hx : ∀ x, x ∈ u342.1 → x ∈ u361.1) b1 mt344
  have et363 : u361.2 b1 = .inl (cy 2, 288, .inl (fun _ => zI 0)) := (hpu361 b1 mt344).trans et344
  have mt364 : b7 ∈ u361.1 := (fun x hx => by rw [hu361]; exact List.mem_append_left _ hx : ∀ x, x ∈ u342.1 → x ∈ u361.1) b7 mt345
  have et364 : u361.2 b7 = .inl (cy 0, 36, .inl (fun _ => zI 0)) := (hpu361 b7 mt345).trans et345
  have mt365 : b15 ∈ u361.1 := (fun x hx => by rw [hu361]; exact List.mem_append_left _ hx : ∀ x, x ∈ u342.1 → x ∈ u361.1) b15 mt346
  have et365 : u361.2 b15 = .inl (cy 0, 36, .inl (fun _ => zI 0)) := (hpu361 b15 mt346).trans et346
  have mt366 : b35 ∈ u361.1 := (fun x hx => by rw [hu361]; exact List.mem_append_left _ hx : ∀ x, x ∈ u342.1 → x ∈ u361.1) b35 mt347
  have et366 : u361.2 b35 = .inl (cy 0, 10, .inl (fun _ => zI 0)) := (hpu361 b35 mt347).trans et347
  have mt367 : b47 ∈ u361.1 := (fun x hx => by rw [hu361]; exact List.mem_append_left _ hx : ∀ x, x ∈ u342.1 → x ∈ u361.1) b47 mt348
  have et367 : u361.2 b47 = .inl (cy 0, 10, .inl (fun _ => zI 0)) := (hpu361 b47 mt348).trans et348
  have mt368 : b61 ∈ u361.1 := (fun x hx => by rw [hu361]; exact List.mem_append_left _ hx : ∀ x, x ∈ u342.1 → x ∈ u361.1) b61 mt349
  have et368 : u361.2 b61 = .inl (cy 0, 10, .inl (fun _ => zI 0)) := (hpu361 b61 mt349).trans et349
  have mt369 : b77 ∈ u361.1 := (fun x hx => by rw [hu361]; exact List.mem_append_left _ hx : ∀ x, x ∈ u342.1 → x ∈ u361.1) b77 mt350
  have et369 : u361.2 b77 = .inl (cy 0, 10, .inl (fun _ => zI 0)) := (hpu361 b77 mt350).trans et350
  have mt370 : b95 ∈ u361.1 := (fun x hx => by rw [hu361]; exact List.mem_append_left _ hx : ∀ x, x ∈ u342.1 → x ∈ u361.1) b95 mt351
  have et370 : u361.2 b95 = .inl (cy 0, 202, .inl (fun _ => zI 0)) := (hpu361 b95 mt351).trans et351
  have mt371 : b115 ∈ u361.1 := (fun x hx => by rw [hu361]; exact List.mem_append_left _ hx : ∀ x, x ∈ u342.1 → x ∈ u361.1) b115 mt352
  have et371 : u361.2 b115 = .inl (cy 0, 202, .inl (fun _ => zI 0)) := (hpu361 b115 mt352).trans et352
  have mt372 : b137 ∈ u361.1 := (fun x hx => by rw [hu361]; exact List.mem_append_left _ hx : ∀ x, x ∈ u342.1 → x ∈ u361.1) b137 mt353
  have et372 : u361.2 b137 = .inl (cy 0, 2, .inl (fun _ => zI 0)) := (hpu361 b137 mt353).trans et353
  have mt373 : b161 ∈ u361.1 := (fun x hx => by rw [hu361]; exact List.mem_append_left _ hx : ∀ x, x ∈ u342.1 → x ∈ u361.1) b161 mt354
  have et373 : u361.2 b161 = .inl (cy 0, 2, .inl (fun _ => zI 0)) := (hpu361 b161 mt354).trans et354
  have mt374 : b200 ∈ u361.1 := (fun x hx => by rw [hu361]; exact List.mem_append_left _ hx : ∀ x, x ∈ u342.1 → x ∈ u361.1) b200 mt355
  have et374 : u361.2 b200 = .inl (cy 0, 8, .inl (fun _ => zI 0)) := (hpu361 b200 mt355).trans et355
  have mt375 : b228 ∈ u361.1 := (fun x hx => by rw [hu361]; exact List.mem_append_left _ hx : ∀ x, x ∈ u342.1 → x ∈ u361.1) b228 mt356
  have et375 : u361.2 b228 = .inl (cy 0, 8, .inl (fun _ => zI 0)) := (hpu361 b228 mt356).trans et356
  have mt376 : b258 ∈ u361.1 := (fun x hx => by rw [hu361]; exact List.mem_append_left _ hx : ∀ x, x ∈ u342.1 → x ∈ u361.1) b258 mt357
  have et376 : u361.2 b258 = .inl (cy 0, 8, .inl (fun _ => zI 0)) := (hpu361 b258 mt357).trans et357
  have mt377 : b290 ∈ u361.1 := (fun x hx => by rw [hu361]; exact List.mem_append_left _ hx : ∀ x, x ∈ u342.1 → x ∈ u361.1) b290 mt358
  have et377 : u361.2 b290 = .inl (cy 0, 8, .inl (fun _ => zI 0)) := (hpu361 b290 mt358).trans et358
  have mt378 : b324 ∈ u361.1 := (fun x hx => by rw [hu361]; exact List.mem_append_left _ hx : ∀ x, x ∈ u342.1 → x ∈ u361.1) b324 mt359
  have et378 : u361.2 b324 = .inl (cy 0, 60, .inl (fun _ => zI 0)) := (hpu361 b324 mt359).trans et359
  have mb360 : b360 ∈ u361.1 := by rw [hu361]; exact List.mem_append_right _ List.mem_cons_self
  obtain ⟨k9, hk9⟩ := p_get D u361 mt362
  refine va_putF (C := RX12) (T := TX12) (N := 42) (ci := 11) (ty := tyX12 24) hx hb hts (fun _ h => (List.mem_cons_of_mem _ (List.mem_append_right _ h))) tyX12 tyX12_ok nmX12 hown hI.1 hG.1 hG.2 hS k9 (hk9.trans (by rw [et362])) rfl 24 (by decide) (hts (.fieldLink RX12 69 "StraitSwimModel" "orders" "[I") (List.mem_cons_of_mem _ (List.mem_append_left _ (List.mem_append_right _ (List.mem_of_getElem? (i := 0) rfl))))) (fun _ h9 => h9) rfl hin2 rfl (tyX12_ok 24 (by decide)) rfl rfl (Nat.le_of_ble_eq_true rfl) dX12_init_154 (fun H locs hP hD hS => ?_)
  obtain ⟨u379, hu379, hEu379, hpu379, hG⟩ := p_set (e := .inr (11, (.int (zI 0) :: .ref b1 :: .ref b7 :: .ref b15 :: .int (zI 5) :: .int (zI 20) :: .int (zI 0) :: .ref b35 :: .ref b47 :: .ref b61 :: .ref b77 :: .ref b95 :: .ref b115 :: .ref b137 :: .ref b161 :: .int (zI ((-1))) :: .int (zI 0) :: .ref b200 :: .ref b228 :: .ref b258 :: .ref b290 :: .int (zI 0) :: .ref b324 :: .int (zI 0) :: .ref b360 :: .int (zI 0) :: .null :: .null :: .null :: .null :: .null :: .null :: .null :: .null :: .null :: .null :: .null :: .null :: .null :: .null :: .null :: .null :: []))) hG mt362 hk9 hP hD
  have mt380 : a ∈ u379.1 := (fun x hx => by rw [hu379]; exact hx : ∀ x, x ∈ u361.1 → x ∈ u379.1) a mt362
  have mt381 : b1 ∈ u379.1 := (fun x hx => by rw [hu379]; exact hx : ∀ x, x ∈ u361.1 → x ∈ u379.1) b1 mt363
  have et381 : u379.2 b1 = .inl (cy 2, 288, .inl (fun _ => zI 0)) := (hpu379 b1 (fun h => (fun h9 => da_b1 h9.symm) h)).trans et363
  have mt382 : b7 ∈ u379.1 := (fun x hx => by rw [hu379]; exact hx : ∀ x, x ∈ u361.1 → x ∈ u379.1) b7 mt364
  have et382 : u379.2 b7 = .inl (cy 0, 36, .inl (fun _ => zI 0)) := (hpu379 b7 (fun h => (fun h9 => da_b7 h9.symm) h)).trans et364
  have mt383 : b15 ∈ u379.1 := (fun x hx => by rw [hu379]; exact hx : ∀ x, x ∈ u361.1 → x ∈ u379.1) b15 mt365
  have et383 : u379.2 b15 = .inl (cy 0, 36, .inl (fun _ => zI 0)) := (hpu379 b15 (fun h => (fun h9 => da_b15 h9.symm) h)).trans et365
  have mt384 : b35 ∈ u379.1 := (fun x hx => by rw [hu379]; exact hx : ∀ x, x ∈ u361.1 → x ∈ u379.1) b35 mt366
  have et384 : u379.2 b35 = .inl (cy 0, 10, .inl (fun _ => zI 0)) := (hpu379 b35 (fun h => (fun h9 => da_b35 h9.symm) h)).trans et366
  have mt385 : b47 ∈ u379.1 := (fun x hx => by rw [hu379]; exact hx : ∀ x, x ∈ u361.1 → x ∈ u379.1) b47 mt367
  have et385 : u379.2 b47 = .inl (cy 0, 10, .inl (fun _ => zI 0)) := (hpu379 b47 (fun h => (fun h9 => da_b47 h9.symm) h)).trans et367
  have mt386 : b61 ∈ u379.1 := (fun x hx => by rw [hu379]; exact hx : ∀ x, x ∈ u361.1 → x ∈ u379.1) b61 mt368
  have et386 : u379.2 b61 = .inl (cy 0, 10, .inl (fun _ => zI 0)) := (hpu379 b61 (fun h => (fun h9 => da_b61 h9.symm) h)).trans et368
  have mt387 : b77 ∈ u379.1 := (fun x hx => by rw [hu379]; exact hx : ∀ x, x ∈ u361.1 → x ∈ u379.1) b77 mt369
  have et387 : u379.2 b77 = .inl (cy 0, 10, .inl (fun _ => zI 0)) := (hpu379 b77 (fun h => (fun h9 => da_b77 h9.symm) h)).trans et369
  have mt388 : b95 ∈ u379.1 := (fun x hx => by rw [hu379]; exact hx : ∀ x, x ∈ u361.1 → x ∈ u379.1) b95 mt370
  have et388 : u379.2 b95 = .inl (cy 0, 202, .inl (fun _ => zI 0)) := (hpu379 b95 (fun h => (fun h9 => da_b95 h9.symm) h)).trans et370
  have mt389 : b115 ∈ u379.1 := (fun x hx => by rw [hu379]; exact hx : ∀ x, x ∈ u361.1 → x ∈ u379.1) b115 mt371
  have et389 : u379.2 b115 = .inl (cy 0, 202, .inl (fun _ => zI 0)) := (hpu379 b115 (fun h => (fun h9 => da_b115 h9.symm) h)).trans et371
  have mt390 : b137 ∈ u379.1 := (fun x hx => by rw [hu379]; exact hx : ∀ x, x ∈ u361.1 → x ∈ u379.1) b137 mt372
  have et390 : u379.2 b137 = .inl (cy 0, 2, .inl (fun _ => zI 0)) := (hpu379 b137 (fun h => (fun h9 => da_b137 h9.symm) h)).trans et372
  have mt391 : b161 ∈ u379.1 := (fun x hx => by rw [hu379]; exact hx : ∀ x, x ∈ u361.1 → x ∈ u379.1) b161 mt373
  have et391 : u379.2 b161 = .inl (cy 0, 2, .inl (fun _ => zI 0)) := (hpu379 b161 (fun h => (fun h9 => da_b161 h9.symm) h)).trans et373
  have mt392 : b200 ∈ u379.1 := (fun x hx => by rw [hu379]; exact hx : ∀ x, x ∈ u361.1 → x ∈ u379.1) b200 mt374
  have et392 : u379.2 b200 = .inl (cy 0, 8, .inl (fun _ => zI 0)) := (hpu379 b200 (fun h => (fun h9 => da_b200 h9.symm) h)).trans et374
  have mt393 : b228 ∈ u379.1 := (fun x hx => by rw [hu379]; exact hx : ∀ x, x ∈ u361.1 → x ∈ u379.1) b228 mt375
  have et393 : u379.2 b228 = .inl (cy 0, 8, .inl (fun _ => zI 0)) := (hpu379 b228 (fun h => (fun h9 => da_b228 h9.symm) h)).trans et375
  have mt394 : b258 ∈ u379.1 := (fun x hx => by rw [hu379]; exact hx : ∀ x, x ∈ u361.1 → x ∈ u379.1) b258 mt376
  have et394 : u379.2 b258 = .inl (cy 0, 8, .inl (fun _ => zI 0)) := (hpu379 b258 (fun h => (fun h9 => da_b258 h9.symm) h)).trans et376
  have mt395 : b290 ∈ u379.1 := (fun x hx => by rw [hu379]; exact hx : ∀ x, x ∈ u361.1 → x ∈ u379.1) b290 mt377
  have et395 : u379.2 b290 = .inl (cy 0, 8, .inl (fun _ => zI 0)) := (hpu379 b290 (fun h => (fun h9 => da_b290 h9.symm) h)).trans et377
  have mt396 : b324 ∈ u379.1 := (fun x hx => by rw [hu379]; exact hx : ∀ x, x ∈ u361.1 → x ∈ u379.1) b324 mt378
  have et396 : u379.2 b324 = .inl (cy 0, 60, .inl (fun _ => zI 0)) := (hpu379 b324 (fun h => (fun h9 => da_b324 h9.symm) h)).trans et378
  have mt397 : b360 ∈ u379.1 := (fun x hx => by rw [hu379]; exact hx : ∀ x, x ∈ u361.1 → x ∈ u379.1) b360 mb360
  have et397 : u379.2 b360 = .inl (cy 0, 6, .inl (fun _ => zI 0)) := (hpu379 b360 (fun h => (fun h9 => da_b360 h9.symm) h)).trans hEb360
  have hLu379 : u379.1 = (((((((((((((((((u.1 ++ [b1]) ++ [b7]) ++ [b15]) ++ [b35]) ++ [b47]) ++ [b61]) ++ [b77]) ++ [b95]) ++ [b115]) ++ [b137]) ++ [b161]) ++ [b200]) ++ [b228]) ++ [b258]) ++ [b290]) ++ [b324]) ++ [b360]) := by rw [hu379, hLu361]
  have hMu379 : ∀ x, x ∈ u.1 → x ∈ u379.1 := fun x hx => by rw [hu379]; exact hMu361 x hx
  have hOu379 : ∀ x, x ∈ u.1 → x ≠ a → u379.2 x = u.2 x := fun x hx ne => (hpu379 x ne).trans (hOu361 x hx ne)
  refine lv_aload_n hx hb dX12_init_157 rfl (lv_at hl 0 rfl) ?_
  refine z_bipush hx hb dX12_init_158 (by decide) ?_
  refine p_newI (z := 40) (M := 40) hx hb (hts (.arrayClass .int) (List.mem_cons_of_mem _ (List.mem_append_left _ (List.mem_append_left _ (List.mem_of_getElem? (i := 5) rfl))))) hI hG hS (by omega) (by omega) (by omega) (Nat.le_of_ble_eq_true rfl) (Nat.le_of_ble_eq_true rfl) dX12_init_160 (fun b398 u399 H hu399 hEb398 hpu399 hnb398 hG hS => ?_)
  have hEb398 : u399.2 b398 = .inl (cy 0, 40, .inl (fun _ => zI 0)) := hEb398
  have fb398 : b398 ∉ (((((((((((((((((u.1 ++ [b1]) ++ [b7]) ++ [b15]) ++ [b35]) ++ [b47]) ++ [b61]) ++ [b77]) ++ [b95]) ++ [b115]) ++ [b137]) ++ [b161]) ++ [b200]) ++ [b228]) ++ [b258]) ++ [b290]) ++ [b324]) ++ [b360]) := by rw [← hLu379]; exact hnb398
  have hLu399 : u399.1 = ((((((((((((((((((u.1 ++ [b1]) ++ [b7]) ++ [b15]) ++ [b35]) ++ [b47]) ++ [b61]) ++ [b77]) ++ [b95]) ++ [b115]) ++ [b137]) ++ [b161]) ++ [b200]) ++ [b228]) ++ [b258]) ++ [b290]) ++ [b324]) ++ [b360]) ++ [b398]) := by rw [hu399, hLu379]
  have hMu399 : ∀ x, x ∈ u.1 → x ∈ u399.1 := fun x hx => by rw [hu399]; exact List.mem_append_left _ (hMu379 x hx)
  have hOu399 : ∀ x, x ∈ u.1 → x ≠ a → u399.2 x = u.2 x := fun x hx ne => (hpu399 x (hMu379 x hx)).trans (hOu379 x hx ne)
  have da_b398 : a ≠ b398 := fun h => hnb398 (h ▸ mt380)
  have db1_b398 : b1 ≠ b398 := fun h => hnb398 (h ▸ mt381)
  have db7_b398 : b7 ≠ b398 := fun h => hnb398 (h ▸ mt382)
  have db15_b398 : b15 ≠ b398 := fun h => hnb398 (h ▸ mt383)
  have db35_b398 : b35 ≠ b398 := fun h => hnb398 (h ▸ mt384)
  have db47_b398 : b47 ≠ b398 := fun h => hnb398 (h ▸ mt385)
  have db61_b398 : b61 ≠ b398 := fun h => hnb398 (h ▸ mt386)
  have db77_b398 : b77 ≠ b398 := fun h => hnb398 (h ▸ mt387)
  have db95_b398 : b95 ≠ b398 := fun h => hnb398 (h ▸ mt388)
  have db115_b398 : b115 ≠ b398 := fun h => hnb398 (h ▸ mt389)
  have db137_b398 : b137 ≠ b398 := fun h => hnb398 (h ▸ mt390)
  have db161_b398 : b161 ≠ b398 := fun h => hnb398 (h ▸ mt391)
  have db200_b398 : b200 ≠ b398 := fun h => hnb398 (h ▸ mt392)
  have db228_b398 : b228 ≠ b398 := fun h => hnb398 (h ▸ mt393)
  have db258_b398 : b258 ≠ b398 := fun h => hnb398 (h ▸ mt394)
  have db290_b398 : b290 ≠ b398 := fun h => hnb398 (h ▸ mt395)
  have db324_b398 : b324 ≠ b398 := fun h => hnb398 (h ▸ mt396)
  have db360_b398 : b360 ≠ b398 := fun h => hnb398 (h ▸ mt397)
  have mt400 : a ∈ u399.1 := (fun x hx => by rw [hu399]; exact List.mem_append_left _ hx : ∀ x, x ∈ u379.1 → x ∈ u399.1) a mt380
  have et400 : u399.2 a = .inr (11, (.int (zI 0) :: .ref b1 :: .ref b7 :: .ref b15 :: .int (zI 5) :: .int (zI 20) :: .int (zI 0) :: .ref b35 :: .ref b47 :: .ref b61 :: .ref b77 :: .ref b95 :: .ref b115 :: .ref b137 :: .ref b161 :: .int (zI ((-1))) :: .int (zI 0) :: .ref b200 :: .ref b228 :: .ref b258 :: .ref b290 :: .int (zI 0) :: .ref b324 :: .int (zI 0) :: .ref b360 :: .int (zI 0) :: .null :: .null :: .null :: .null :: .null :: .null :: .null :: .null :: .null :: .null :: .null :: .null :: .null :: .null :: .null :: .null :: [])) := (hpu399 a mt380).trans hEu379
  have mt401 : b1 ∈ u399.1 := (fun x hx => by rw [hu399]; exact List.mem_append_left _ hx : ∀ x, x ∈ u379.1 → x ∈ u399.1) b1 mt381
  have et401 : u399.2 b1 = .inl (cy 2, 288, .inl (fun _ => zI 0)) := (hpu399 b1 mt381).trans et381
  have mt402 : b7 ∈ u399.1 := (fun x hx => by rw [hu399]; exact List.mem_append_left _ hx : ∀ x, x ∈ u379.1 → x ∈ u399.1) b7 mt382
  have et402 : u399.2 b7 = .inl (cy 0, 36, .inl (fun _ => zI 0)) := (hpu399 b7 mt382).trans et382
  have mt403 : b15 ∈ u399.1 := (fun x hx => by rw [hu399]; exact List.mem_append_left _ hx : ∀ x, x ∈ u379.1 → x ∈ u399.1) b15 mt383
  have et403 : u399.2 b15 = .inl (cy 0, 36, .inl (fun _ => zI 0)) := (hpu399 b15 mt383).trans et383
  have mt404 : b35 ∈ u399.1 := (fun x hx => by rw [hu399]; exact List.mem_append_left _ hx : ∀ x, x ∈ u379.1 → x ∈ u399.1) b35 mt384
  have et404 : u399.2 b35 = .inl (cy 0, 10, .inl (fun _ => zI 0)) := (hpu399 b35 mt384).trans et384
  have mt405 : b47 ∈ u399.1 := (fun x hx => by rw [hu399]; exact List.mem_append_left _ hx : ∀ x, x ∈ u379.1 → x ∈ u399.1) b47 mt385
  have et405 : u399.2 b47 = .inl (cy 0, 10, .inl (fun _ => zI 0)) := (hpu399 b47 mt385).trans et385
  have mt406 : b61 ∈ u399.1 := (fun x hx => by rw [hu399]; exact List.mem_append_left _ hx : ∀ x, x ∈ u379.1 → x ∈ u399.1) b61 mt386
  have et406 : u399.2 b61 = .inl (cy 0, 10, .inl (fun _ => zI 0)) := (hpu399 b61 mt386).trans et386
  have mt407 : b77 ∈ u399.1 := (fun x hx => by rw [hu399]; exact List.mem_append_left _ hx : ∀ x, x ∈ u379.1 → x ∈ u399.1) b77 mt387
  have et407 : u399.2 b77 = .inl (cy 0, 10, .inl (fun _ => zI 0)) := (hpu399 b77 mt387).trans et387
  have mt408 : b95 ∈ u399.1 := (fun x hx => by rw [hu399]; exact List.mem_append_left _ hx : ∀ x, x ∈ u379.1 → x ∈ u399.1) b95 mt388
  have et408 : u399.2 b95 = .inl (cy 0, 202, .inl (fun _ => zI 0)) := (hpu399 b95 mt388).trans et388
  have mt409 : b115 ∈ u399.1 := (fun x hx => by rw [hu399]; exact List.mem_append_left _ hx : ∀ x, x ∈ u379.1 → x ∈ u399.1) b115 mt389
  have et409 : u399.2 b115 = .inl (cy 0, 202, .inl (fun _ => zI 0)) := (hpu399 b115 mt389).trans et389
  have mt410 : b137 ∈ u399.1 := (fun x hx => by rw [hu399]; exact List.mem_append_left _ hx : ∀ x, x ∈ u379.1 → x ∈ u399.1) b137 mt390
  have et410 : u399.2 b137 = .inl (cy 0, 2, .inl (fun _ => zI 0)) := (hpu399 b137 mt390).trans et390
  have mt411 : b161 ∈ u399.1 := (fun x hx => by rw [hu399]; exact List.mem_append_left _ hx : ∀ x, x ∈ u379.1 → x ∈ u399.1) b161 mt391
  have et411 : u399.2 b161 = .inl (cy 0, 2, .inl (fun _ => zI 0)) := (hpu399 b161 mt391).trans et391
  have mt412 : b200 ∈ u399.1 := (fun x hx => by rw [hu399]; exact List.mem_append_left _ hx : ∀ x, x ∈ u379.1 → x ∈ u399.1) b200 mt392
  have et412 : u399.2 b200 = .inl (cy 0, 8, .inl (fun _ => zI 0)) := (hpu399 b200 mt392).trans et392
  have mt413 : b228 ∈ u399.1 := (fun x hx => by rw [hu399]; exact List.mem_append_left _ hx : ∀ x, x ∈ u379.1 → x ∈ u399.1) b228 mt393
  have et413 : u399.2 b228 = .inl (cy 0, 8, .inl (fun _ => zI 0)) := (hpu399 b228 mt393).trans et393
  have mt414 : b258 ∈ u399.1 := (fun x hx => by rw [hu399]; exact List.mem_append_left _ hx : ∀ x, x ∈ u379.1 → x ∈ u399.1) b258 mt394
  have et414 : u399.2 b258 = .inl (cy 0, 8, .inl (fun _ => zI 0)) := (hpu399 b258 mt394).trans et394
  have mt415 : b290 ∈ u399.1 := (fun x hx => by rw [hu399]; exact List.mem_append_left _ hx : ∀ x, x ∈ u379.1 → x ∈ u399.1) b290 mt395
  have et415 : u399.2 b290 = .inl (cy 0, 8, .inl (fun _ => zI 0)) := (hpu399 b290 mt395).trans et395
  have mt416 : b324 ∈ u399.1 := (fun x hx => by rw [hu399]; exact List.mem_append_left _ hx : ∀ x, x ∈ u379.1 → x ∈ u399.1) b324 mt396
  have et416 : u399.2 b324 = .inl (cy 0, 60, .inl (fun _ => zI 0)) := (hpu399 b324 mt396).trans et396
  have mt417 : b360 ∈ u399.1 := (fun x hx => by rw [hu399]; exact List.mem_append_left _ hx : ∀ x, x ∈ u379.1 → x ∈ u399.1) b360 mt397
  have et417 : u399.2 b360 = .inl (cy 0, 6, .inl (fun _ => zI 0)) := (hpu399 b360 mt397).trans et397
  have mb398 : b398 ∈ u399.1 := by rw [hu399]; exact List.mem_append_right _ List.mem_cons_self
  obtain ⟨k9, hk9⟩ := p_get D u399 mt400
  refine va_putF (C := RX12) (T := TX12) (N := 42) (ci := 11) (ty := tyX12 26) hx hb hts (fun _ h => (List.mem_cons_of_mem _ (List.mem_append_right _ h))) tyX12 tyX12_ok nmX12 hown hI.1 hG.1 hG.2 hS k9 (hk9.trans (by rw [et400])) rfl 26 (by decide) (hts (.fieldLink RX12 72 "StraitSwimModel" "turns" "[I") (List.mem_cons_of_mem _ (List.mem_append_left _ (List.mem_append_right _ (List.mem_of_getElem? (i := 1) rfl))))) (fun _ h9 => h9) rfl hin2 rfl (tyX12_ok 26 (by decide)) rfl rfl (Nat.le_of_ble_eq_true rfl) dX12_init_162 (fun H locs hP hD hS => ?_)
  obtain ⟨u418, hu418, hEu418, hpu418, hG⟩ := p_set (e := .inr (11, (.int (zI 0) :: .ref b1 :: .ref b7 :: .ref b15 :: .int (zI 5) :: .int (zI 20) :: .int (zI 0) :: .ref b35 :: .ref b47 :: .ref b61 :: .ref b77 :: .ref b95 :: .ref b115 :: .ref b137 :: .ref b161 :: .int (zI ((-1))) :: .int (zI 0) :: .ref b200 :: .ref b228 :: .ref b258 :: .ref b290 :: .int (zI 0) :: .ref b324 :: .int (zI 0) :: .ref b360 :: .int (zI 0) :: .ref b398 :: .null :: .null :: .null :: .null :: .null :: .null :: .null :: .null :: .null :: .null :: .null :: .null :: .null :: .null :: .null :: []))) hG mt400 hk9 hP hD
  have mt419 : a ∈ u418.1 := (fun x hx => by rw [hu418]; exact hx : ∀ x, x ∈ u399.1 → x ∈ u418.1) a mt400
  have mt420 : b1 ∈ u418.1 := (fun x hx => by rw [hu418]; exact hx : ∀ x, x ∈ u399.1 → x ∈ u418.1) b1 mt401
  have et420 : u418.2 b1 = .inl (cy 2, 288, .inl (fun _ => zI 0)) := (hpu418 b1 (fun h => (fun h9 => da_b1 h9.symm) h)).trans et401
  have mt421 : b7 ∈ u418.1 := (fun x hx => by rw [hu418]; exact hx : ∀ x, x ∈ u399.1 → x ∈ u418.1) b7 mt402
  have et421 : u418.2 b7 = .inl (cy 0, 36, .inl (fun _ => zI 0)) := (hpu418 b7 (fun h => (fun h9 => da_b7 h9.symm) h)).trans et402
  have mt422 : b15 ∈ u418.1 := (fun x hx => by rw [hu418]; exact hx : ∀ x, x ∈ u399.1 → x ∈ u418.1) b15 mt403
  have et422 : u418.2 b15 = .inl (cy 0, 36, .inl (fun _ => zI 0)) := (hpu418 b15 (fun h => (fun h9 => da_b15 h9.symm) h)).trans et403
  have mt423 : b35 ∈ u418.1 := (fun x hx => by rw [hu418]; exact hx : ∀ x, x ∈ u399.1 → x ∈ u418.1) b35 mt404
  have et423 : u418.2 b35 = .inl (cy 0, 10, .inl (fun _ => zI 0)) := (hpu418 b35 (fun h => (fun h9 => da_b35 h9.symm) h)).trans et404
  have mt424 : b47 ∈ u418.1 := (fun x hx => by rw [hu418]; exact hx : ∀ x, x ∈ u399.1 → x ∈ u418.1) b47 mt405
  have et424 : u418.2 b47 = .inl (cy 0, 10, .inl (fun _ => zI 0)) := (hpu418 b47 (fun h => (fun h9 => da_b47 h9.symm) h)).trans et405
  have mt425 : b61 ∈ u418.1 := (fun x hx => by rw [hu418]; exact hx : ∀ x, x ∈ u399.1 → x ∈ u418.1) b61 mt406
  have et425 : u418.2 b61 = .inl (cy 0, 10, .inl (fun _ => zI 0)) := (hpu418 b61 (fun h => (fun h9 => da_b61 h9.symm) h)).trans et406
  have mt426 : b77 ∈ u418.1 := (fun x hx => by rw [hu418]; exact hx : ∀ x, x ∈ u399.1 → x ∈ u418.1) b77 mt407
  have et426 : u418.2 b77 = .inl (cy 0, 10, .inl (fun _ => zI 0)) := (hpu418 b77 (fun h => (fun h9 => da_b77 h9.symm) h)).trans et407
  have mt427 : b95 ∈ u418.1 := (fun x hx => by rw [hu418]; exact hx : ∀ x, x ∈ u399.1 → x ∈ u418.1) b95 mt408
  have et427 : u418.2 b95 = .inl (cy 0, 202, .inl (fun _ => zI 0)) := (hpu418 b95 (fun h => (fun h9 => da_b95 h9.symm) h)).trans et408
  have mt428 : b115 ∈ u418.1 := (fun x hx => by rw [hu418]; exact hx : ∀ x, x ∈ u399.1 → x ∈ u418.1) b115 mt409
  have et428 : u418.2 b115 = .inl (cy 0, 202, .inl (fun _ => zI 0)) := (hpu418 b115 (fun h => (fun h9 => da_b115 h9.symm) h)).trans et409
  have mt429 : b137 ∈ u418.1 := (fun x hx => by rw [hu418]; exact hx : ∀ x, x ∈ u399.1 → x ∈ u418.1) b137 mt410
  have et429 : u418.2 b137 = .inl (cy 0, 2, .inl (fun _ => zI 0)) := (hpu418 b137 (fun h => (fun h9 => da_b137 h9.symm) h)).trans et410
  have mt430 : b161 ∈ u418.1 := (fun x hx => by rw [hu418]; exact hx : ∀ x, x ∈ u399.1 → x ∈ u418.1) b161 mt411
  have et430 : u418.2 b161 = .inl (cy 0, 2, .inl (fun _ => zI 0)) := (hpu418 b161 (fun h => (fun h9 => da_b161 h9.symm) h)).trans et411
  have mt431 : b200 ∈ u418.1 := (fun x hx => by rw [hu418]; exact hx : ∀ x, x ∈ u399.1 → x ∈ u418.1) b200 mt412
  have et431 : u418.2 b200 = .inl (cy 0, 8, .inl (fun _ => zI 0)) := (hpu418 b200 (fun h => (fun h9 => da_b200 h9.symm) h)).trans et412
  have mt432 : b228 ∈ u418.1 := (fun x hx => by rw [hu418]; exact hx : ∀ x, x ∈ u399.1 → x ∈ u418.1) b228 mt413
  have et432 : u418.2 b228 = .inl (cy 0, 8, .inl (fun _ => zI 0)) := (hpu418 b228 (fun h => (fun h9 => da_b228 h9.symm) h)).trans et413
  have mt433 : b258 ∈ u418.1 := (fun x hx => by rw [hu418]; exact hx : ∀ x, x ∈ u399.1 → x ∈ u418.1) b258 mt414
  have et433 : u418.2 b258 = .inl (cy 0, 8, .inl (fun _ => zI 0)) := (hpu418 b258 (fun h => (fun h9 => da_b258 h9.symm) h)).trans et414
  have mt434 : b290 ∈ u418.1 := (fun x hx => by rw [hu418]; exact hx : ∀ x, x ∈ u399.1 → x ∈ u418.1) b290 mt415
  have et434 : u418.2 b290 = .inl (cy 0, 8, .inl (fun _ => zI 0)) := (hpu418 b290 (fun h => (fun h9 => da_b290 h9.symm) h)).trans et415
  have mt435 : b324 ∈ u418.1 := (fun x hx => by rw [hu418]; exact hx : ∀ x, x ∈ u399.1 → x ∈ u418.1) b324 mt416
  have et435 : u418.2 b324 = .inl (cy 0, 60, .inl (fun _ => zI 0)) := (hpu418 b324 (fun h => (fun h9 => da_b324 h9.symm) h)).trans et416
  have mt436 : b360 ∈ u418.1 := (fun x hx => by rw [hu418]; exact hx : ∀ x, x ∈ u399.1 → x ∈ u418.1) b360 mt417
  have et436 : u418.2 b360 = .inl (cy 0, 6, .inl (fun _ => zI 0)) := (hpu418 b360 (fun h => (fun h9 => da_b360 h9.symm) h)).trans et417
  have mt437 : b398 ∈ u418.1 := (fun x hx => by rw [hu418]; exact hx : ∀ x, x ∈ u399.1 → x ∈ u418.1) b398 mb398
  have et437 : u418.2 b398 = .inl (cy 0, 40, .inl (fun _ => zI 0)) := (hpu418 b398 (fun h => (fun h9 => da_b398 h9.symm) h)).trans hEb398
  have hLu418 : u418.1 = ((((((((((((((((((u.1 ++ [b1]) ++ [b7]) ++ [b15]) ++ [b35]) ++ [b47]) ++ [b61]) ++ [b77]) ++ [b95]) ++ [b115]) ++ [b137]) ++ [b161]) ++ [b200]) ++ [b228]) ++ [b258]) ++ [b290]) ++ [b324]) ++ [b360]) ++ [b398]) := by rw [hu418, hLu399]
  have hMu418 : ∀ x, x ∈ u.1 → x ∈ u418.1 := fun x hx => by rw [hu418]; exact hMu399 x hx
  have hOu418 : ∀ x, x ∈ u.1 → x ≠ a → u418.2 x = u.2 x := fun x hx ne => (hpu418 x ne).trans (hOu399 x hx ne)
  refine lv_aload_n hx hb dX12_init_165 rfl (lv_at hl 0 rfl) ?_
  refine z_bipush hx hb dX12_init_166 (by decide) ?_
  refine p_newZ (z := 16) (M := 16) hx hb (hts (.arrayClass .boolean) (List.mem_cons_of_mem _ (List.mem_append_left _ (List.mem_append_left _ (List.mem_of_getElem? (i := 3) rfl))))) hI hG hS (by omega) (by omega) (by omega) (Nat.le_of_ble_eq_true rfl) (Nat.le_of_ble_eq_true rfl) dX12_init_168 (fun b438 u439 H hu439 hEb438 hpu439 hnb438 hG hS => ?_)
  have hEb438 : u439.2 b438 = .inl (cy 2, 16, .inl (fun _ => zI 0)) := hEb438
  have fb438 : b438 ∉ ((((((((((((((((((u.1 ++ [b1]) ++ [b7]) ++ [b15]) ++ [b35]) ++ [b47]) ++ [b61]) ++ [b77]) ++ [b95]) ++ [b115]) ++ [b137]) ++ [b161]) ++ [b200]) ++ [b228]) ++ [b258]) ++ [b290]) ++ [b324]) ++ [b360]) ++ [b398]) := by rw [← hLu418]; exact hnb438
  have hLu439 : u439.1 = (((((((((((((((((((u.1 ++ [b1]) ++ [b7]) ++ [b15]) ++ [b35]) ++ [b47]) ++ [b61]) ++ [b77]) ++ [b95]) ++ [b115]) ++ [b137]) ++ [b161]) ++ [b200]) ++ [b228]) ++ [b258]) ++ [b290]) ++ [b324]) ++ [b360]) ++ [b398]) ++ [b438]) := by rw [hu439, hLu418]
  have hMu439 : ∀ x, x ∈ u.1 → x ∈ u439.1 := fun x hx => by rw [hu439]; exact List.mem_append_left _ (hMu418 x hx)
  have hOu439 : ∀ x, x ∈ u.1 → x ≠ a → u439.2 x = u.2 x := fun x hx ne => (hpu439 x (hMu418 x hx)).trans (hOu418 x hx ne)
  have da_b438 : a ≠ b438 := fun h => hnb438 (h ▸ mt419)
  have db1_b438 : b1 ≠ b438 := fun h => hnb438 (h ▸ mt420)
  have db7_b438 : b7 ≠ b438 := fun h => hnb438 (h ▸ mt421)
  have db15_b438 : b15 ≠ b438 := fun h => hnb438 (h ▸ mt422)
  have db35_b438 : b35 ≠ b438 := fun h => hnb438 (h ▸ mt423)
  have db47_b438 : b47 ≠ b438 := fun h => hnb438 (h ▸ mt424)
  have db61_b438 : b61 ≠ b438 := fun h => hnb438 (h ▸ mt425)
  have db77_b438 : b77 ≠ b438 := fun h => hnb438 (h ▸ mt426)
  have db95_b438 : b95 ≠ b438 := fun h => hnb438 (h ▸ mt427)
  have db115_b438 : b115 ≠ b438 := fun h => hnb438 (h ▸ mt428)
  have db137_b438 : b137 ≠ b438 := fun h => hnb438 (h ▸ mt429)
  have db161_b438 : b161 ≠ b438 := fun h => hnb438 (h ▸ mt430)
  have db200_b438 : b200 ≠ b438 := fun h => hnb438 (h ▸ mt431)
  have db228_b438 : b228 ≠ b438 := fun h => hnb438 (h ▸ mt432)
  have db258_b438 : b258 ≠ b438 := fun h => hnb438 (h ▸ mt433)
  have db290_b438 : b290 ≠ b438 := fun h => hnb438 (h ▸ mt434)
  have db324_b438 : b324 ≠ b438 := fun h => hnb438 (h ▸ mt435)
  have db360_b438 : b360 ≠ b438 := fun h => hnb438 (h ▸ mt436)
  have db398_b438 : b398 ≠ b438 := fun h => hnb438 (h ▸ mt437)
  have mt440 : a ∈ u439.1 := (fun x hx => by rw [hu439]; exact List.mem_append_left _ hx : ∀ x, x ∈ u418.1 → x ∈ u439.1) a mt419
  have et440 : u439.2 a = .inr (11, (.int (zI 0) :: .ref b1 :: .ref b7 :: .ref b15 :: .int (zI 5) :: .int (zI 20) :: .int (zI 0) :: .ref b35 :: .ref b47 :: .ref b61 :: .ref b77 :: .ref b95 :: .ref b115 :: .ref b137 :: .ref b161 :: .int (zI ((-1))) :: .int (zI 0) :: .ref b200 :: .ref b228 :: .ref b258 :: .ref b290 :: .int (zI 0) :: .ref b324 :: .int (zI 0) :: .ref b360 :: .int (zI 0) :: .ref b398 :: .null :: .null :: .null :: .null :: .null :: .null :: .null :: .null :: .null :: .null :: .null :: .null :: .null :: .null :: .null :: [])) := (hpu439 a mt419).trans hEu418
  have mt441 : b1 ∈ u439.1 := (fun x hx => by rw [hu439]; exact List.mem_append_left _ hx : ∀ x, x ∈ u418.1 → x ∈ u439.1) b1 mt420
  have et441 : u439.2 b1 = .inl (cy 2, 288, .inl (fun _ => zI 0)) := (hpu439 b1 mt420).trans et420
  have mt442 : b7 ∈ u439.1 := (fun x hx => by rw [hu439]; exact List.mem_append_left _ hx : ∀ x, x ∈ u418.1 → x ∈ u439.1) b7 mt421
  have et442 : u439.2 b7 = .inl (cy 0, 36, .inl (fun _ => zI 0)) := (hpu439 b7 mt421).trans et421
  have mt443 : b15 ∈ u439.1 := (fun x hx => by rw [hu439]; exact List.mem_append_left _ hx : ∀ x, x ∈ u418.1 → x ∈ u439.1) b15 mt422
  have et443 : u439.2 b15 = .inl (cy 0, 36, .inl (fun _ => zI 0)) := (hpu439 b15 mt422).trans et422
  have mt444 : b35 ∈ u439.1 := (fun x hx => by rw [hu439]; exact List.mem_append_left _ hx : ∀ x, x ∈ u418.1 → x ∈ u439.1) b35 mt423
  have et444 : u439.2 b35 = .inl (cy 0, 10, .inl (fun _ => zI 0)) := (hpu439 b35 mt423).trans et423
  have mt445 : b47 ∈ u439.1 := (fun x hx => by rw [hu439]; exact List.mem_append_left _ hx : ∀ x, x ∈ u418.1 → x ∈ u439.1) b47 mt424
  have et445 : u439.2 b47 = .inl (cy 0, 10, .inl (fun _ => zI 0)) := (hpu439 b47 mt424).trans et424
  have mt446 : b61 ∈ u439.1 := (fun x hx => by rw [hu439]; exact List.mem_append_left _ hx : ∀ x, x ∈ u418.1 → x ∈ u439.1) b61 mt425
  have et446 : u439.2 b61 = .inl (cy 0, 10, .inl (fun _ => zI 0)) := (hpu439 b61 mt425).trans et425
  have mt447 : b77 ∈ u439.1 := (fun x hx => by rw [hu439]; exact List.mem_append_left _ hx : ∀ x, x ∈ u418.1 → x ∈ u439.1) b77 mt426
  have et447 : u439.2 b77 = .inl (cy 0, 10, .inl (fun _ => zI 0)) := (hpu439 b77 mt426).trans et426
  have mt448 : b95 ∈ u439.1 := (fun x hx => by rw [hu439]; exact List.mem_append_left _ hx : ∀ x, x ∈ u418.1 → x ∈ u439.1) b95 mt427
  have et448 : u439.2 b95 = .inl (cy 0, 202, .inl (fun _ => zI 0)) := (hpu439 b95 mt427).trans et427
  have mt449 : b115 ∈ u439.1 := (fun x hx => by rw [hu439]; exact List.mem_append_left _ hx : ∀ x, x ∈ u418.1 → x ∈ u439.1) b115 mt428
  have et449 : u439.2 b115 = .inl (cy 0, 202, .inl (fun _ => zI 0)) := (hpu439 b115 mt428).trans et428
  have mt450 : b137 ∈ u439.1 := (fun x hx => by rw [hu439]; exact List.mem_append_left _ hx : ∀ x, x ∈ u418.1 → x ∈ u439.1) b137 mt429
  have et450 : u439.2 b137 = .inl (cy 0, 2, .inl (fun _ => zI 0)) := (hpu439 b137 mt429).trans et429
  have mt451 : b161 ∈ u439.1 := (fun x hx => by rw [hu439]; exact List.mem_append_left _ hx : ∀ x, x ∈ u418.1 → x ∈ u439.1) b161 mt430
  have et451 : u439.2 b161 = .inl (cy 0, 2, .inl (fun _ => zI 0)) := (hpu439 b161 mt430).trans et430
  have mt452 : b200 ∈ u439.1 := (fun x hx => by rw [hu439]; exact List.mem_append_left _ hx : ∀ x, x ∈ u418.1 → x ∈ u439.1) b200 mt431
  have et452 : u439.2 b200 = .inl (cy 0, 8, .inl (fun _ => zI 0)) := (hpu439 b200 mt431).trans et431
  have mt453 : b228 ∈ u439.1 := (fun x hx => by rw [hu439]; exact List.mem_append_left _ hx : ∀ x, x ∈ u418.1 → x ∈ u439.1) b228 mt432
  have et453 : u439.2 b228 = .inl (cy 0, 8, .inl (fun _ => zI 0)) := (hpu439 b228 mt432).trans et432
  have mt454 : b258 ∈ u439.1 := (fun x hx => by rw [hu439]; exact List.mem_append_left _ hx : ∀ x, x ∈ u418.1 → x ∈ u439.1) b258 mt433
  have et454 : u439.2 b258 = .inl (cy 0, 8, .inl (fun _ => zI 0)) := (hpu439 b258 mt433).trans et433
  have mt455 : b290 ∈ u439.1 := (fun x hx => by rw [hu439]; exact List.mem_append_left _ hx : ∀ x, x ∈ u418.1 → x ∈ u439.1) b290 mt434
  have et455 : u439.2 b290 = .inl (cy 0, 8, .inl (fun _ => zI 0)) := (hpu439 b290 mt434).trans et434
  have mt456 : b324 ∈ u439.1 := (fun x hx => by rw [hu439]; exact List.mem_append_left _ hx : ∀ x, x ∈ u418.1 → x ∈ u439.1) b324 mt435
  have et456 : u439.2 b324 = .inl (cy 0, 60, .inl (fun _ => zI 0)) := (hpu439 b324 mt435).trans et435
  have mt457 : b360 ∈ u439.1 := (fun x hx => by rw [hu439]; exact List.mem_append_left _ hx : ∀ x, x ∈ u418.1 → x ∈ u439.1) b360 mt436
  have et457 : u439.2 b360 = .inl (cy 0, 6, .inl (fun _ => zI 0)) := (hpu439 b360 mt436).trans et436
  have mt458 : b398 ∈ u439.1 := (fun x hx => by rw [hu439]; exact List.mem_append_left _ hx : ∀ x, x ∈ u418.1 → x ∈ u439.1) b398 mt437
  have et458 : u439.2 b398 = .inl (cy 0, 40, .inl (fun _ => zI 0)) := (hpu439 b398 mt437).trans et437
  have mb438 : b438 ∈ u439.1 := by rw [hu439]; exact List.mem_append_right _ List.mem_cons_self
  obtain ⟨k9, hk9⟩ := p_get D u439 mt440
  refine va_putF (C := RX12) (T := TX12) (N := 42) (ci := 11) (ty := tyX12 27) hx hb hts (fun _ h => (List.mem_cons_of_mem _ (List.mem_append_right _ h))) tyX12 tyX12_ok nmX12 hown hI.1 hG.1 hG.2 hS k9 (hk9.trans (by rw [et440])) rfl 27 (by decide) (hts (.fieldLink RX12 75 "StraitSwimModel" "calms" "[Z") (List.mem_cons_of_mem _ (List.mem_append_left _ (List.mem_append_right _ (List.mem_of_getElem? (i := 2) rfl))))) (fun _ h9 => h9) rfl hin2 rfl (tyX12_ok 27 (by decide)) rfl rfl (Nat.le_of_ble_eq_true rfl) dX12_init_170 (fun H locs hP hD hS => ?_)
  obtain ⟨u459, hu459, hEu459, hpu459, hG⟩ := p_set (e := .inr (11, (.int (zI 0) :: .ref b1 :: .ref b7 :: .ref b15 :: .int (zI 5) :: .int (zI 20) :: .int (zI 0) :: .ref b35 :: .ref b47 :: .ref b61 :: .ref b77 :: .ref b95 :: .ref b115 :: .ref b137 :: .ref b161 :: .int (zI ((-1))) :: .int (zI 0) :: .ref b200 :: .ref b228 :: .ref b258 :: .ref b290 :: .int (zI 0) :: .ref b324 :: .int (zI 0) :: .ref b360 :: .int (zI 0) :: .ref b398 :: .ref b438 :: .null :: .null :: .null :: .null :: .null :: .null :: .null :: .null :: .null :: .null :: .null :: .null :: .null :: .null :: []))) hG mt440 hk9 hP hD
  have mt460 : a ∈ u459.1 := (fun x hx => by rw [hu459]; exact hx : ∀ x, x ∈ u439.1 → x ∈ u459.1) a mt440
  have mt461 : b1 ∈ u459.1 := (fun x hx => by rw [hu459]; exact hx : ∀ x, x ∈ u439.1 → x ∈ u459.1) b1 mt441
  have et461 : u459.2 b1 = .inl (cy 2, 288, .inl (fun _ => zI 0)) := (hpu459 b1 (fun h => (fun h9 => da_b1 h9.symm) h)).trans et441
  have mt462 : b7 ∈ u459.1 := (fun x hx => by rw [hu459]; exact hx : ∀ x, x ∈ u439.1 → x ∈ u459.1) b7 mt442
  have et462 : u459.2 b7 = .inl (cy 0, 36, .inl (fun _ => zI 0)) := (hpu459 b7 (fun h => (fun h9 => da_b7 h9.symm) h)).trans et442
  have mt463 : b15 ∈ u459.1 := (fun x hx => by rw [hu459]; exact hx : ∀ x, x ∈ u439.1 → x ∈ u459.1) b15 mt443
  have et463 : u459.2 b15 = .inl (cy 0, 36, .inl (fun _ => zI 0)) := (hpu459 b15 (fun h => (fun h9 => da_b15 h9.symm) h)).trans et443
  have mt464 : b35 ∈ u459.1 := (fun x hx => by rw [hu459]; exact hx : ∀ x, x ∈ u439.1 → x ∈ u459.1) b35 mt444
  have et464 : u459.2 b35 = .inl (cy 0, 10, .inl (fun _ => zI 0)) := (hpu459 b35 (fun h => (fun h9 => da_b35 h9.symm) h)).trans et444
  have mt465 : b47 ∈ u459.1 := (fun x hx => by rw [hu459]; exact hx : ∀ x, x ∈ u439.1 → x ∈ u459.1) b47 mt445
  have et465 : u459.2 b47 = .inl (cy 0, 10, .inl (fun _ => zI 0)) := (hpu459 b47 (fun h => (fun h9 => da_b47 h9.symm) h)).trans et445
  have mt466 : b61 ∈ u459.1 := (fun x hx => by rw [hu459]; exact hx : ∀ x, x ∈ u439.1 → x ∈ u459.1) b61 mt446
  have et466 : u459.2 b61 = .inl (cy 0, 10, .inl (fun _ => zI 0)) := (hpu459 b61 (fun h => (fun h9 => da_b61 h9.symm) h)).trans et446
  have mt467 : b77 ∈ u459.1 := (fun x hx => by rw [hu459]; exact hx : ∀ x, x ∈ u439.1 → x ∈ u459.1) b77 mt447
  have et467 : u459.2 b77 = .inl (cy 0, 10, .inl (fun _ => zI 0)) := (hpu459 b77 (fun h => (fun h9 => da_b77 h9.symm) h)).trans et447
  have mt468 : b95 ∈ u459.1 := (fun x hx => by rw [hu459]; exact hx : ∀ x, x ∈ u439.1 → x ∈ u459.1) b95 mt448
  have et468 : u459.2 b95 = .inl (cy 0, 202, .inl (fun _ => zI 0)) := (hpu459 b95 (fun h => (fun h9 => da_b95 h9.symm) h)).trans et448
  have mt469 : b115 ∈ u459.1 := (fun x hx => by rw [hu459]; exact hx : ∀ x, x ∈ u439.1 → x ∈ u459.1) b115 mt449
  have et469 : u459.2 b115 = .inl (cy 0, 202, .inl (fun _ => zI 0)) := (hpu459 b115 (fun h => (fun h9 => da_b115 h9.symm) h)).trans et449
  have mt470 : b137 ∈ u459.1 := (fun x hx => by rw [hu459]; exact hx : ∀ x, x ∈ u439.1 → x ∈ u459.1) b137 mt450
  have et470 : u459.2 b137 = .inl (cy 0, 2, .inl (fun _ => zI 0)) := (hpu459 b137 (fun h => (fun h9 => da_b137 h9.symm) h)).trans et450
  have mt471 : b161 ∈ u459.1 := (fun x hx => by rw [hu459]; exact hx : ∀ x, x ∈ u439.1 → x ∈ u459.1) b161 mt451
  have et471 : u459.2 b161 = .inl (cy 0, 2, .inl (fun _ => zI 0)) := (hpu459 b161 (fun h => (fun h9 => da_b161 h9.symm) h)).trans et451
  have mt472 : b200 ∈ u459.1 := (fun x hx => by rw [hu459]; exact hx : ∀ x, x ∈ u439.1 → x ∈ u459.1) b200 mt452
  have et472 : u459.2 b200 = .inl (cy 0, 8, .inl (fun _ => zI 0)) := (hpu459 b200 (fun h => (fun h9 => da_b200 h9.symm) h)).trans et452
  have mt473 : b228 ∈ u459.1 := (fun x hx => by rw [hu459]; exact hx : ∀ x, x ∈ u439.1 → x ∈ u459.1) b228 mt453
  have et473 : u459.2 b228 = .inl (cy 0, 8, .inl (fun _ => zI 0)) := (hpu459 b228 (fun h => (fun h9 => da_b228 h9.symm) h)).trans et453
  have mt474 : b258 ∈ u459.1 := (fun x hx => by rw [hu459]; exact hx : ∀ x, x ∈ u439.1 → x ∈ u459.1) b258 mt454
  have et474 : u459.2 b258 = .inl (cy 0, 8, .inl (fun _ => zI 0)) := (hpu459 b258 (fun h => (fun h9 => da_b258 h9.symm) h)).trans et454
  have mt475 : b290 ∈ u459.1 := (fun x hx => by rw [hu459]; exact hx : ∀ x, x ∈ u439.1 → x ∈ u459.1) b290 mt455
  have et475 : u459.2 b290 = .inl (cy 0, 8, .inl (fun _ => zI 0)) := (hpu459 b290 (fun h => (fun h9 => da_b290 h9.symm) h)).trans et455
  have mt476 : b324 ∈ u459.1 := (fun x hx => by rw [hu459]; exact hx : ∀ x, x ∈ u439.1 → x ∈ u459.1) b324 mt456
  have et476 : u459.2 b324 = .inl (cy 0, 60, .inl (fun _ => zI 0)) := (hpu459 b324 (fun h => (fun h9 => da_b324 h9.symm) h)).trans et456
  have mt477 : b360 ∈ u459.1 := (fun x hx => by rw [hu459]; exact hx : ∀ x, x ∈ u439.1 → x ∈ u459.1) b360 mt457
  have et477 : u459.2 b360 = .inl (cy 0, 6, .inl (fun _ => zI 0)) := (hpu459 b360 (fun h => (fun h9 => da_b360 h9.symm) h)).trans et457
  have mt478 : b398 ∈ u459.1 := (fun x hx => by rw [hu459]; exact hx : ∀ x, x ∈ u439.1 → x ∈ u459.1) b398 mt458
  have et478 : u459.2 b398 = .inl (cy 0, 40, .inl (fun _ => zI 0)) := (hpu459 b398 (fun h => (fun h9 => da_b398 h9.symm) h)).trans et458
  have mt479 : b438 ∈ u459.1 := (fun x hx => by rw [hu459]; exact hx : ∀ x, x ∈ u439.1 → x ∈ u459.1) b438 mb438
  have et479 : u459.2 b438 = .inl (cy 2, 16, .inl (fun _ => zI 0)) := (hpu459 b438 (fun h => (fun h9 => da_b438 h9.symm) h)).trans hEb438
  have hLu459 : u459.1 = (((((((((((((((((((u.1 ++ [b1]) ++ [b7]) ++ [b15]) ++ [b35]) ++ [b47]) ++ [b61]) ++ [b77]) ++ [b95]) ++ [b115]) ++ [b137]) ++ [b161]) ++ [b200]) ++ [b228]) ++ [b258]) ++ [b290]) ++ [b324]) ++ [b360]) ++ [b398]) ++ [b438]) := by rw [hu459, hLu439]
  have hMu459 : ∀ x, x ∈ u.1 → x ∈ u459.1 := fun x hx => by rw [hu459]; exact hMu439 x hx
  have hOu459 : ∀ x, x ∈ u.1 → x ≠ a → u459.2 x = u.2 x := fun x hx ne => (hpu459 x ne).trans (hOu439 x hx ne)
  refine lv_aload_n hx hb dX12_init_173 rfl (lv_at hl 0 rfl) ?_
  refine z_bipush hx hb dX12_init_174 (by decide) ?_
  refine p_newI (z := 10) (M := 10) hx hb (hts (.arrayClass .int) (List.mem_cons_of_mem _ (List.mem_append_left _ (List.mem_append_left _ (List.mem_of_getElem? (i := 5) rfl))))) hI hG hS (by omega) (by omega) (by omega) (Nat.le_of_ble_eq_true rfl) (Nat.le_of_ble_eq_true rfl) dX12_init_176 (fun b480 u481 H hu481 hEb480 hpu481 hnb480 hG hS => ?_)
  have hEb480 : u481.2 b480 = .inl (cy 0, 10, .inl (fun _ => zI 0)) := hEb480
  have fb480 : b480 ∉ (((((((((((((((((((u.1 ++ [b1]) ++ [b7]) ++ [b15]) ++ [b35]) ++ [b47]) ++ [b61]) ++ [b77]) ++ [b95]) ++ [b115]) ++ [b137]) ++ [b161]) ++ [b200]) ++ [b228]) ++ [b258]) ++ [b290]) ++ [b324]) ++ [b360]) ++ [b398]) ++ [b438]) := by rw [← hLu459]; exact hnb480
  have hLu481 : u481.1 = ((((((((((((((((((((u.1 ++ [b1]) ++ [b7]) ++ [b15]) ++ [b35]) ++ [b47]) ++ [b61]) ++ [b77]) ++ [b95]) ++ [b115]) ++ [b137]) ++ [b161]) ++ [b200]) ++ [b228]) ++ [b258]) ++ [b290]) ++ [b324]) ++ [b360]) ++ [b398]) ++ [b438]) ++ [b480]) := by rw [hu481, hLu459]
  have hMu481 : ∀ x, x ∈ u.1 → x ∈ u481.1 := fun x hx => by rw [hu481]; exact List.mem_append_left _ (hMu459 x hx)
  have hOu481 : ∀ x, x ∈ u.1 → x ≠ a → u481.2 x = u.2 x := fun x hx ne => (hpu481 x (hMu459 x hx)).trans (hOu459 x hx ne)
  have da_b480 : a ≠ b480 := fun h => hnb480 (h ▸ mt460)
  have db1_b480 : b1 ≠ b480 := fun h => hnb480 (h ▸ mt461)
  have db7_b480 : b7 ≠ b480 := fun h => hnb480 (h ▸ mt462)
  have db15_b480 : b15 ≠ b480 := fun h => hnb480 (h ▸ mt463)
  have db35_b480 : b35 ≠ b480 := fun h => hnb480 (h ▸ mt464)
  have db47_b480 : b47 ≠ b480 := fun h => hnb480 (h ▸ mt465)
  have db61_b480 : b61 ≠ b480 := fun h => hnb480 (h ▸ mt466)
  have db77_b480 : b77 ≠ b480 := fun h => hnb480 (h ▸ mt467)
  have db95_b480 : b95 ≠ b480 := fun h => hnb480 (h ▸ mt468)
  have db115_b480 : b115 ≠ b480 := fun h => hnb480 (h ▸ mt469)
  have db137_b480 : b137 ≠ b480 := fun h => hnb480 (h ▸ mt470)
  have db161_b480 : b161 ≠ b480 := fun h => hnb480 (h ▸ mt471)
  have db200_b480 : b200 ≠ b480 := fun h => hnb480 (h ▸ mt472)
  have db228_b480 : b228 ≠ b480 := fun h => hnb480 (h ▸ mt473)
  have db258_b480 : b258 ≠ b480 := fun h => hnb480 (h ▸ mt474)
  have db290_b480 : b290 ≠ b480 := fun h => hnb480 (h ▸ mt475)
  have db324_b480 : b324 ≠ b480 := fun h => hnb480 (h ▸ mt476)
  have db360_b480 : b360 ≠ b480 := fun h => hnb480 (h ▸ mt477)
  have db398_b480 : b398 ≠ b480 := fun h => hnb480 (h ▸ mt478)
  have db438_b480 : b438 ≠ b480 := fun h => hnb480 (h ▸ mt479)
  have mt482 : a ∈ u481.1 := (fun x hx => by rw [hu481]; exact List.mem_append_left _ hx : ∀ x, x ∈ u459.1 → x ∈ u481.1) a mt460
  have et482 : u481.2 a = .inr (11, (.int (zI 0) :: .ref b1 :: .ref b7 :: .ref b15 :: .int (zI 5) :: .int (zI 20) :: .int (zI 0) :: .ref b35 :: .ref b47 :: .ref b61 :: .ref b77 :: .ref b95 :: .ref b115 :: .ref b137 :: .ref b161 :: .int (zI ((-1))) :: .int (zI 0) :: .ref b200 :: .ref b228 :: .ref b258 :: .ref b290 :: .int (zI 0) :: .ref b324 :: .int (zI 0) :: .ref b360 :: .int (zI 0) :: .ref b398 :: .ref b438 :: .null :: .null :: .null :: .null :: .null :: .null :: .null :: .null :: .null :: .null :: .null :: .null :: .null :: .null :: [])) := (hpu481 a mt460).trans hEu459
  have mt483 : b1 ∈ u481.1 := (fun x hx => by rw [hu481]; exact List.mem_append_left _ hx : ∀ x, x ∈ u459.1 → x ∈ u481.1) b1 mt461
  have et483 : u481.2 b1 = .inl (cy 2, 288, .inl (fun _ => zI 0)) := (hpu481 b1 mt461).trans et461
  have mt484 : b7 ∈ u481.1 := (fun x hx => by rw [hu481]; exact List.mem_append_left _ hx : ∀ x, x ∈ u459.1 → x ∈ u481.1) b7 mt462
  have et484 : u481.2 b7 = .inl (cy 0, 36, .inl (fun _ => zI 0)) := (hpu481 b7 mt462).trans et462
  have mt485 : b15 ∈ u481.1 := (fun x hx => by rw [hu481]; exact List.mem_append_left _ hx : ∀ x, x ∈ u459.1 → x ∈ u481.1) b15 mt463
  have et485 : u481.2 b15 = .inl (cy 0, 36, .inl (fun _ => zI 0)) := (hpu481 b15 mt463).trans et463
  have mt486 : b35 ∈ u481.1 := (fun x hx => by rw [hu481]; exact List.mem_append_left _ hx : ∀ x, x ∈ u459.1 → x ∈ u481.1) b35 mt464
  have et486 : u481.2 b35 = .inl (cy 0, 10, .inl (fun _ => zI 0)) := (hpu481 b35 mt464).trans et464
  have mt487 : b47 ∈ u481.1 := (fun x hx => by rw [hu481]; exact List.mem_append_left _ hx : ∀ x, x ∈ u459.1 → x ∈ u481.1) b47 mt465
  have et487 : u481.2 b47 = .inl (cy 0, 10, .inl (fun _ => zI 0)) := (hpu481 b47 mt465).trans et465
  have mt488 : b61 ∈ u481.1 := (fun x hx => by rw [hu481]; exact List.mem_append_left _ hx : ∀ x, x ∈ u459.1 → x ∈ u481.1) b61 mt466
  have et488 : u481.2 b61 = .inl (cy 0, 10, .inl (fun _ => zI 0)) := (hpu481 b61 mt466).trans et466
  have mt489 : b77 ∈ u481.1 := (fun x hx => by rw [hu481]; exact List.mem_append_left _ hx : ∀ x, x ∈ u459.1 → x ∈ u481.1) b77 mt467
  have et489 : u481.2 b77 = .inl (cy 0, 10, .inl (fun _ => zI 0)) := (hpu481 b77 mt467).trans et467
  have mt490 : b95 ∈ u481.1 := (fun x hx => by rw [hu481]; exact List.mem_append_left _ hx : ∀ x, x ∈ u459.1 → x ∈ u481.1) b95 mt468
  have et490 : u481.2 b95 = .inl (cy 0, 202, .inl (fun _ => zI 0)) := (hpu481 b95 mt468).trans et468
  have mt491 : b115 ∈ u481.1 := (fun x hx => by rw [hu481]; exact List.mem_append_left _ hx : ∀ x, x ∈ u459.1 → x ∈ u481.1) b115 mt469
  have et491 : u481.2 b115 = .inl (cy 0, 202, .inl (fun _ => zI 0)) := (hpu481 b115 mt469).trans et469
  have mt492 : b137 ∈ u481.1 := (fun x hx => by rw [hu481]; exact List.mem_append_left _ hx : ∀ x, x ∈ u459.1 → x ∈ u481.1) b137 mt470
  have et492 : u481.2 b137 = .inl (cy 0, 2, .inl (fun _ => zI 0)) := (hpu481 b137 mt470).trans et470
  have mt493 : b161 ∈ u481.1 := (fun x hx => by rw [hu481]; exact List.mem_append_left _ hx : ∀ x, x ∈ u459.1 → x ∈ u481.1) b161 mt471
  have et493 : u481.2 b161 = .inl (cy 0, 2, .inl (fun _ => zI 0)) := (hpu481 b161 mt471).trans et471
  have mt494 : b200 ∈ u481.1 := (fun x hx => by rw [hu481]; exact List.mem_append_left _ hx : ∀ x, x ∈ u459.1 → x ∈ u481.1) b200 mt472
  have et494 : u481.2 b200 = .inl (cy 0, 8, .inl (fun _ => zI 0)) := (hpu481 b200 mt472).trans et472
  have mt495 : b228 ∈ u481.1 := (fun x hx => by rw [hu481]; exact List.mem_append_left _ hx : ∀ x, x ∈ u459.1 → x ∈ u481.1) b228 mt473
  have et495 : u481.2 b228 = .inl (cy 0, 8, .inl (fun _ => zI 0)) := (hpu481 b228 mt473).trans et473
  have mt496 : b258 ∈ u481.1 := (fun x hx => by rw [hu481]; exact List.mem_append_left _ hx : ∀ x, x ∈ u459.1 → x ∈ u481.1) b258 mt474
  have et496 : u481.2 b258 = .inl (cy 0, 8, .inl (fun _ => zI 0)) := (hpu481 b258 mt474).trans et474
  have mt497 : b290 ∈ u481.1 := (fun x hx => by rw [hu481]; exact List.mem_append_left _ hx : ∀ x, x ∈ u459.1 → x ∈ u481.1) b290 mt475
  have et497 : u481.2 b290 = .inl (cy 0, 8, .inl (fun _ => zI 0)) := (hpu481 b290 mt475).trans et475
  have mt498 : b324 ∈ u481.1 := (fun x hx => by rw [hu481]; exact List.mem_append_left _ hx : ∀ x, x ∈ u459.1 → x ∈ u481.1) b324 mt476
  have et498 : u481.2 b324 = .inl (cy 0, 60, .inl (fun _ => zI 0)) := (hpu481 b324 mt476).trans et476
  have mt499 : b360 ∈ u481.1 := (fun x hx => by rw [hu481]; exact List.mem_append_left _ hx : ∀ x, x ∈ u459.1 → x ∈ u481.1) b360 mt477
  have et499 : u481.2 b360 = .inl (cy 0, 6, .inl (fun _ => zI 0)) := (hpu481 b360 mt477).trans et477
  have mt500 : b398 ∈ u481.1 := (fun x hx => by rw [hu481]; exact List.mem_append_left _ hx : ∀ x, x ∈ u459.1 → x ∈ u481.1) b398 mt478
  have et500 : u481.2 b398 = .inl (cy 0, 40, .inl (fun _ => zI 0)) := (hpu481 b398 mt478).trans et478
  have mt501 : b438 ∈ u481.1 := (fun x hx => by rw [hu481]; exact List.mem_append_left _ hx : ∀ x, x ∈ u459.1 → x ∈ u481.1) b438 mt479
  have et501 : u481.2 b438 = .inl (cy 2, 16, .inl (fun _ => zI 0)) := (hpu481 b438 mt479).trans et479
  have mb480 : b480 ∈ u481.1 := by rw [hu481]; exact List.mem_append_right _ List.mem_cons_self
  obtain ⟨k9, hk9⟩ := p_get D u481 mt482
  refine va_putF (C := RX12) (T := TX12) (N := 42) (ci := 11) (ty := tyX12 28) hx hb hts (fun _ h => (List.mem_cons_of_mem _ (List.mem_append_right _ h))) tyX12 tyX12_ok nmX12 hown hI.1 hG.1 hG.2 hS k9 (hk9.trans (by rw [et482])) rfl 28 (by decide) (hts (.fieldLink RX12 78 "StraitSwimModel" "pilots" "[I") (List.mem_cons_of_mem _ (List.mem_append_left _ (List.mem_append_right _ (List.mem_of_getElem? (i := 3) rfl))))) (fun _ h9 => h9) rfl hin2 rfl (tyX12_ok 28 (by decide)) rfl rfl (Nat.le_of_ble_eq_true rfl) dX12_init_178 (fun H locs hP hD hS => ?_)
  obtain ⟨u502, hu502, hEu502, hpu502, hG⟩ := p_set (e := .inr (11, (.int (zI 0) :: .ref b1 :: .ref b7 :: .ref b15 :: .int (zI 5) :: .int (zI 20) :: .int (zI 0) :: .ref b35 :: .ref b47 :: .ref b61 :: .ref b77 :: .ref b95 :: .ref b115 :: .ref b137 :: .ref b161 :: .int (zI ((-1))) :: .int (zI 0) :: .ref b200 :: .ref b228 :: .ref b258 :: .ref b290 :: .int (zI 0) :: .ref b324 :: .int (zI 0) :: .ref b360 :: .int (zI 0) :: .ref b398 :: .ref b438 :: .ref b480 :: .null :: .null :: .null :: .null :: .null :: .null :: .null :: .null :: .null :: .null :: .null :: .null :: .null :: []))) hG mt482 hk9 hP hD
  have mt503 : a ∈ u502.1 := (fun x hx => by rw [hu502]; exact hx : ∀ x, x ∈ u481.1 → x ∈ u502.1) a mt482
  have mt504 : b1 ∈ u502.1 := (fun x hx => by rw [hu502]; exact hx : ∀ x, x ∈ u481.1 → x ∈ u502.1) b1 mt483
  have et504 : u502.2 b1 = .inl (cy 2, 288, .inl (fun _ => zI 0)) := (hpu502 b1 (fun h => (fun h9 => da_b1 h9.symm) h)).trans et483
  have mt505 : b7 ∈ u502.1 := (fun x hx => by rw [hu502]; exact hx : ∀ x, x ∈ u481.1 → x ∈ u502.1) b7 mt484
  have et505 : u502.2 b7 = .inl (cy 0, 36, .inl (fun _ => zI 0)) := (hpu502 b7 (fun h => (fun h9 => da_b7 h9.symm) h)).trans et484
  have mt506 : b15 ∈ u502.1 := (fun x hx => by rw [hu502]; exact hx : ∀ x, x ∈ u481.1 → x ∈ u502.1) b15 mt485
  have et506 : u502.2 b15 = .inl (cy 0, 36, .inl (fun _ => zI 0)) := (hpu502 b15 (fun h => (fun h9 => da_b15 h9.symm) h)).trans et485
  have mt507 : b35 ∈ u502.1 := (fun x hx => by rw [hu502]; exact hx : ∀ x, x ∈ u481.1 → x ∈ u502.1) b35 mt486
  have et507 : u502.2 b35 = .inl (cy 0, 10, .inl (fun _ => zI 0)) := (hpu502 b35 (fun h => (fun h9 => da_b35 h9.symm) h)).trans et486
  have mt508 : b47 ∈ u502.1 := (fun x hx => by rw [hu502]; exact hx : ∀ x, x ∈ u481.1 → x ∈ u502.1) b47 mt487
  have et508 : u502.2 b47 = .inl (cy 0, 10, .inl (fun _ => zI 0)) := (hpu502 b47 (fun h => (fun h9 => da_b47 h9.symm) h)).trans et487
  have mt509 : b61 ∈ u502.1 := (fun x hx => by rw [hu502]; exact hx : ∀ x, x ∈ u481.1 → x ∈ u502.1) b61 mt488
  have et509 : u502.2 b61 = .inl (cy 0, 10, .inl (fun _ => zI 0)) := (hpu502 b61 (fun h => (fun h9 => da_b61 h9.symm) h)).trans et488
  have mt510 : b77 ∈ u502.1 := (fun x hx => by rw [hu502]; exact hx : ∀ x, x ∈ u481.1 → x ∈ u502.1) b77 mt489
  have et510 : u502.2 b77 = .inl (cy 0, 10, .inl (fun _ => zI 0)) := (hpu502 b77 (fun h => (fun h9 => da_b77 h9.symm) h)).trans et489
  have mt511 : b95 ∈ u502.1 := (fun x hx => by rw [hu502]; exact hx : ∀ x, x ∈ u481.1 → x ∈ u502.1) b95 mt490
  have et511 : u502.2 b95 = .inl (cy 0, 202, .inl (fun _ => zI 0)) := (hpu502 b95 (fun h => (fun h9 => da_b95 h9.symm) h)).trans et490
  have mt512 : b115 ∈ u502.1 := (fun x hx => by rw [hu502]; exact hx : ∀ x, x ∈ u481.1 → x ∈ u502.1) b115 mt491
  have et512 : u502.2 b115 = .inl (cy 0, 202, .inl (fun _ => zI 0)) := (hpu502 b115 (fun h => (fun h9 => da_b115 h9.symm) h)).trans et491
  have mt513 : b137 ∈ u502.1 := (fun x hx => by rw [hu502]; exact hx : ∀ x, x ∈ u481.1 → x ∈ u502.1) b137 mt492
  have et513 : u502.2 b137 = .inl (cy 0, 2, .inl (fun _ => zI 0)) := (hpu502 b137 (fun h => (fun h9 => da_b137 h9.symm) h)).trans et492
  have mt514 : b161 ∈ u502.1 := (fun x hx => by rw [hu502]; exact hx : ∀ x, x ∈ u481.1 → x ∈ u502.1) b161 mt493
  have et514 : u502.2 b161 = .inl (cy 0, 2, .inl (fun _ => zI 0)) := (hpu502 b161 (fun h => (fun h9 => da_b161 h9.symm) h)).trans et493
  have mt515 : b200 ∈ u502.1 := (fun x hx => by rw [hu502]; exact hx : ∀ x, x ∈ u481.1 → x ∈ u502.1) b200 mt494
  have et515 : u502.2 b200 = .inl (cy 0, 8, .inl (fun _ => zI 0)) := (hpu502 b200 (fun h => (fun h9 => da_b200 h9.symm) h)).trans et494
  have mt516 : b228 ∈ u502.1 := (fun x hx => by rw [hu502]; exact hx : ∀ x, x ∈ u481.1 → x ∈ u502.1) b228 mt495
  have et516 : u502.2 b228 = .inl (cy 0, 8, .inl (fun _ => zI 0)) := (hpu502 b228 (fun h => (fun h9 => da_b228 h9.symm) h)).trans et495
  have mt517 : b258 ∈ u502.1 := (fun x hx => by rw [hu502]; exact hx : ∀ x, x ∈ u481.1 → x ∈ u502.1) b258 mt496
  have et517 : u502.2 b258 = .inl (cy 0, 8, .inl (fun _ => zI 0)) := (hpu502 b258 (fun h => (fun h9 => da_b258 h9.symm) h)).trans et496
  have mt518 : b290 ∈ u502.1 := (fun x hx => by rw [hu502]; exact hx : ∀ x, x ∈ u481.1 → x ∈ u502.1) b290 mt497
  have et518 : u502.2 b290 = .inl (cy 0, 8, .inl (fun _ => zI 0)) := (hpu502 b290 (fun h => (fun h9 => da_b290 h9.symm) h)).trans et497
  have mt519 : b324 ∈ u502.1 := (fun x hx => by rw [hu502]; exact hx : ∀ x, x ∈ u481.1 → x ∈ u502.1) b324 mt498
  have et519 : u502.2 b324 = .inl (cy 0, 60, .inl (fun _ => zI 0)) := (hpu502 b324 (fun h => (fun h9 => da_b324 h9.symm) h)).trans et498
  have mt520 : b360 ∈ u502.1 := (fun x hx => by rw [hu502]; exact hx : ∀ x, x ∈ u481.1 → x ∈ u502.1) b360 mt499
  have et520 : u502.2 b360 = .inl (cy 0, 6, .inl (fun _ => zI 0)) := (hpu502 b360 (fun h => (fun h9 => da_b360 h9.symm) h)).trans et499
  have mt521 : b398 ∈ u502.1 := (fun x hx => by rw [hu502]; exact hx : ∀ x, x ∈ u481.1 → x ∈ u502.1) b398 mt500
  have et521 : u502.2 b398 = .inl (cy 0, 40, .inl (fun _ => zI 0)) := (hpu502 b398 (fun h => (fun h9 => da_b398 h9.symm) h)).trans et500
  have mt522 : b438 ∈ u502.1 := (fun x hx => by rw [hu502]; exact hx : ∀ x, x ∈ u481.1 → x ∈ u502.1) b438 mt501
  have et522 : u502.2 b438 = .inl (cy 2, 16, .inl (fun _ => zI 0)) := (hpu502 b438 (fun h => (fun h9 => da_b438 h9.symm) h)).trans et501
  have mt523 : b480 ∈ u502.1 := (fun x hx => by rw [hu502]; exact hx : ∀ x, x ∈ u481.1 → x ∈ u502.1) b480 mb480
  have et523 : u502.2 b480 = .inl (cy 0, 10, .inl (fun _ => zI 0)) := (hpu502 b480 (fun h => (fun h9 => da_b480 h9.symm) h)).trans hEb480
  have hLu502 : u502.1 = ((((((((((((((((((((u.1 ++ [b1]) ++ [b7]) ++ [b15]) ++ [b35]) ++ [b47]) ++ [b61]) ++ [b77]) ++ [b95]) ++ [b115]) ++ [b137]) ++ [b161]) ++ [b200]) ++ [b228]) ++ [b258]) ++ [b290]) ++ [b324]) ++ [b360]) ++ [b398]) ++ [b438]) ++ [b480]) := by rw [hu502, hLu481]
  have hMu502 : ∀ x, x ∈ u.1 → x ∈ u502.1 := fun x hx => by rw [hu502]; exact hMu481 x hx
  have hOu502 : ∀ x, x ∈ u.1 → x ≠ a → u502.2 x = u.2 x := fun x hx ne => (hpu502 x ne).trans (hOu481 x hx ne)
  refine lv_aload_n hx hb dX12_init_181 rfl (lv_at hl 0 rfl) ?_
  refine z_bipush hx hb dX12_init_182 (by decide) ?_
  refine p_newI (z := 10) (M := 10) hx hb (hts (.arrayClass .int) (List.mem_cons_of_mem _ (List.mem_append_left _ (List.mem_append_left _ (List.mem_of_getElem? (i := 5) rfl))))) hI hG hS (by omega) (by omega) (by omega) (Nat.le_of_ble_eq_true rfl) (Nat.le_of_ble_eq_true rfl) dX12_init_184 (fun b524 u525 H hu525 hEb524 hpu525 hnb524 hG hS => ?_)
  have hEb524 : u525.2 b524 = .inl (cy 0, 10, .inl (fun _ => zI 0)) := hEb524
  have fb524 : b524 ∉ ((((((((((((((((((((u.1 ++ [b1]) ++ [b7]) ++ [b15]) ++ [b35]) ++ [b47]) ++ [b61]) ++ [b77]) ++ [b95]) ++ [b115]) ++ [b137]) ++ [b161]) ++ [b200]) ++ [b228]) ++ [b258]) ++ [b290]) ++ [b324]) ++ [b360]) ++ [b398]) ++ [b438]) ++ [b480]) := by rw [← hLu502]; exact hnb524
  have hLu525 : u525.1 = (((((((((((((((((((((u.1 ++ [b1]) ++ [b7]) ++ [b15]) ++ [b35]) ++ [b47]) ++ [b61]) ++ [b77]) ++ [b95]) ++ [b115]) ++ [b137]) ++ [b161]) ++ [b200]) ++ [b228]) ++ [b258]) ++ [b290]) ++ [b324]) ++ [b360]) ++ [b398]) ++ [b438]) ++ [b480]) ++ [b524]) := by rw [hu525, hLu502]
  have hMu525 : ∀ x, x ∈ u.1 → x ∈ u525.1 := fun x hx => by rw [hu525]; exact List.mem_append_left _ (hMu502 x hx)
  have hOu525 : ∀ x, x ∈ u.1 → x ≠ a → u525.2 x = u.2 x := fun x hx ne => (hpu525 x (hMu502 x hx)).trans (hOu502 x hx ne)
  have da_b524 : a ≠ b524 := fun h => hnb524 (h ▸ mt503)
  have db1_b524 : b1 ≠ b524 := fun h => hnb524 (h ▸ mt504)
  have db7_b524 : b7 ≠ b524 := fun h => hnb524 (h ▸ mt505)
  have db15_b524 : b15 ≠ b524 := fun h => hnb524 (h ▸ mt506)
  have db35_b524 : b35 ≠ b524 := fun h => hnb524 (h ▸ mt507)
  have db47_b524 : b47 ≠ b524 := fun h => hnb524 (h ▸ mt508)
  have db61_b524 : b61 ≠ b524 := fun h => hnb524 (h ▸ mt509)
  have db77_b524 : b77 ≠ b524 := fun h => hnb524 (h ▸ mt510)
  have db95_b524 : b95 ≠ b524 := fun h => hnb524 (h ▸ mt511)
  have db115_b524 : b115 ≠ b524 := fun h => hnb524 (h ▸ mt512)
  have db137_b524 : b137 ≠ b524 := fun h => hnb524 (h ▸ mt513)
  have db161_b524 : b161 ≠ b524 := fun h => hnb524 (h ▸ mt514)
  have db200_b524 : b200 ≠ b524 := fun h => hnb524 (h ▸ mt515)
  have db228_b524 : b228 ≠ b524 := fun h => hnb524 (h ▸ mt516)
  have db258_b524 : b258 ≠ b524 := fun h => hnb524 (h ▸ mt517)
  have db290_b524 : b290 ≠ b524 := fun h => hnb524 (h ▸ mt518)
  have db324_b524 : b324 ≠ b524 := fun h => hnb524 (h ▸ mt519)
  have db360_b524 : b360 ≠ b524 := fun h => hnb524 (h ▸ mt520)
  have db398_b524 : b398 ≠ b524 := fun h => hnb524 (h ▸ mt521)
  have db438_b524 : b438 ≠ b524 := fun h => hnb524 (h ▸ mt522)
  have db480_b524 : b480 ≠ b524 := fun h => hnb524 (h ▸ mt523)
  have mt526 : a ∈ u525.1 := (fun x hx => by rw [hu525]; exact List.mem_append_left _ hx : ∀ x, x ∈ u502.1 → x ∈ u525.1) a mt503
  have et526 : u525.2 a = .inr (11, (.int (zI 0) :: .ref b1 :: .ref b7 :: .ref b15 :: .int (zI 5) :: .int (zI 20) :: .int (zI 0) :: .ref b35 :: .ref b47 :: .ref b61 :: .ref b77 :: .ref b95 :: .ref b115 :: .ref b137 :: .ref b161 :: .int (zI ((-1))) :: .int (zI 0) :: .ref b200 :: .ref b228 :: .ref b258 :: .ref b290 :: .int (zI 0) :: .ref b324 :: .int (zI 0) :: .ref b360 :: .int (zI 0) :: .ref b398 :: .ref b438 :: .ref b480 :: .null :: .null :: .null :: .null :: .null :: .null :: .null :: .null :: .null :: .null :: .null :: .null :: .null :: [])) := (hpu525 a mt503).trans hEu502
  have mt527 : b1 ∈ u525.1 := (fun x hx => by rw [hu525]; exact List.mem_append_left _ hx : ∀ x, x ∈ u502.1 → x ∈ u525.1) b1 mt504
  have et527 : u525.2 b1 = .inl (cy 2, 288, .inl (fun _ => zI 0)) := (hpu525 b1 mt504).trans et504
  have mt528 : b7 ∈ u525.1 := (fun x hx => by rw [hu525]; exact List.mem_append_left _ hx : ∀ x, x ∈ u502.1 → x ∈ u525.1) b7 mt505
  have et528 : u525.2 b7 = .inl (cy 0, 36, .inl (fun _ => zI 0)) := (hpu525 b7 mt505).trans et505
  have mt529 : b15 ∈ u525.1 := (fun x hx => by rw [hu525]; exact List.mem_append_left _ hx : ∀ x, x ∈ u502.1 → x ∈ u525.1) b15 mt506
  have et529 : u525.2 b15 = .inl (cy 0, 36, .inl (fun _ => zI 0)) := (hpu525 b15 mt506).trans et506
  have mt530 : b35 ∈ u525.1 := (fun x hx => by rw [hu525]; exact List.mem_append_left _ hx : ∀ x, x ∈ u502.1 → x ∈ u525.1) b35 mt507
  have et530 : u525.2 b35 = .inl (cy 0, 10, .inl (fun _ => zI 0)) := (hpu525 b35 mt507).trans et507
  have mt531 : b47 ∈ u525.1 := (fun x hx => by rw [hu525]; exact List.mem_append_left _ hx : ∀ x, x ∈ u502.1 → x ∈ u525.1) b47 mt508
  have et531 : u525.2 b47 = .inl (cy 0, 10, .inl (fun _ => zI 0)) := (hpu525 b47 mt508).trans et508
  have mt532 : b61 ∈ u525.1 := (fun x hx => by rw [hu525]; exact List.mem_append_left _ hx : ∀ x, x ∈ u502.1 → x ∈ u525.1) b61 mt509
  have et532 : u525.2 b61 = .inl (cy 0, 10, .inl (fun _ => zI 0)) := (hpu525 b61 mt509).trans et509
  have mt533 : b77 ∈ u525.1 := (fun x hx => by rw [hu525]; exact List.mem_append_left _ hx : ∀ x, x ∈ u502.1 → x ∈ u525.1) b77 mt510
  have et533 : u525.2 b77 = .inl (cy 0, 10, .inl (fun _ => zI 0)) := (hpu525 b77 mt510).trans et510
  have mt534 : b95 ∈ u525.1 := (fun x hx => by rw [hu525]; exact List.mem_append_left _ hx : ∀ x, x ∈ u502.1 → x ∈ u525.1) b95 mt511
  have et534 : u525.2 b95 = .inl (cy 0, 202, .inl (fun _ => zI 0)) := (hpu525 b95 mt511).trans et511
  have mt535 : b115 ∈ u525.1 := (fun x hx => by rw [hu525]; exact List.mem_append_left _ hx : ∀ x, x ∈ u502.1 → x ∈ u525.1) b115 mt512
  have et535 : u525.2 b115 = .inl (cy 0, 202, .inl (fun _ => zI 0)) := (hpu525 b115 mt512).trans et512
  have mt536 : b137 ∈ u525.1 := (fun x hx => by rw [hu525]; exact List.mem_append_left _ hx : ∀ x, x ∈ u502.1 → x ∈ u525.1) b137 mt513
  have et536 : u525.2 b137 = .inl (cy 0, 2, .inl (fun _ => zI 0)) := (hpu525 b137 mt513).trans et513
  have mt537 : b161 ∈ u525.1 := (fun x hx => by rw [hu525]; exact List.mem_append_left _ hx : ∀ x, x ∈ u502.1 → x ∈ u525.1) b161 mt514
  have et537 : u525.2 b161 = .inl (cy 0, 2, .inl (fun _ => zI 0)) := (hpu525 b161 mt514).trans et514
  have mt538 : b200 ∈ u525.1 := (fun x hx => by rw [hu525]; exact List.mem_append_left _ hx : ∀ x, x ∈ u502.1 → x ∈ u525.1) b200 mt515
  have et538 : u525.2 b200 = .inl (cy 0, 8, .inl (fun _ => zI 0)) := (hpu525 b200 mt515).trans et515
  have mt539 : b228 ∈ u525.1 := (fun x hx => by rw [hu525]; exact List.mem_append_left _ hx : ∀ x, x ∈ u502.1 → x ∈ u525.1) b228 mt516
  have et539 : u525.2 b228 = .inl (cy 0, 8, .inl (fun _ => zI 0)) := (hpu525 b228 mt516).trans et516
  have mt540 : b258 ∈ u525.1 := (fun x hx => by rw [hu525]; exact List.mem_append_left _ hx : ∀ x, x ∈ u502.1 → x ∈ u525.1) b258 mt517
  have et540 : u525.2 b258 = .inl (cy 0, 8, .inl (fun _ => zI 0)) := (hpu525 b258 mt517).trans et517
  have mt541 : b290 ∈ u525.1 := (fun x hx => by rw [hu525]; exact List.mem_append_left _ hx : ∀ x, x ∈ u502.1 → x ∈ u525.1) b290 mt518
  have et541 : u525.2 b290 = .inl (cy 0, 8, .inl (fun _ => zI 0)) := (hpu525 b290 mt518).trans et518
  have mt542 : b324 ∈ u525.1 := (fun x hx => by rw [hu525]; exact List.mem_append_left _ hx : ∀ x, x ∈ u502.1 → x ∈ u525.1) b324 mt519
  have et542 : u525.2 b324 = .inl (cy 0, 60, .inl (fun _ => zI 0)) := (hpu525 b324 mt519).trans et519
  have mt543 : b360 ∈ u525.1 := (fun x hx => by rw [hu525]; exact List.mem_append_left _ hx : ∀ x, x ∈ u502.1 → x ∈ u525.1) b360 mt520
  have et543 : u525.2 b360 = .inl (cy 0, 6, .inl (fun _ => zI 0)) := (hpu525 b360 mt520).trans et520
  have mt544 : b398 ∈ u525.1 := (fun x hx => by rw [hu525]; exact List.mem_append_left _ hx : ∀ x, x ∈ u502.1 → x ∈ u525.1) b398 mt521
  have et544 : u525.2 b398 = .inl (cy 0, 40, .inl (fun _ => zI 0)) := (hpu525 b398 mt521).trans et521
  have mt545 : b438 ∈ u525.1 := (fun x hx => by rw [hu525]; exact List.mem_append_left _ hx : ∀ x, x ∈ u502.1 → x ∈ u525.1) b438 mt522
  have et545 : u525.2 b438 = .inl (cy 2, 16, .inl (fun _ => zI 0)) := (hpu525 b438 mt522).trans et522
  have mt546 : b480 ∈ u525.1 := (fun x hx => by rw [hu525]; exact List.mem_append_left _ hx : ∀ x, x ∈ u502.1 → x ∈ u525.1) b480 mt523
  have et546 : u525.2 b480 = .inl (cy 0, 10, .inl (fun _ => zI 0)) := (hpu525 b480 mt523).trans et523
  have mb524 : b524 ∈ u525.1 := by rw [hu525]; exact List.mem_append_right _ List.mem_cons_self
  obtain ⟨k9, hk9⟩ := p_get D u525 mt526
  refine va_putF (C := RX12) (T := TX12) (N := 42) (ci := 11) (ty := tyX12 29) hx hb hts (fun _ h => (List.mem_cons_of_mem _ (List.mem_append_right _ h))) tyX12 tyX12_ok nmX12 hown hI.1 hG.1 hG.2 hS k9 (hk9.trans (by rw [et526])) rfl 29 (by decide) (hts (.fieldLink RX12 81 "StraitSwimModel" "slots" "[I") (List.mem_cons_of_mem _ (List.mem_append_left _ (List.mem_append_right _ (List.mem_of_getElem? (i := 4) rfl))))) (fun _ h9 => h9) rfl hin2 rfl (tyX12_ok 29 (by decide)) rfl rfl (Nat.le_of_ble_eq_true rfl) dX12_init_186 (fun H locs hP hD hS => ?_)
  obtain ⟨u547, hu547, hEu547, hpu547, hG⟩ := p_set (e := .inr (11, (.int (zI 0) :: .ref b1 :: .ref b7 :: .ref b15 :: .int (zI 5) :: .int (zI 20) :: .int (zI 0) :: .ref b35 :: .ref b47 :: .ref b61 :: .ref b77 :: .ref b95 :: .ref b115 :: .ref b137 :: .ref b161 :: .int (zI ((-1))) :: .int (zI 0) :: .ref b200 :: .ref b228 :: .ref b258 :: .ref b290 :: .int (zI 0) :: .ref b324 :: .int (zI 0) :: .ref b360 :: .int (zI 0) :: .ref b398 :: .ref b438 :: .ref b480 :: .ref b524 :: .null :: .null :: .null :: .null :: .null :: .null :: .null :: .null :: .null :: .null :: .null :: .null :: []))) hG mt526 hk9 hP hD
  have mt548 : a ∈ u547.1 := (fun x hx => by rw [hu547]; exact hx : ∀ x, x ∈ u525.1 → x ∈ u547.1) a mt526
  have mt549 : b1 ∈ u547.1 := (fun x hx => by rw [hu547]; exact hx : ∀ x, x ∈ u525.1 → x ∈ u547.1) b1 mt527
  have et549 : u547.2 b1 = .inl (cy 2, 288, .inl (fun _ => zI 0)) := (hpu547 b1 (fun h => (fun h9 => da_b1 h9.symm) h)).trans et527
  have mt550 : b7 ∈ u547.1 := (fun x hx => by rw [hu547]; exact hx : ∀ x, x ∈ u525.1 → x ∈ u547.1) b7 mt528
  have et550 : u547.2 b7 = .inl (cy 0, 36, .inl (fun _ => zI 0)) := (hpu547 b7 (fun h => (fun h9 => da_b7 h9.symm) h)).trans et528
  have mt551 : b15 ∈ u547.1 := (fun x hx => by rw [hu547]; exact hx : ∀ x, x ∈ u525.1 → x ∈ u547.1) b15 mt529
  have et551 : u547.2 b15 = .inl (cy 0, 36, .inl (fun _ => zI 0)) := (hpu547 b15 (fun h => (fun h9 => da_b15 h9.symm) h)).trans et529
  have mt552 : b35 ∈ u547.1 := (fun x hx => by rw [hu547]; exact hx : ∀ x, x ∈ u525.1 → x ∈ u547.1) b35 mt530
  have et552 : u547.2 b35 = .inl (cy 0, 10, .inl (fun _ => zI 0)) := (hpu547 b35 (fun h => (fun h9 => da_b35 h9.symm) h)).trans et530
  have mt553 : b47 ∈ u547.1 := (fun x hx => by rw [hu547]; exact hx : ∀ x, x ∈ u525.1 → x ∈ u547.1) b47 mt531
  have et553 : u547.2 b47 = .inl (cy 0, 10, .inl (fun _ => zI 0)) := (hpu547 b47 (fun h => (fun h9 => da_b47 h9.symm) h)).trans et531
  have mt554 : b61 ∈ u547.1 := (fun x hx => by rw [hu547]; exact hx : ∀ x, x ∈ u525.1 → x ∈ u547.1) b61 mt532
  have et554 : u547.2 b61 = .inl (cy 0, 10, .inl (fun _ => zI 0)) := (hpu547 b61 (fun h => (fun h9 => da_b61 h9.symm) h)).trans et532
  have mt555 : b77 ∈ u547.1 := (fun x hx => by rw [hu547]; exact hx : ∀ x, x ∈ u525.1 → x ∈ u547.1) b77 mt533
  have et555 : u547.2 b77 = .inl (cy 0, 10, .inl (fun _ => zI 0)) := (hpu547 b77 (fun h => (fun h9 => da_b77 h9.symm) h)).trans et533
  have mt556 : b95 ∈ u547.1 := (fun x hx => by rw [hu547]; exact hx : ∀ x, x ∈ u525.1 → x ∈ u547.1) b95 mt534
  have et556 : u547.2 b95 = .inl (cy 0, 202, .inl (fun _ => zI 0)) := (hpu547 b95 (fun h => (fun h9 => da_b95 h9.symm) h)).trans et534
  have mt557 : b115 ∈ u547.1 := (fun x hx => by rw [hu547]; exact hx : ∀ x, x ∈ u525.1 → x ∈ u547.1) b115 mt535
  have et557 : u547.2 b115 = .inl (cy 0, 202, .inl (fun _ => zI 0)) := (hpu547 b115 (fun h => (fun h9 => da_b115 h9.symm) h)).trans et535
  have mt558 : b137 ∈ u547.1 := (fun x hx => by rw [hu547]; exact hx : ∀ x, x ∈ u525.1 → x ∈ u547.1) b137 mt536
  have et558 : u547.2 b137 = .inl (cy 0, 2, .inl (fun _ => zI 0)) := (hpu547 b137 (fun h => (fun h9 => da_b137 h9.symm) h)).trans et536
  have mt559 : b161 ∈ u547.1 := (fun x hx => by rw [hu547]; exact hx : ∀ x, x ∈ u525.1 → x ∈ u547.1) b161 mt537
  have et559 : u547.2 b161 = .inl (cy 0, 2, .inl (fun _ => zI 0)) := (hpu547 b161 (fun h => (fun h9 => da_b161 h9.symm) h)).trans et537
  have mt560 : b200 ∈ u547.1 := (fun x hx => by rw [hu547]; exact hx : ∀ x, x ∈ u525.1 → x ∈ u547.1) b200 mt538
  have et560 : u547.2 b200 = .inl (cy 0, 8, .inl (fun _ => zI 0)) := (hpu547 b200 (fun h => (fun h9 => da_b200 h9.symm) h)).trans et538
  have mt561 : b228 ∈ u547.1 := (fun x hx => by rw [hu547]; exact hx : ∀ x, x ∈ u525.1 → x ∈ u547.1) b228 mt539
  have et561 : u547.2 b228 = .inl (cy 0, 8, .inl (fun _ => zI 0)) := (hpu547 b228 (fun h => (fun h9 => da_b228 h9.symm) h)).trans et539
  have mt562 : b258 ∈ u547.1 := (fun x hx => by rw [hu547]; exact hx : ∀ x, x ∈ u525.1 → x ∈ u547.1) b258 mt540
  have et562 : u547.2 b258 = .inl (cy 0, 8, .inl (fun _ => zI 0)) := (hpu547 b258 (fun h => (fun h9 => da_b258 h9.symm) h)).trans et540
  have mt563 : b290 ∈ u547.1 := (fun x hx => by rw [hu547]; exact hx : ∀ x, x ∈ u525.1 → x ∈ u547.1) b290 mt541
  have et563 : u547.2 b290 = .inl (cy 0, 8, .inl (fun _ => zI 0)) := (hpu547 b290 (fun h => (fun h9 => da_b290 h9.symm) h)).trans et541
  have mt564 : b324 ∈ u547.1 := (fun x hx => by rw [hu547]; exact hx : ∀ x, x ∈ u525.1 → x ∈ u547.1) b324 mt542
  have et564 : u547.2 b324 = .inl (cy 0, 60, .inl (fun _ => zI 0)) := (hpu547 b324 (fun h => (fun h9 => da_b324 h9.symm) h)).trans et542
  have mt565 : b360 ∈ u547.1 := (fun x hx => by rw [hu547]; exact hx : ∀ x, x ∈ u525.1 → x ∈ u547.1) b360 mt543
  have et565 : u547.2 b360 = .inl (cy 0, 6, .inl (fun _ => zI 0)) := (hpu547 b360 (fun h => (fun h9 => da_b360 h9.symm) h)).trans et543
  have mt566 : b398 ∈ u547.1 := (fun x hx => by rw [hu547]; exact hx : ∀ x, x ∈ u525.1 → x ∈ u547.1) b398 mt544
  have et566 : u547.2 b398 = .inl (cy 0, 40, .inl (fun _ => zI 0)) := (hpu547 b398 (fun h => (fun h9 => da_b398 h9.symm) h)).trans et544
  have mt567 : b438 ∈ u547.1 := (fun x hx => by rw [hu547]; exact hx : ∀ x, x ∈ u525.1 → x ∈ u547.1) b438 mt545
  have et567 : u547.2 b438 = .inl (cy 2, 16, .inl (fun _ => zI 0)) := (hpu547 b438 (fun h => (fun h9 => da_b438 h9.symm) h)).trans et545
  have mt568 : b480 ∈ u547.1 := (fun x hx => by rw [hu547]; exact hx : ∀ x, x ∈ u525.1 → x ∈ u547.1) b480 mt546
  have et568 : u547.2 b480 = .inl (cy 0, 10, .inl (fun _ => zI 0)) := (hpu547 b480 (fun h => (fun h9 => da_b480 h9.symm) h)).trans et546
  have mt569 : b524 ∈ u547.1 := (fun x hx => by rw [hu547]; exact hx : ∀ x, x ∈ u525.1 → x ∈ u547.1) b524 mb524
  have et569 : u547.2 b524 = .inl (cy 0, 10, .inl (fun _ => zI 0)) := (hpu547 b524 (fun h => (fun h9 => da_b524 h9.symm) h)).trans hEb524
  have hLu547 : u547.1 = (((((((((((((((((((((u.1 ++ [b1]) ++ [b7]) ++ [b15]) ++ [b35]) ++ [b47]) ++ [b61]) ++ [b77]) ++ [b95]) ++ [b115]) ++ [b137]) ++ [b161]) ++ [b200]) ++ [b228]) ++ [b258]) ++ [b290]) ++ [b324]) ++ [b360]) ++ [b398]) ++ [b438]) ++ [b480]) ++ [b524]) := by rw [hu547, hLu525]
  have hMu547 : ∀ x, x ∈ u.1 → x ∈ u547.1 := fun x hx => by rw [hu547]; exact hMu525 x hx
  have hOu547 : ∀ x, x ∈ u.1 → x ≠ a → u547.2 x = u.2 x := fun x hx ne => (hpu547 x ne).trans (hOu525 x hx ne)
  refine lv_aload_n hx hb dX12_init_189 rfl (lv_at hl 0 rfl) ?_
  refine z_bipush hx hb dX12_init_190 (by decide) ?_
  refine p_newI (z := 10) (M := 10) hx hb (hts (.arrayClass .int) (List.mem_cons_of_mem _ (List.mem_append_left _ (List.mem_append_left _ (List.mem_of_getElem? (i := 5) rfl))))) hI hG hS (by omega) (by omega) (by omega) (Nat.le_of_ble_eq_true rfl) (Nat.le_of_ble_eq_true rfl) dX12_init_192 (fun b570 u571 H hu571 hEb570 hpu571 hnb570 hG hS => ?_)
  have hEb570 : u571.2 b570 = .inl (cy 0, 10, .inl (fun _ => zI 0)) := hEb570
  have fb570 : b570 ∉ (((((((((((((((((((((u.1 ++ [b1]) ++ [b7]) ++ [b15]) ++ [b35]) ++ [b47]) ++ [b61]) ++ [b77]) ++ [b95]) ++ [b115]) ++ [b137]) ++ [b161]) ++ [b200]) ++ [b228]) ++ [b258]) ++ [b290]) ++ [b324]) ++ [b360]) ++ [b398]) ++ [b438]) ++ [b480]) ++ [b524]) := by rw [← hLu547]; exact hnb570
  have hLu571 : u571.1 = ((((((((((((((((((((((u.1 ++ [b1]) ++ [b7]) ++ [b15]) ++ [b35]) ++ [b47]) ++ [b61]) ++ [b77]) ++ [b95]) ++ [b115]) ++ [b137]) ++ [b161]) ++ [b200]) ++ [b228]) ++ [b258]) ++ [b290]) ++ [b324]) ++ [b360]) ++ [b398]) ++ [b438]) ++ [b480]) ++ [b524]) ++ [b570]) := by rw [hu571, hLu547]
  have hMu571 : ∀ x, x ∈ u.1 → x ∈ u571.1 := fun x hx => by rw [hu571]; exact List.mem_append_left _ (hMu547 x hx)
  have hOu571 : ∀ x, x ∈ u.1 → x ≠ a → u571.2 x = u.2 x := fun x hx ne => (hpu571 x (hMu547 x hx)).trans (hOu547 x hx ne)
  have da_b570 : a ≠ b570 := fun h => hnb570 (h ▸ mt548)
  have db1_b570 : b1 ≠ b570 := fun h => hnb570 (h ▸ mt549)
  have db7_b570 : b7 ≠ b570 := fun h => hnb570 (h ▸ mt550)
  have db15_b570 : b15 ≠ b570 := fun h => hnb570 (h ▸ mt551)
  have db35_b570 : b35 ≠ b570 := fun h => hnb570 (h ▸ mt552)
  have db47_b570 : b47 ≠ b570 := fun h => hnb570 (h ▸ mt553)
  have db61_b570 : b61 ≠ b570 := fun h => hnb570 (h ▸ mt554)
  have db77_b570 : b77 ≠ b570 := fun h => hnb570 (h ▸ mt555)
  have db95_b570 : b95 ≠ b570 := fun h => hnb570 (h ▸ mt556)
  have db115_b570 : b115 ≠ b570 := fun h => hnb570 (h ▸ mt557)
  have db137_b570 : b137 ≠ b570 := fun h => hnb570 (h ▸ mt558)
  have db161_b570 : b161 ≠ b570 := fun h => hnb570 (h ▸ mt559)
  have db200_b570 : b200 ≠ b570 := fun h => hnb570 (h ▸ mt560)
  have db228_b570 : b228 ≠ b570 := fun h => hnb570 (h ▸ mt561)
  have db258_b570 : b258 ≠ b570 := fun h => hnb570 (h ▸ mt562)
  have db290_b570 : b290 ≠ b570 := fun h => hnb570 (h ▸ mt563)
  have db324_b570 : b324 ≠ b570 := fun h => hnb570 (h ▸ mt564)
  have db360_b570 : b360 ≠ b570 := fun h => hnb570 (h ▸ mt565)
  have db398_b570 : b398 ≠ b570 := fun h => hnb570 (h ▸ mt566)
  have db438_b570 : b438 ≠ b570 := fun h => hnb570 (h ▸ mt567)
  have db480_b570 : b480 ≠ b570 := fun h => hnb570 (h ▸ mt568)
  have db524_b570 : b524 ≠ b570 := fun h => hnb570 (h ▸ mt569)
  have mt572 : a ∈ u571.1 := (fun x hx => by rw [hu571]; exact List.mem_append_left _ hx : ∀ x, x ∈ u547.1 → x ∈ u571.1) a mt548
  have et572 : u571.2 a = .inr (11, (.int (zI 0) :: .ref b1 :: .ref b7 :: .ref b15 :: .int (zI 5) :: .int (zI 20) :: .int (zI 0) :: .ref b35 :: .ref b47 :: .ref b61 :: .ref b77 :: .ref b95 :: .ref b115 :: .ref b137 :: .ref b161 :: .int (zI ((-1))) :: .int (zI 0) :: .ref b200 :: .ref b228 :: .ref b258 :: .ref b290 :: .int (zI 0) :: .ref b324 :: .int (zI 0) :: .ref b360 :: .int (zI 0) :: .ref b398 :: .ref b438 :: .ref b480 :: .ref b524 :: .null :: .null :: .null :: .null :: .null :: .null :: .null :: .null :: .null :: .null :: .null :: .null :: [])) := (hpu571 a mt548).trans hEu547
  have mt573 : b1 ∈ u571.1 := (fun x hx => by rw [hu571]; exact List.mem_append_left _ hx : ∀ x, x ∈ u547.1 → x ∈ u571.1) b1 mt549
  have et573 : u571.2 b1 = .inl (cy 2, 288, .inl (fun _ => zI 0)) := (hpu571 b1 mt549).trans et549
  have mt574 : b7 ∈ u571.1 := (fun x hx => by rw [hu571]; exact List.mem_append_left _ hx : ∀ x, x ∈ u547.1 → x ∈ u571.1) b7 mt550
  have et574 : u571.2 b7 = .inl (cy 0, 36, .inl (fun _ => zI 0)) := (hpu571 b7 mt550).trans et550
  have mt575 : b15 ∈ u571.1 := (fun x hx => by rw [hu571]; exact List.mem_append_left _ hx : ∀ x, x ∈ u547.1 → x ∈ u571.1) b15 mt551
  have et575 : u571.2 b15 = .inl (cy 0, 36, .inl (fun _ => zI 0)) := (hpu571 b15 mt551).trans et551
  have mt576 : b35 ∈ u571.1 := (fun x hx => by rw [hu571]; exact List.mem_append_left _ hx : ∀ x, x ∈ u547.1 → x ∈ u571.1) b35 mt552
  have et576 : u571.2 b35 = .inl (cy 0, 10, .inl (fun _ => zI 0)) := (hpu571 b35 mt552).trans et552
  have mt577 : b47 ∈ u571.1 := (fun x hx => by rw [hu571]; exact List.mem_append_left _ hx : ∀ x, x ∈ u547.1 → x ∈ u571.1) b47 mt553
  have et577 : u571.2 b47 = .inl (cy 0, 10, .inl (fun _ => zI 0)) := (hpu571 b47 mt553).trans et553
  have mt578 : b61 ∈ u571.1 := (fun x hx => by rw [hu571]; exact List.mem_append_left _ hx : ∀ x, x ∈ u547.1 → x ∈ u571.1) b61 mt554
  have et578 : u571.2 b61 = .inl (cy 0, 10, .inl (fun _ => zI 0)) := (hpu571 b61 mt554).trans et554
  have mt579 : b77 ∈ u571.1 := (fun x hx => by rw [hu571]; exact List.mem_append_left _ hx : ∀ x, x ∈ u547.1 → x ∈ u571.1) b77 mt555
  have et579 : u571.2 b77 = .inl (cy 0, 10, .inl (fun _ => zI 0)) := (hpu571 b77 mt555).trans et555
  have mt580 : b95 ∈ u571.1 := (fun x hx => by rw [hu571]; exact List.mem_append_left _ hx : ∀ x, x ∈ u547.1 → x ∈ u571.1) b95 mt556
  have et580 : u571.2 b95 = .inl (cy 0, 202, .inl (fun _ => zI 0)) := (hpu571 b95 mt556).trans et556
  have mt581 : b115 ∈ u571.1 := (fun x hx => by rw [hu571]; exact List.mem_append_left _ hx : ∀ x, x ∈ u547.1 → x ∈ u571.1) b115 mt557
  have et581 : u571.2 b115 = .inl (cy 0, 202, .inl (fun _ => zI 0)) := (hpu571 b115 mt557).trans et557
  have mt582 : b137 ∈ u571.1 := (fun x hx => by rw [hu571]; exact List.mem_append_left _ hx : ∀ x, x ∈ u547.1 → x ∈ u571.1) b137 mt558
  have et582 : u571.2 b137 = .inl (cy 0, 2, .inl (fun _ => zI 0)) := (hpu571 b137 mt558).trans et558
  have mt583 : b161 ∈ u571.1 := (fun x hx => by rw [hu571]; exact List.mem_append_left _ hx : ∀ x, x ∈ u547.1 → x ∈ u571.1) b161 mt559
  have et583 : u571.2 b161 = .inl (cy 0, 2, .inl (fun _ => zI 0)) := (hpu571 b161 mt559).trans et559
  have mt584 : b200 ∈ u571.1 := (fun x hx => by rw [hu571]; exact List.mem_append_left _ hx : ∀ x, x ∈ u547.1 → x ∈ u571.1) b200 mt560
  have et584 : u571.2 b200 = .inl (cy 0, 8, .inl (fun _ => zI 0)) := (hpu571 b200 mt560).trans et560
  have mt585 : b228 ∈ u571.1 := (fun x hx => by rw [hu571]; exact List.mem_append_left _ hx : ∀ x, x ∈ u547.1 → x ∈ u571.1) b228 mt561
  have et585 : u571.2 b228 = .inl (cy 0, 8, .inl (fun _ => zI 0)) := (hpu571 b228 mt561).trans et561
  have mt586 : b258 ∈ u571.1 := (fun x hx => by rw [hu571]; exact List.mem_append_left _ hx : ∀ x, x ∈ u547.1 → x ∈ u571.1) b258 mt562
  have et586 : u571.2 b258 = .inl (cy 0, 8, .inl (fun _ => zI 0)) := (hpu571 b258 mt562).trans et562
  have mt587 : b290 ∈ u571.1 := (fun x hx => by rw [hu571]; exact List.mem_append_left _ hx : ∀ x, x ∈ u547.1 → x ∈ u571.1) b290 mt563
  have et587 : u571.2 b290 = .inl (cy 0, 8, .inl (fun _ => zI 0)) := (hpu571 b290 mt563).trans et563
  have mt588 : b324 ∈ u571.1 := (fun x hx => by rw [hu571]; exact List.mem_append_left _ hx : ∀ x, x ∈ u547.1 → x ∈ u571.1) b324 mt564
  have et588 : u571.2 b324 = .inl (cy 0, 60, .inl (fun _ => zI 0)) := (hpu571 b324 mt564).trans et564
  have mt589 : b360 ∈ u571.1 := (fun x hx => by rw [hu571]; exact List.mem_append_left _ hx : ∀ x, x ∈ u547.1 → x ∈ u571.1) b360 mt565
  have et589 : u571.2 b360 = .inl (cy 0, 6, .inl (fun _ => zI 0)) := (hpu571 b360 mt565).trans et565
  have mt590 : b398 ∈ u571.1 := (fun x hx => by rw [hu571]; exact List.mem_append_left _ hx : ∀ x, x ∈ u547.1 → x ∈ u571.1) b398 mt566
  have et590 : u571.2 b398 = .inl (cy 0, 40, .inl (fun _ => zI 0)) := (hpu571 b398 mt566).trans et566
  have mt591 : b438 ∈ u571.1 := (fun x hx => by rw [hu571]; exact List.mem_append_left _ hx : ∀ x, x ∈ u547.1 → x ∈ u571.1) b438 mt567
  have et591 : u571.2 b438 = .inl (cy 2, 16, .inl (fun _ => zI 0)) := (hpu571 b438 mt567).trans et567
  have mt592 : b480 ∈ u571.1 := (fun x hx => by rw [hu571]; exact List.mem_append_left _ hx : ∀ x, x ∈ u547.1 → x ∈ u571.1) b480 mt568
  have et592 : u571.2 b480 = .inl (cy 0, 10, .inl (fun _ => zI 0)) := (hpu571 b480 mt568).trans et568
  have mt593 : b524 ∈ u571.1 := (fun x hx => by rw [hu571]; exact List.mem_append_left _ hx : ∀ x, x ∈ u547.1 → x ∈ u571.1) b524 mt569
  have et593 : u571.2 b524 = .inl (cy 0, 10, .inl (fun _ => zI 0)) := (hpu571 b524 mt569).trans et569
  have mb570 : b570 ∈ u571.1 := by rw [hu571]; exact List.mem_append_right _ List.mem_cons_self
  obtain ⟨k9, hk9⟩ := p_get D u571 mt572
  refine va_putF (C := RX12) (T := TX12) (N := 42) (ci := 11) (ty := tyX12 30) hx hb hts (fun _ h => (List.mem_cons_of_mem _ (List.mem_append_right _ h))) tyX12 tyX12_ok nmX12 hown hI.1 hG.1 hG.2 hS k9 (hk9.trans (by rw [et572])) rfl 30 (by decide) (hts (.fieldLink RX12 84 "StraitSwimModel" "canOn" "[I") (List.mem_cons_of_mem _ (List.mem_append_left _ (List.mem_append_right _ (List.mem_of_getElem? (i := 5) rfl))))) (fun _ h9 => h9) rfl hin2 rfl (tyX12_ok 30 (by decide)) rfl rfl (Nat.le_of_ble_eq_true rfl) dX12_init_194 (fun H locs hP hD hS => ?_)
  obtain ⟨u594, hu594, hEu594, hpu594, hG⟩ := p_set (e := .inr (11, (.int (zI 0) :: .ref b1 :: .ref b7 :: .ref b15 :: .int (zI 5) :: .int (zI 20) :: .int (zI 0) :: .ref b35 :: .ref b47 :: .ref b61 :: .ref b77 :: .ref b95 :: .ref b115 :: .ref b137 :: .ref b161 :: .int (zI ((-1))) :: .int (zI 0) :: .ref b200 :: .ref b228 :: .ref b258 :: .ref b290 :: .int (zI 0) :: .ref b324 :: .int (zI 0) :: .ref b360 :: .int (zI 0) :: .ref b398 :: .ref b438 :: .ref b480 :: .ref b524 :: .ref b570 :: .null :: .null :: .null :: .null :: .null :: .null :: .null :: .null :: .null :: .null :: .null :: []))) hG mt572 hk9 hP hD
  have mt595 : a ∈ u594.1 := (fun x hx => by rw [hu594]; exact hx : ∀ x, x ∈ u571.1 → x ∈ u594.1) a mt572
  have mt596 : b1 ∈ u594.1 := (fun x hx => by rw [hu594]; exact hx : ∀ x, x ∈ u571.1 → x ∈ u594.1) b1 mt573
  have et596 : u594.2 b1 = .inl (cy 2, 288, .inl (fun _ => zI 0)) := (hpu594 b1 (fun h => (fun h9 => da_b1 h9.symm) h)).trans et573
  have mt597 : b7 ∈ u594.1 := (fun x hx => by rw [hu594]; exact hx : ∀ x, x ∈ u571.1 → x ∈ u594.1) b7 mt574
  have et597 : u594.2 b7 = .inl (cy 0, 36, .inl (fun _ => zI 0)) := (hpu594 b7 (fun h => (fun h9 => da_b7 h9.symm) h)).trans et574
  have mt598 : b15 ∈ u594.1 := (fun x hx => by rw [hu594]; exact hx : ∀ x, x ∈ u571.1 → x ∈ u594.1) b15 mt575
  have et598 : u594.2 b15 = .inl (cy 0, 36, .inl (fun _ => zI 0)) := (hpu594 b15 (fun h => (fun h9 => da_b15 h9.symm) h)).trans et575
  have mt599 : b35 ∈ u594.1 := (fun x hx => by rw [hu594]; exact hx : ∀ x, x ∈ u571.1 → x ∈ u594.1) b35 mt576
  have et599 : u594.2 b35 = .inl (cy 0, 10, .inl (fun _ => zI 0)) := (hpu594 b35 (fun h => (fun h9 => da_b35 h9.symm) h)).trans et576
  have mt600 : b47 ∈ u594.1 := (fun x hx => by rw [hu594]; exact hx : ∀ x, x ∈ u571.1 → x ∈ u594.1) b47 mt577
  have et600 : u594.2 b47 = .inl (cy 0, 10, .inl (fun _ => zI 0)) := (hpu594 b47 (fun h => (fun h9 => da_b47 h9.symm) h)).trans et577
  have mt601 : b61 ∈ u594.1 := (fun x hx => by rw [hu594]; exact hx : ∀ x, x ∈ u571.1 → x ∈ u594.1) b61 mt578
  have et601 : u594.2 b61 = .inl (cy 0, 10, .inl (fun _ => zI 0)) := (hpu594 b61 (fun h => (fun h9 => da_b61 h9.symm) h)).trans et578
  have mt602 : b77 ∈ u594.1 := (fun x hx => by rw [hu594]; exact hx : ∀ x, x ∈ u571.1 → x ∈ u594.1) b77 mt579
  have et602 : u594.2 b77 = .inl (cy 0, 10, .inl (fun _ => zI 0)) := (hpu594 b77 (fun h => (fun h9 => da_b77 h9.symm) h)).trans et579
  have mt603 : b95 ∈ u594.1 := (fun x hx => by rw [hu594]; exact hx : ∀ x, x ∈ u571.1 → x ∈ u594.1) b95 mt580
  have et603 : u594.2 b95 = .inl (cy 0, 202, .inl (fun _ => zI 0)) := (hpu594 b95 (fun h => (fun h9 => da_b95 h9.symm) h)).trans et580
  have mt604 : b115 ∈ u594.1 := (fun x hx => by rw [hu594]; exact hx : ∀ x, x ∈ u571.1 → x ∈ u594.1) b115 mt581
  have et604 : u594.2 b115 = .inl (cy 0, 202, .inl (fun _ => zI 0)) := (hpu594 b115 (fun h => (fun h9 => da_b115 h9.symm) h)).trans et581
  have mt605 : b137 ∈ u594.1 := (fun x hx => by rw [hu594]; exact hx : ∀ x, x ∈ u571.1 → x ∈ u594.1) b137 mt582
  have et605 : u594.2 b137 = .inl (cy 0, 2, .inl (fun _ => zI 0)) := (hpu594 b137 (fun h => (fun h9 => da_b137 h9.symm) h)).trans et582
  have mt606 : b161 ∈ u594.1 := (fun x hx => by rw [hu594]; exact hx : ∀ x, x ∈ u571.1 → x ∈ u594.1) b161 mt583
  have et606 : u594.2 b161 = .inl (cy 0, 2, .inl (fun _ => zI 0)) := (hpu594 b161 (fun h => (fun h9 => da_b161 h9.symm) h)).trans et583
  have mt607 : b200 ∈ u594.1 := (fun x hx => by rw [hu594]; exact hx : ∀ x, x ∈ u571.1 → x ∈ u594.1) b200 mt584
  have et607 : u594.2 b200 = .inl (cy 0, 8, .inl (fun _ => zI 0)) := (hpu594 b200 (fun h => (fun h9 => da_b200 h9.symm) h)).trans et584
  have mt608 : b228 ∈ u594.1 := (fun x hx => by rw [hu594]; exact hx : ∀ x, x ∈ u571.1 → x ∈ u594.1) b228 mt585
  have et608 : u594.2 b228 = .inl (cy 0, 8, .inl (fun _ => zI 0)) := (hpu594 b228 (fun h => (fun h9 => da_b228 h9.symm) h)).trans et585
  have mt609 : b258 ∈ u594.1 := (fun x hx => by rw [hu594]; exact hx : ∀ x, x ∈ u571.1 → x ∈ u594.1) b258 mt586
  have et609 : u594.2 b258 = .inl (cy 0, 8, .inl (fun _ => zI 0)) := (hpu594 b258 (fun h => (fun h9 => da_b258 h9.symm) h)).trans et586
  have mt610 : b290 ∈ u594.1 := (fun x hx => by rw [hu594]; exact hx : ∀ x, x ∈ u571.1 → x ∈ u594.1) b290 mt587
  have et610 : u594.2 b290 = .inl (cy 0, 8, .inl (fun _ => zI 0)) := (hpu594 b290 (fun h => (fun h9 => da_b290 h9.symm) h)).trans et587
  have mt611 : b324 ∈ u594.1 := (fun x hx => by rw [hu594]; exact hx : ∀ x, x ∈ u571.1 → x ∈ u594.1) b324 mt588
  have et611 : u594.2 b324 = .inl (cy 0, 60, .inl (fun _ => zI 0)) := (hpu594 b324 (fun h => (fun h9 => da_b324 h9.symm) h)).trans et588
  have mt612 : b360 ∈ u594.1 := (fun x hx => by rw [hu594]; exact hx : ∀ x, x ∈ u571.1 → x ∈ u594.1) b360 mt589
  have et612 : u594.2 b360 = .inl (cy 0, 6, .inl (fun _ => zI 0)) := (hpu594 b360 (fun h => (fun h9 => da_b360 h9.symm) h)).trans et589
  have mt613 : b398 ∈ u594.1 := (fun x hx => by rw [hu594]; exact hx : ∀ x, x ∈ u571.1 → x ∈ u594.1) b398 mt590
  have et613 : u594.2 b398 = .inl (cy 0, 40, .inl (fun _ => zI 0)) := (hpu594 b398 (fun h => (fun h9 => da_b398 h9.symm) h)).trans et590
  have mt614 : b438 ∈ u594.1 := (fun x hx => by rw [hu594]; exact hx : ∀ x, x ∈ u571.1 → x ∈ u594.1) b438 mt591
  have et614 : u594.2 b438 = .inl (cy 2, 16, .inl (fun _ => zI 0)) := (hpu594 b438 (fun h => (fun h9 => da_b438 h9.symm) h)).trans et591
  have mt615 : b480 ∈ u594.1 := (fun x hx => by rw [hu594]; exact hx : ∀ x, x ∈ u571.1 → x ∈ u594.1) b480 mt592
  have et615 : u594.2 b480 = .inl (cy 0, 10, .inl (fun _ => zI 0)) := (hpu594 b480 (fun h => (fun h9 => da_b480 h9.symm) h)).trans et592
  have mt616 : b524 ∈ u594.1 := (fun x hx => by rw [hu594]; exact hx : ∀ x, x ∈ u571.1 → x ∈ u594.1) b524 mt593
  have et616 : u594.2 b524 = .inl (cy 0, 10, .inl (fun _ => zI 0)) := (hpu594 b524 (fun h => (fun h9 => da_b524 h9.symm) h)).trans et593
  have mt617 : b570 ∈ u594.1 := (fun x hx => by rw [hu594]; exact hx : ∀ x, x ∈ u571.1 → x ∈ u594.1) b570 mb570
  have et617 : u594.2 b570 = .inl (cy 0, 10, .inl (fun _ => zI 0)) := (hpu594 b570 (fun h => (fun h9 => da_b570 h9.symm) h)).trans hEb570
  have hLu594 : u594.1 = ((((((((((((((((((((((u.1 ++ [b1]) ++ [b7]) ++ [b15]) ++ [b35]) ++ [b47]) ++ [b61]) ++ [b77]) ++ [b95]) ++ [b115]) ++ [b137]) ++ [b161]) ++ [b200]) ++ [b228]) ++ [b258]) ++ [b290]) ++ [b324]) ++ [b360]) ++ [b398]) ++ [b438]) ++ [b480]) ++ [b524]) ++ [b570]) := by rw [hu594, hLu571]
  have hMu594 : ∀ x, x ∈ u.1 → x ∈ u594.1 := fun x hx => by rw [hu594]; exact hMu571 x hx
  have hOu594 : ∀ x, x ∈ u.1 → x ≠ a → u594.2 x = u.2 x := fun x hx ne => (hpu594 x ne).trans (hOu571 x hx ne)
  refine lv_aload_n hx hb dX12_init_197 rfl (lv_at hl 0 rfl) ?_
  refine z_bipush hx hb dX12_init_198 (by decide) ?_
  refine p_newI (z := 16) (M := 16) hx hb (hts (.arrayClass .int) (List.mem_cons_of_mem _ (List.mem_append_left _ (List.mem_append_left _ (List.mem_of_getElem? (i := 5) rfl))))) hI hG hS (by omega) (by omega) (by omega) (Nat.le_of_ble_eq_true rfl) (Nat.le_of_ble_eq_true rfl) dX12_init_200 (fun b618 u619 H hu619 hEb618 hpu619 hnb618 hG hS => ?_)
  have hEb618 : u619.2 b618 = .inl (cy 0, 16, .inl (fun _ => zI 0)) := hEb618
  have fb618 : b618 ∉ ((((((((((((((((((((((u.1 ++ [b1]) ++ [b7]) ++ [b15]) ++ [b35]) ++ [b47]) ++ [b61]) ++ [b77]) ++ [b95]) ++ [b115]) ++ [b137]) ++ [b161]) ++ [b200]) ++ [b228]) ++ [b258]) ++ [b290]) ++ [b324]) ++ [b360]) ++ [b398]) ++ [b438]) ++ [b480]) ++ [b524]) ++ [b570]) := by rw [← hLu594]; exact hnb618
  have hLu619 : u619.1 = (((((((((((((((((((((((u.1 ++ [b1]) ++ [b7]) ++ [b15]) ++ [b35]) ++ [b47]) ++ [b61]) ++ [b77]) ++ [b95]) ++ [b115]) ++ [b137]) ++ [b161]) ++ [b200]) ++ [b228]) ++ [b258]) ++ [b290]) ++ [b324]) ++ [b360]) ++ [b398]) ++ [b438]) ++ [b480]) ++ [b524]) ++ [b570]) ++ [b618]) := by rw [hu619, hLu594]
  have hMu619 : ∀ x, x ∈ u.1 → x ∈ u619.1 := fun x hx => by rw [hu619]; exact List.mem_append_left _ (hMu594 x hx)
  have hOu619 : ∀ x, x ∈ u.1 → x ≠ a → u619.2 x = u.2 x := fun x hx ne => (hpu619 x (hMu594 x hx)).trans (hOu594 x hx ne)
  have da_b618 : a ≠ b618 := fun h => hnb618 (h ▸ mt595)
  have db1_b618 : b1 ≠ b618 := fun h => hnb618 (h ▸ mt596)
  have db7_b618 : b7 ≠ b618 := fun h => hnb618 (h ▸ mt597)
  have db15_b618 : b15 ≠ b618 := fun h => hnb618 (h ▸ mt598)
  have db35_b618 : b35 ≠ b618 := fun h => hnb618 (h ▸ mt599)
  have db47_b618 : b47 ≠ b618 := fun h => hnb618 (h ▸ mt600)
  have db61_b618 : b61 ≠ b618 := fun h => hnb618 (h ▸ mt601)
  have db77_b618 : b77 ≠ b618 := fun h => hnb618 (h ▸ mt602)
  have db95_b618 : b95 ≠ b618 := fun h => hnb618 (h ▸ mt603)
  have db115_b618 : b115 ≠ b618 := fun h => hnb618 (h ▸ mt604)
  have db137_b618 : b137 ≠ b618 := fun h => hnb618 (h ▸ mt605)
  have db161_b618 : b161 ≠ b618 := fun h => hnb618 (h ▸ mt606)
  have db200_b618 : b200 ≠ b618 := fun h => hnb618 (h ▸ mt607)
  have db228_b618 : b228 ≠ b618 := fun h => hnb618 (h ▸ mt608)
  have db258_b618 : b258 ≠ b618 := fun h => hnb618 (h ▸ mt609)
  have db290_b618 : b290 ≠ b618 := fun h => hnb618 (h ▸ mt610)
  have db324_b618 : b324 ≠ b618 := fun h => hnb618 (h ▸ mt611)
  have db360_b618 : b360 ≠ b618 := fun h => hnb618 (h ▸ mt612)
  have db398_b618 : b398 ≠ b618 := fun h => hnb618 (h ▸ mt613)
  have db438_b618 : b438 ≠ b618 := fun h => hnb618 (h ▸ mt614)
  have db480_b618 : b480 ≠ b618 := fun h => hnb618 (h ▸ mt615)
  have db524_b618 : b524 ≠ b618 := fun h => hnb618 (h ▸ mt616)
  have db570_b618 : b570 ≠ b618 := fun h => hnb618 (h ▸ mt617)
  have mt620 : a ∈ u619.1 := (fun x hx => by rw [hu619]; exact List.mem_append_left _ hx : ∀ x, x ∈ u594.1 → x ∈ u619.1) a mt595
  have et620 : u619.2 a = .inr (11, (.int (zI 0) :: .ref b1 :: .ref b7 :: .ref b15 :: .int (zI 5) :: .int (zI 20) :: .int (zI 0) :: .ref b35 :: .ref b47 :: .ref b61 :: .ref b77 :: .ref b95 :: .ref b115 :: .ref b137 :: .ref b161 :: .int (zI ((-1))) :: .int (zI 0) :: .ref b200 :: .ref b228 :: .ref b258 :: .ref b290 :: .int (zI 0) :: .ref b324 :: .int (zI 0) :: .ref b360 :: .int (zI 0) :: .ref b398 :: .ref b438 :: .ref b480 :: .ref b524 :: .ref b570 :: .null :: .null :: .null :: .null :: .null :: .null :: .null :: .null :: .null :: .null :: .null :: [])) := (hpu619 a mt595).trans hEu594
  have mt621 : b1 ∈ u619.1 := (fun x hx => by rw [hu619]; exact List.mem_append_left _ hx : ∀ x, x ∈ u594.1 → x ∈ u619.1) b1 mt596
  have et621 : u619.2 b1 = .inl (cy 2, 288, .inl (fun _ => zI 0)) := (hpu619 b1 mt596).trans et596
  have mt622 : b7 ∈ u619.1 := (fun x hx => by rw [hu619]; exact List.mem_append_left _ hx : ∀ x, x ∈ u594.1 → x ∈ u619.1) b7 mt597
  have et622 : u619.2 b7 = .inl (cy 0, 36, .inl (fun _ => zI 0)) := (hpu619 b7 mt597).trans et597
  have mt623 : b15 ∈ u619.1 := (fun x hx => by rw [hu619]; exact List.mem_append_left _ hx : ∀ x, x ∈ u594.1 → x ∈ u619.1) b15 mt598
  have et623 : u619.2 b15 = .inl (cy 0, 36, .inl (fun _ => zI 0)) := (hpu619 b15 mt598).trans et598
  have mt624 : b35 ∈ u619.1 := (fun x hx => by rw [hu619]; exact List.mem_append_left _ hx : ∀ x, x ∈ u594.1 → x ∈ u619.1) b35 mt599
  have et624 : u619.2 b35 = .inl (cy 0, 10, .inl (fun _ => zI 0)) := (hpu619 b35 mt599).trans et599
  have mt625 : b47 ∈ u619.1 := (fun x hx => by rw [hu619]; exact List.mem_append_left _ hx : ∀ x, x ∈ u594.1 → x ∈ u619.1) b47 mt600
  have et625 : u619.2 b47 = .inl (cy 0, 10, .inl (fun _ => zI 0)) := (hpu619 b47 mt600).trans et600
  have mt626 : b61 ∈ u619.1 := (fun x hx => by rw [hu619]; exact List.mem_append_left _ hx : ∀ x, x ∈ u594.1 → x ∈ u619.1) b61 mt601
  have et626 : u619.2 b61 = .inl (cy 0, 10, .inl (fun _ => zI 0)) := (hpu619 b61 mt601).trans et601
  have mt627 : b77 ∈ u619.1 := (fun x hx => by rw [hu619]; exact List.mem_append_left _ hx : ∀ x, x ∈ u594.1 → x ∈ u619.1) b77 mt602
  have et627 : u619.2 b77 = .inl (cy 0, 10, .inl (fun _ => zI 0)) := (hpu619 b77 mt602).trans et602
  have mt628 : b95 ∈ u619.1 := (fun x hx => by rw [hu619]; exact List.mem_append_left _ hx : ∀ x, x ∈ u594.1 → x ∈ u619.1) b95 mt603
  have et628 : u619.2 b95 = .inl (cy 0, 202, .inl (fun _ => zI 0)) := (hpu619 b95 mt603).trans et603
  have mt629 : b115 ∈ u619.1 := (fun x hx => by rw [hu619]; exact List.mem_append_left _ hx : ∀ x, x ∈ u594.1 → x ∈ u619.1) b115 mt604
  have et629 : u619.2 b115 = .inl (cy 0, 202, .inl (fun _ => zI 0)) := (hpu619 b115 mt604).trans et604
  have mt630 : b137 ∈ u619.1 := (fun x hx => by rw [hu619]; exact List.mem_append_left _ hx : ∀ x, x ∈ u594.1 → x ∈ u619.1) b137 mt605
  have et630 : u619.2 b137 = .inl (cy 0, 2, .inl (fun _ => zI 0)) := (hpu619 b137 mt605).trans et605
  have mt631 : b161 ∈ u619.1 := (fun x hx => by rw [hu619]; exact List.mem_append_left _ hx : ∀ x, x ∈ u594.1 → x ∈ u619.1) b161 mt606
  have et631 : u619.2 b161 = .inl (cy 0, 2, .inl (fun _ => zI 0)) := (hpu619 b161 mt606).trans et606
  have mt632 : b200 ∈ u619.1 := (fun x hx => by rw [hu619]; exact List.mem_append_left _ hx : ∀ x, x ∈ u594.1 → x ∈ u619.1) b200 mt607
  have et632 : u619.2 b200 = .inl (cy 0, 8, .inl (fun _ => zI 0)) := (hpu619 b200 mt607).trans et607
  have mt633 : b228 ∈ u619.1 := (fun x hx => by rw [hu619]; exact List.mem_append_left _ hx : ∀ x, x ∈ u594.1 → x ∈ u619.1) b228 mt608
  have et633 : u619.2 b228 = .inl (cy 0, 8, .inl (fun _ => zI 0)) := (hpu619 b228 mt608).trans et608
  have mt634 : b258 ∈ u619.1 := (fun x hx => by rw [hu619]; exact List.mem_append_left _ hx : ∀ x, x ∈ u594.1 → x ∈ u619.1) b258 mt609
  have et634 : u619.2 b258 = .inl (cy 0, 8, .inl (fun _ => zI 0)) := (hpu619 b258 mt609).trans et609
  have mt635 : b290 ∈ u619.1 := (fun x hx => by rw [hu619]; exact List.mem_append_left _ hx : ∀ x, x ∈ u594.1 → x ∈ u619.1) b290 mt610
  have et635 : u619.2 b290 = .inl (cy 0, 8, .inl (fun _ => zI 0)) := (hpu619 b290 mt610).trans et610
  have mt636 : b324 ∈ u619.1 := (fun x hx => by rw [hu619]; exact List.mem_append_left _ hx : ∀ x, x ∈ u594.1 → x ∈ u619.1) b324 mt611
  have et636 : u619.2 b324 = .inl (cy 0, 60, .inl (fun _ => zI 0)) := (hpu619 b324 mt611).trans et611
  have mt637 : b360 ∈ u619.1 := (fun x hx => by rw [hu619]; exact List.mem_append_left _ hx : ∀ x, x ∈ u594.1 → x ∈ u619.1) b360 mt612
  have et637 : u619.2 b360 = .inl (cy 0, 6, .inl (fun _ => zI 0)) := (hpu619 b360 mt612).trans et612
  have mt638 : b398 ∈ u619.1 := (fun x hx => by rw [hu619]; exact List.mem_append_left _ hx : ∀ x, x ∈ u594.1 → x ∈ u619.1) b398 mt613
  have et638 : u619.2 b398 = .inl (cy 0, 40, .inl (fun _ => zI 0)) := (hpu619 b398 mt613).trans et613
  have mt639 : b438 ∈ u619.1 := (fun x hx => by rw [hu619]; exact List.mem_append_left _ hx : ∀ x, x ∈ u594.1 → x ∈ u619.1) b438 mt614
  have et639 : u619.2 b438 = .inl (cy 2, 16, .inl (fun _ => zI 0)) := (hpu619 b438 mt614).trans et614
  have mt640 : b480 ∈ u619.1 := (fun x hx => by rw [hu619]; exact List.mem_append_left _ hx : ∀ x, x ∈ u594.1 → x ∈ u619.1) b480 mt615
  have et640 : u619.2 b480 = .inl (cy 0, 10, .inl (fun _ => zI 0)) := (hpu619 b480 mt615).trans et615
  have mt641 : b524 ∈ u619.1 := (fun x hx => by rw [hu619]; exact List.mem_append_left _ hx : ∀ x, x ∈ u594.1 → x ∈ u619.1) b524 mt616
  have et641 : u619.2 b524 = .inl (cy 0, 10, .inl (fun _ => zI 0)) := (hpu619 b524 mt616).trans et616
  have mt642 : b570 ∈ u619.1 := (fun x hx => by rw [hu619]; exact List.mem_append_left _ hx : ∀ x, x ∈ u594.1 → x ∈ u619.1) b570 mt617
  have et642 : u619.2 b570 = .inl (cy 0, 10, .inl (fun _ => zI 0)) := (hpu619 b570 mt617).trans et617
  have mb618 : b618 ∈ u619.1 := by rw [hu619]; exact List.mem_append_right _ List.mem_cons_self
  obtain ⟨k9, hk9⟩ := p_get D u619 mt620
  refine va_putF (C := RX12) (T := TX12) (N := 42) (ci := 11) (ty := tyX12 31) hx hb hts (fun _ h => (List.mem_cons_of_mem _ (List.mem_append_right _ h))) tyX12 tyX12_ok nmX12 hown hI.1 hG.1 hG.2 hS k9 (hk9.trans (by rw [et620])) rfl 31 (by decide) (hts (.fieldLink RX12 87 "StraitSwimModel" "goer" "[I") (List.mem_cons_of_mem _ (List.mem_append_left _ (List.mem_append_right _ (List.mem_of_getElem? (i := 6) rfl))))) (fun _ h9 => h9) rfl hin2 rfl (tyX12_ok 31 (by decide)) rfl rfl (Nat.le_of_ble_eq_true rfl) dX12_init_202 (fun H locs hP hD hS => ?_)
  obtain ⟨u643, hu643, hEu643, hpu643, hG⟩ := p_set (e := .inr (11, (.int (zI 0) :: .ref b1 :: .ref b7 :: .ref b15 :: .int (zI 5) :: .int (zI 20) :: .int (zI 0) :: .ref b35 :: .ref b47 :: .ref b61 :: .ref b77 :: .ref b95 :: .ref b115 :: .ref b137 :: .ref b161 :: .int (zI ((-1))) :: .int (zI 0) :: .ref b200 :: .ref b228 :: .ref b258 :: .ref b290 :: .int (zI 0) :: .ref b324 :: .int (zI 0) :: .ref b360 :: .int (zI 0) :: .ref b398 :: .ref b438 :: .ref b480 :: .ref b524 :: .ref b570 :: .ref b618 :: .null :: .null :: .null :: .null :: .null :: .null :: .null :: .null :: .null :: .null :: []))) hG mt620 hk9 hP hD
  have mt644 : a ∈ u643.1 := (fun x hx => by rw [hu643]; exact hx : ∀ x, x ∈ u619.1 → x ∈ u643.1) a mt620
  have mt645 : b1 ∈ u643.1 := (fun x hx => by rw [hu643]; exact hx : ∀ x, x ∈ u619.1 → x ∈ u643.1) b1 mt621
  have et645 : u643.2 b1 = .inl (cy 2, 288, .inl (fun _ => zI 0)) := (hpu643 b1 (fun h => (fun h9 => da_b1 h9.symm) h)).trans et621
  have mt646 : b7 ∈ u643.1 := (fun x hx => by rw [hu643]; exact hx : ∀ x, x ∈ u619.1 → x ∈ u643.1) b7 mt622
  have et646 : u643.2 b7 = .inl (cy 0, 36, .inl (fun _ => zI 0)) := (hpu643 b7 (fun h => (fun h9 => da_b7 h9.symm) h)).trans et622
  have mt647 : b15 ∈ u643.1 := (fun x hx => by rw [hu643]; exact hx : ∀ x, x ∈ u619.1 → x ∈ u643.1) b15 mt623
  have et647 : u643.2 b15 = .inl (cy 0, 36, .inl (fun _ => zI 0)) := (hpu643 b15 (fun h => (fun h9 => da_b15 h9.symm) h)).trans et623
  have mt648 : b35 ∈ u643.1 := (fun x hx => by rw [hu643]; exact hx : ∀ x, x ∈ u619.1 → x ∈ u643.1) b35 mt624
  have et648 : u643.2 b35 = .inl (cy 0, 10, .inl (fun _ => zI 0)) := (hpu643 b35 (fun h => (fun h9 => da_b35 h9.symm) h)).trans et624
  have mt649 : b47 ∈ u643.1 := (fun x hx => by rw [hu643]; exact hx : ∀ x, x ∈ u619.1 → x ∈ u643.1) b47 mt625
  have et649 : u643.2 b47 = .inl (cy 0, 10, .inl (fun _ => zI 0)) := (hpu643 b47 (fun h => (fun h9 => da_b47 h9.symm) h)).trans et625
  have mt650 : b61 ∈ u643.1 := (fun x hx => by rw [hu643]; exact hx : ∀ x, x ∈ u619.1 → x ∈ u643.1) b61 mt626
  have et650 : u643.2 b61 = .inl (cy 0, 10, .inl (fun _ => zI 0)) := (hpu643 b61 (fun h => (fun h9 => da_b61 h9.symm) h)).trans et626
  have mt651 : b77 ∈ u643.1 := (fun x hx => by rw [hu643]; exact hx : ∀ x, x ∈ u619.1 → x ∈ u643.1) b77 mt627
  have et651 : u643.2 b77 = .inl (cy 0, 10, .inl (fun _ => zI 0)) := (hpu643 b77 (fun h => (fun h9 => da_b77 h9.symm) h)).trans et627
  have mt652 : b95 ∈ u643.1 := (fun x hx => by rw [hu643]; exact hx : ∀ x, x ∈ u619.1 → x ∈ u643.1) b95 mt628
  have et652 : u643.2 b95 = .inl (cy 0, 202, .inl (fun _ => zI 0)) := (hpu643 b95 (fun h => (fun h9 => da_b95 h9.symm) h)).trans et628
  have mt653 : b115 ∈ u643.1 := (fun x hx => by rw [hu643]; exact hx : ∀ x, x ∈ u619.1 → x ∈ u643.1) b115 mt629
  have et653 : u643.2 b115 = .inl (cy 0, 202, .inl (fun _ => zI 0)) := (hpu643 b115 (fun h => (fun h9 => da_b115 h9.symm) h)).trans et629
  have mt654 : b137 ∈ u643.1 := (fun x hx => by rw [hu643]; exact hx : ∀ x, x ∈ u619.1 → x ∈ u643.1) b137 mt630
  have et654 : u643.2 b137 = .inl (cy 0, 2, .inl (fun _ => zI 0)) := (hpu643 b137 (fun h => (fun h9 => da_b137 h9.symm) h)).trans et630
  have mt655 : b161 ∈ u643.1 := (fun x hx => by rw [hu643]; exact hx : ∀ x, x ∈ u619.1 → x ∈ u643.1) b161 mt631
  have et655 : u643.2 b161 = .inl (cy 0, 2, .inl (fun _ => zI 0)) := (hpu643 b161 (fun h => (fun h9 => da_b161 h9.symm) h)).trans et631
  have mt656 : b200 ∈ u643.1 := (fun x hx => by rw [hu643]; exact hx : ∀ x, x ∈ u619.1 → x ∈ u643.1) b200 mt632
  have et656 : u643.2 b200 = .inl (cy 0, 8, .inl (fun _ => zI 0)) := (hpu643 b200 (fun h => (fun h9 => da_b200 h9.symm) h)).trans et632
  have mt657 : b228 ∈ u643.1 := (fun x hx => by rw [hu643]; exact hx : ∀ x, x ∈ u619.1 → x ∈ u643.1) b228 mt633
  have et657 : u643.2 b228 = .inl (cy 0, 8, .inl (fun _ => zI 0)) := (hpu643 b228 (fun h => (fun h9 => da_b228 h9.symm) h)).trans et633
  have mt658 : b258 ∈ u643.1 := (fun x hx => by rw [hu643]; exact hx : ∀ x, x ∈ u619.1 → x ∈ u643.1) b258 mt634
  have et658 : u643.2 b258 = .inl (cy 0, 8, .inl (fun _ => zI 0)) := (hpu643 b258 (fun h => (fun h9 => da_b258 h9.symm) h)).trans et634
  have mt659 : b290 ∈ u643.1 := (fun x hx => by rw [hu643]; exact hx : ∀ x, x ∈ u619.1 → x ∈ u643.1) b290 mt635
  have et659 : u643.2 b290 = .inl (cy 0, 8, .inl (fun _ => zI 0)) := (hpu643 b290 (fun h => (fun h9 => da_b290 h9.symm) h)).trans et635
  have mt660 : b324 ∈ u643.1 := (fun x hx => by rw [hu643]; exact hx : ∀ x, x ∈ u619.1 → x ∈ u643.1) b324 mt636
  have et660 : u643.2 b324 = .inl (cy 0, 60, .inl (fun _ => zI 0)) := (hpu643 b324 (fun h => (fun h9 => da_b324 h9.symm) h)).trans et636
  have mt661 : b360 ∈ u643.1 := (fun x hx => by rw [hu643]; exact hx : ∀ x, x ∈ u619.1 → x ∈ u643.1) b360 mt637
  have et661 : u643.2 b360 = .inl (cy 0, 6, .inl (fun _ => zI 0)) := (hpu643 b360 (fun h => (fun h9 => da_b360 h9.symm) h)).trans et637
  have mt662 : b398 ∈ u643.1 := (fun x hx => by rw [hu643]; exact hx : ∀ x, x ∈ u619.1 → x ∈ u643.1) b398 mt638
  have et662 : u643.2 b398 = .inl (cy 0, 40, .inl (fun _ => zI 0)) := (hpu643 b398 (fun h => (fun h9 => da_b398 h9.symm) h)).trans et638
  have mt663 : b438 ∈ u643.1 := (fun x hx => by rw [hu643]; exact hx : ∀ x, x ∈ u619.1 → x ∈ u643.1) b438 mt639
  have et663 : u643.2 b438 = .inl (cy 2, 16, .inl (fun _ => zI 0)) := (hpu643 b438 (fun h => (fun h9 => da_b438 h9.symm) h)).trans et639
  have mt664 : b480 ∈ u643.1 := (fun x hx => by rw [hu643]; exact hx : ∀ x, x ∈ u619.1 → x ∈ u643.1) b480 mt640
  have et664 : u643.2 b480 = .inl (cy 0, 10, .inl (fun _ => zI 0)) := (hpu643 b480 (fun h => (fun h9 => da_b480 h9.symm) h)).trans et640
  have mt665 : b524 ∈ u643.1 := (fun x hx => by rw [hu643]; exact hx : ∀ x, x ∈ u619.1 → x ∈ u643.1) b524 mt641
  have et665 : u643.2 b524 = .inl (cy 0, 10, .inl (fun _ => zI 0)) := (hpu643 b524 (fun h => (fun h9 => da_b524 h9.symm) h)).trans et641
  have mt666 : b570 ∈ u643.1 := (fun x hx => by rw [hu643]; exact hx : ∀ x, x ∈ u619.1 → x ∈ u643.1) b570 mt642
  have et666 : u643.2 b570 = .inl (cy 0, 10, .inl (fun _ => zI 0)) := (hpu643 b570 (fun h => (fun h9 => da_b570 h9.symm) h)).trans et642
  have mt667 : b618 ∈ u643.1 := (fun x hx => by rw [hu643]; exact hx : ∀ x, x ∈ u619.1 → x ∈ u643.1) b618 mb618
  have et667 : u643.2 b618 = .inl (cy 0, 16, .inl (fun _ => zI 0)) := (hpu643 b618 (fun h => (fun h9 => da_b618 h9.symm) h)).trans hEb618
  have hLu643 : u643.1 = (((((((((((((((((((((((u.1 ++ [b1]) ++ [b7]) ++ [b15]) ++ [b35]) ++ [b47]) ++ [b61]) ++ [b77]) ++ [b95]) ++ [b115]) ++ [b137]) ++ [b161]) ++ [b200]) ++ [b228]) ++ [b258]) ++ [b290]) ++ [b324]) ++ [b360]) ++ [b398]) ++ [b438]) ++ [b480]) ++ [b524]) ++ [b570]) ++ [b618]) := by rw [hu643, hLu619]
  have hMu643 : ∀ x, x ∈ u.1 → x ∈ u643.1 := fun x hx => by rw [hu643]; exact hMu619 x hx
  have hOu643 : ∀ x, x ∈ u.1 → x ≠ a → u643.2 x = u.2 x := fun x hx ne => (hpu643 x ne).trans (hOu619 x hx ne)
  refine lv_aload_n hx hb dX12_init_205 rfl (lv_at hl 0 rfl) ?_
  refine z_bipush hx hb dX12_init_206 (by decide) ?_
  refine p_newZ (z := 10) (M := 10) hx hb (hts (.arrayClass .boolean) (List.mem_cons_of_mem _ (List.mem_append_left _ (List.mem_append_left _ (List.mem_of_getElem? (i := 3) rfl))))) hI hG hS (by omega) (by omega) (by omega) (Nat.le_of_ble_eq_true rfl) (Nat.le_of_ble_eq_true rfl) dX12_init_208 (fun b668 u669 H hu669 hEb668 hpu669 hnb668 hG hS => ?_)
  have hEb668 : u669.2 b668 = .inl (cy 2, 10, .inl (fun _ => zI 0)) := hEb668
  have fb668 : b668 ∉ (((((((((((((((((((((((u.1 ++ [b1]) ++ [b7]) ++ [b15]) ++ [b35]) ++ [b47]) ++ [b61]) ++ [b77]) ++ [b95]) ++ [b115]) ++ [b137]) ++ [b161]) ++ [b200]) ++ [b228]) ++ [b258]) ++ [b290]) ++ [b324]) ++ [b360]) ++ [b398]) ++ [b438]) ++ [b480]) ++ [b524]) ++ [b570]) ++ [b618]) := by rw [← hLu643]; exact hnb668
  have hLu669 : u669.1 = ((((((((((((((((((((((((u.1 ++ [b1]) ++ [b7]) ++ [b15]) ++ [b35]) ++ [b47]) ++ [b61]) ++ [b77]) ++ [b95]) ++ [b115]) ++ [b137]) ++ [b161]) ++ [b200]) ++ [b228]) ++ [b258]) ++ [b290]) ++ [b324]) ++ [b360]) ++ [b398]) ++ [b438]) ++ [b480]) ++ [b524]) ++ [b570]) ++ [b618]) ++ [b668]) := by rw [hu669, hLu643]
  have hMu669 : ∀ x, x ∈ u.1 → x ∈ u669.1 := fun x hx => by rw [hu669]; exact List.mem_append_left _ (hMu643 x hx)
  have hOu669 : ∀ x, x ∈ u.1 → x ≠ a → u669.2 x = u.2 x := fun x hx ne => (hpu669 x (hMu643 x hx)).trans (hOu643 x hx ne)
  have da_b668 : a ≠ b668 := fun h => hnb668 (h ▸ mt644)
  have db1_b668 : b1 ≠ b668 := fun h => hnb668 (h ▸ mt645)
  have db7_b668 : b7 ≠ b668 := fun h => hnb668 (h ▸ mt646)
  have db15_b668 : b15 ≠ b668 := fun h => hnb668 (h ▸ mt647)
  have db35_b668 : b35 ≠ b668 := fun h => hnb668 (h ▸ mt648)
  have db47_b668 : b47 ≠ b668 := fun h => hnb668 (h ▸ mt649)
  have db61_b668 : b61 ≠ b668 := fun h => hnb668 (h ▸ mt650)
  have db77_b668 : b77 ≠ b668 := fun h => hnb668 (h ▸ mt651)
  have db95_b668 : b95 ≠ b668 := fun h => hnb668 (h ▸ mt652)
  have db115_b668 : b115 ≠ b668 := fun h => hnb668 (h ▸ mt653)
  have db137_b668 : b137 ≠ b668 := fun h => hnb668 (h ▸ mt654)
  have db161_b668 : b161 ≠ b668 := fun h => hnb668 (h ▸ mt655)
  have db200_b668 : b200 ≠ b668 := fun h => hnb668 (h ▸ mt656)
  have db228_b668 : b228 ≠ b668 := fun h => hnb668 (h ▸ mt657)
  have db258_b668 : b258 ≠ b668 := fun h => hnb668 (h ▸ mt658)
  have db290_b668 : b290 ≠ b668 := fun h => hnb668 (h ▸ mt659)
  have db324_b668 : b324 ≠ b668 := fun h => hnb668 (h ▸ mt660)
  have db360_b668 : b360 ≠ b668 := fun h => hnb668 (h ▸ mt661)
  have db398_b668 : b398 ≠ b668 := fun h => hnb668 (h ▸ mt662)
  have db438_b668 : b438 ≠ b668 := fun h => hnb668 (h ▸ mt663)
  have db480_b668 : b480 ≠ b668 := fun h => hnb668 (h ▸ mt664)
  have db524_b668 : b524 ≠ b668 := fun h => hnb668 (h ▸ mt665)
  have db570_b668 : b570 ≠ b668 := fun h => hnb668 (h ▸ mt666)
  have db618_b668 : b618 ≠ b668 := fun h => hnb668 (h ▸ mt667)
  have mt670 : a ∈ u669.1 := (fun x hx => by rw [hu669]; exact List.mem_append_left _ hx : ∀ x, x ∈ u643.1 → x ∈ u669.1) a mt644
  have et670 : u669.2 a = .inr (11, (.int (zI 0) :: .ref b1 :: .ref b7 :: .ref b15 :: .int (zI 5) :: .int (zI 20) :: .int (zI 0) :: .ref b35 :: .ref b47 :: .ref b61 :: .ref b77 :: .ref b95 :: .ref b115 :: .ref b137 :: .ref b161 :: .int (zI ((-1))) :: .int (zI 0) :: .ref b200 :: .ref b228 :: .ref b258 :: .ref b290 :: .int (zI 0) :: .ref b324 :: .int (zI 0) :: .ref b360 :: .int (zI 0) :: .ref b398 :: .ref b438 :: .ref b480 :: .ref b524 :: .ref b570 :: .ref b618 :: .null :: .null :: .null :: .null :: .null :: .null :: .null :: .null :: .null :: .null :: [])) := (hpu669 a mt644).trans hEu643
  have mt671 : b1 ∈ u669.1 := (fun x hx => by rw [hu669]; exact List.mem_append_left _ hx : ∀ x, x ∈ u643.1 → x ∈ u669.1) b1 mt645
  have et671 : u669.2 b1 = .inl (cy 2, 288, .inl (fun _ => zI 0)) := (hpu669 b1 mt645).trans et645
  have mt672 : b7 ∈ u669.1 := (fun x hx => by rw [hu669]; exact List.mem_append_left _ hx : ∀ x, x ∈ u643.1 → x ∈ u669.1) b7 mt646
  have et672 : u669.2 b7 = .inl (cy 0, 36, .inl (fun _ => zI 0)) := (hpu669 b7 mt646).trans et646
  have mt673 : b15 ∈ u669.1 := (fun x hx => by rw [hu669]; exact List.mem_append_left _ hx : ∀ x, x ∈ u643.1 → x ∈ u669.1) b15 mt647
  have et673 : u669.2 b15 = .inl (cy 0, 36, .inl (fun _ => zI 0)) := (hpu669 b15 mt647).trans et647
  have mt674 : b35 ∈ u669.1 := (fun x hx => by rw [hu669]; exact List.mem_append_left _ hx : ∀ x, x ∈ u643.1 → x ∈ u669.1) b35 mt648
  have et674 : u669.2 b35 = .inl (cy 0, 10, .inl (fun _ => zI 0)) := (hpu669 b35 mt648).trans et648
  have mt675 : b47 ∈ u669.1 := (fun x hx => by rw [hu669]; exact List.mem_append_left _ hx : ∀ x, x ∈ u643.1 → x ∈ u669.1) b47 mt649
  have et675 : u669.2 b47 = .inl (cy 0, 10, .inl (fun _ => zI 0)) := (hpu669 b47 mt649).trans et649
  have mt676 : b61 ∈ u669.1 := (fun x hx => by rw [hu669]; exact List.mem_append_left _ hx : ∀ x, x ∈ u643.1 → x ∈ u669.1) b61 mt650
  have et676 : u669.2 b61 = .inl (cy 0, 10, .inl (fun _ => zI 0)) := (hpu669 b61 mt650).trans et650
  have mt677 : b77 ∈ u669.1 := (fun x hx => by rw [hu669]; exact List.mem_append_left _ hx : ∀ x, x ∈ u643.1 → x ∈ u669.1) b77 mt651
  have et677 : u669.2 b77 = .inl (cy 0, 10, .inl (fun _ => zI 0)) := (hpu669 b77 mt651).trans et651
  have mt678 : b95 ∈ u669.1 := (fun x hx => by rw [hu669]; exact List.mem_append_left _ hx : ∀ x, x ∈ u643.1 → x ∈ u669.1) b95 mt652
  have et678 : u669.2 b95 = .inl (cy 0, 202, .inl (fun _ => zI 0)) := (hpu669 b95 mt652).trans et652
  have mt679 : b115 ∈ u669.1 := (fun x hx => by rw [hu669]; exact List.mem_append_left _ hx : ∀ x, x ∈ u643.1 → x ∈ u669.1) b115 mt653
  have et679 : u669.2 b115 = .inl (cy 0, 202, .inl (fun _ => zI 0)) := (hpu669 b115 mt653).trans et653
  have mt680 : b137 ∈ u669.1 := (fun x hx => by rw [hu669]; exact List.mem_append_left _ hx : ∀ x, x ∈ u643.1 → x ∈ u669.1) b137 mt654
  have et680 : u669.2 b137 = .inl (cy 0, 2, .inl (fun _ => zI 0)) := (hpu669 b137 mt654).trans et654
  have mt681 : b161 ∈ u669.1 := (fun x hx => by rw [hu669]; exact List.mem_append_left _ hx : ∀ x, x ∈ u643.1 → x ∈ u669.1) b161 mt655
  have et681 : u669.2 b161 = .inl (cy 0, 2, .inl (fun _ => zI 0)) := (hpu669 b161 mt655).trans et655
  have mt682 : b200 ∈ u669.1 := (fun x hx => by rw [hu669]; exact List.mem_append_left _ hx : ∀ x, x ∈ u643.1 → x ∈ u669.1) b200 mt656
  have et682 : u669.2 b200 = .inl (cy 0, 8, .inl (fun _ => zI 0)) := (hpu669 b200 mt656).trans et656
  have mt683 : b228 ∈ u669.1 := (fun x hx => by rw [hu669]; exact List.mem_append_left _ hx : ∀ x, x ∈ u643.1 → x ∈ u669.1) b228 mt657
  have et683 : u669.2 b228 = .inl (cy 0, 8, .inl (fun _ => zI 0)) := (hpu669 b228 mt657).trans et657
  have mt684 : b258 ∈ u669.1 := (fun x hx => by rw [hu669]; exact List.mem_append_left _ hx : ∀ x, x ∈ u643.1 → x ∈ u669.1) b258 mt658
  have et684 : u669.2 b258 = .inl (cy 0, 8, .inl (fun _ => zI 0)) := (hpu669 b258 mt658).trans et658
  have mt685 : b290 ∈ u669.1 := (fun x hx => by rw [hu669]; exact List.mem_append_left _ hx : ∀ x, x ∈ u643.1 → x ∈ u669.1) b290 mt659
  have et685 : u669.2 b290 = .inl (cy 0, 8, .inl (fun _ => zI 0)) := (hpu669 b290 mt659).trans et659
  have mt686 : b324 ∈ u669.1 := (fun x hx => by rw [hu669]; exact List.mem_append_left _ hx : ∀ x, x ∈ u643.1 → x ∈ u669.1) b324 mt660
  have et686 : u669.2 b324 = .inl (cy 0, 60, .inl (fun _ => zI 0)) := (hpu669 b324 mt660).trans et660
  have mt687 : b360 ∈ u669.1 := (fun x hx => by rw [hu669]; exact List.mem_append_left _ hx : ∀ x, x ∈ u643.1 → x ∈ u669.1) b360 mt661
  have et687 : u669.2 b360 = .inl (cy 0, 6, .inl (fun _ => zI 0)) := (hpu669 b360 mt661).trans et661
  have mt688 : b398 ∈ u669.1 := (fun x hx => by rw [hu669]; exact List.mem_append_left _ hx : ∀ x, x ∈ u643.1 → x ∈ u669.1) b398 mt662
  have et688 : u669.2 b398 = .inl (cy 0, 40, .inl (fun _ => zI 0)) := (hpu669 b398 mt662).trans et662
  have mt689 : b438 ∈ u669.1 := (fun x hx => by rw [hu669]; exact List.mem_append_left _ hx : ∀ x, x ∈ u643.1 → x ∈ u669.1) b438 mt663
  have et689 : u669.2 b438 = .inl (cy 2, 16, .inl (fun _ => zI 0)) := (hpu669 b438 mt663).trans et663
  have mt690 : b480 ∈ u669.1 := (fun x hx => by rw [hu669]; exact List.mem_append_left _ hx : ∀ x, x ∈ u643.1 → x ∈ u669.1) b480 mt664
  have et690 : u669.2 b480 = .inl (cy 0, 10, .inl (fun _ => zI 0)) := (hpu669 b480 mt664).trans et664
  have mt691 : b524 ∈ u669.1 := (fun x hx => by rw [hu669]; exact List.mem_append_left _ hx : ∀ x, x ∈ u643.1 → x ∈ u669.1) b524 mt665
  have et691 : u669.2 b524 = .inl (cy 0, 10, .inl (fun _ => zI 0)) := (hpu669 b524 mt665).trans et665
  have mt692 : b570 ∈ u669.1 := (fun x hx => by rw [hu669]; exact List.mem_append_left _ hx : ∀ x, x ∈ u643.1 → x ∈ u669.1) b570 mt666
  have et692 : u669.2 b570 = .inl (cy 0, 10, .inl (fun _ => zI 0)) := (hpu669 b570 mt666).trans et666
  have mt693 : b618 ∈ u669.1 := (fun x hx => by rw [hu669]; exact List.mem_append_left _ hx : ∀ x, x ∈ u643.1 → x ∈ u669.1) b618 mt667
  have et693 : u669.2 b618 = .inl (cy 0, 16, .inl (fun _ => zI 0)) := (hpu669 b618 mt667).trans et667
  have mb668 : b668 ∈ u669.1 := by rw [hu669]; exact List.mem_append_right _ List.mem_cons_self
  obtain ⟨k9, hk9⟩ := p_get D u669 mt670
  refine va_putF (C := RX12) (T := TX12) (N := 42) (ci := 11) (ty := tyX12 32) hx hb hts (fun _ h => (List.mem_cons_of_mem _ (List.mem_append_right _ h))) tyX12 tyX12_ok nmX12 hown hI.1 hG.1 hG.2 hS k9 (hk9.trans (by rw [et670])) rfl 32 (by decide) (hts (.fieldLink RX12 90 "StraitSwimModel" "fixed" "[Z") (List.mem_cons_of_mem _ (List.mem_append_left _ (List.mem_append_right _ (List.mem_of_getElem? (i := 7) rfl))))) (fun _ h9 => h9) rfl hin2 rfl (tyX12_ok 32 (by decide)) rfl rfl (Nat.le_of_ble_eq_true rfl) dX12_init_210 (fun H locs hP hD hS => ?_)
  obtain ⟨u694, hu694, hEu694, hpu694, hG⟩ := p_set (e := .inr (11, (.int (zI 0) :: .ref b1 :: .ref b7 :: .ref b15 :: .int (zI 5) :: .int (zI 20) :: .int (zI 0) :: .ref b35 :: .ref b47 :: .ref b61 :: .ref b77 :: .ref b95 :: .ref b115 :: .ref b137 :: .ref b161 :: .int (zI ((-1))) :: .int (zI 0) :: .ref b200 :: .ref b228 :: .ref b258 :: .ref b290 :: .int (zI 0) :: .ref b324 :: .int (zI 0) :: .ref b360 :: .int (zI 0) :: .ref b398 :: .ref b438 :: .ref b480 :: .ref b524 :: .ref b570 :: .ref b618 :: .ref b668 :: .null :: .null :: .null :: .null :: .null :: .null :: .null :: .null :: .null :: []))) hG mt670 hk9 hP hD
  have mt695 : a ∈ u694.1 := (fun x hx => by rw [hu694]; exact hx : ∀ x, x ∈ u669.1 → x ∈ u694.1) a mt670
  have mt696 : b1 ∈ u694.1 := (fun x hx => by rw [hu694]; exact hx : ∀ x, x ∈ u669.1 → x ∈ u694.1) b1 mt671
  have et696 : u694.2 b1 = .inl (cy 2, 288, .inl (fun _ => zI 0)) := (hpu694 b1 (fun h => (fun h9 => da_b1 h9.symm) h)).trans et671
  have mt697 : b7 ∈ u694.1 := (fun x hx => by rw [hu694]; exact hx : ∀ x, x ∈ u669.1 → x ∈ u694.1) b7 mt672
  have et697 : u694.2 b7 = .inl (cy 0, 36, .inl (fun _ => zI 0)) := (hpu694 b7 (fun h => (fun h9 => da_b7 h9.symm) h)).trans et672
  have mt698 : b15 ∈ u694.1 := (fun x hx => by rw [hu694]; exact hx : ∀ x, x ∈ u669.1 → x ∈ u694.1) b15 mt673
  have et698 : u694.2 b15 = .inl (cy 0, 36, .inl (fun _ => zI 0)) := (hpu694 b15 (fun h => (fun h9 => da_b15 h9.symm) h)).trans et673
  have mt699 : b35 ∈ u694.1 := (fun x hx => by rw [hu694]; exact hx : ∀ x, x ∈ u669.1 → x ∈ u694.1) b35 mt674
  have et699 : u694.2 b35 = .inl (cy 0, 10, .inl (fun _ => zI 0)) := (hpu694 b35 (fun h => (fun h9 => da_b35 h9.symm) h)).trans et674
  have mt700 : b47 ∈ u694.1 := (fun x hx => by rw [hu694]; exact hx : ∀ x, x ∈ u669.1 → x ∈ u694.1) b47 mt675
  have et700 : u694.2 b47 = .inl (cy 0, 10, .inl (fun _ => zI 0)) := (hpu694 b47 (fun h => (fun h9 => da_b47 h9.symm) h)).trans et675
  have mt701 : b61 ∈ u694.1 := (fun x hx => by rw [hu694]; exact hx : ∀ x, x ∈ u669.1 → x ∈ u694.1) b61 mt676
  have et701 : u694.2 b61 = .inl (cy 0, 10, .inl (fun _ => zI 0)) := (hpu694 b61 (fun h => (fun h9 => da_b61 h9.symm) h)).trans et676
  have mt702 : b77 ∈ u694.1 := (fun x hx => by rw [hu694]; exact hx : ∀ x, x ∈ u669.1 → x ∈ u694.1) b77 mt677
  have et702 : u694.2 b77 = .inl (cy 0, 10, .inl (fun _ => zI 0)) := (hpu694 b77 (fun h => (fun h9 => da_b77 h9.symm) h)).trans et677
  have mt703 : b95 ∈ u694.1 := (fun x hx => by rw [hu694]; exact hx : ∀ x, x ∈ u669.1 → x ∈ u694.1) b95 mt678
  have et703 : u694.2 b95 = .inl (cy 0, 202, .inl (fun _ => zI 0)) := (hpu694 b95 (fun h => (fun h9 => da_b95 h9.symm) h)).trans et678
  have mt704 : b115 ∈ u694.1 := (fun x hx => by rw [hu694]; exact hx : ∀ x, x ∈ u669.1 → x ∈ u694.1) b115 mt679
  have et704 : u694.2 b115 = .inl (cy 0, 202, .inl (fun _ => zI 0)) := (hpu694 b115 (fun h => (fun h9 => da_b115 h9.symm) h)).trans et679
  have mt705 : b137 ∈ u694.1 := (fun x hx => by rw [hu694]; exact hx : ∀ x, x ∈ u669.1 → x ∈ u694.1) b137 mt680
  have et705 : u694.2 b137 = .inl (cy 0, 2, .inl (fun _ => zI 0)) := (hpu694 b137 (fun h => (fun h9 => da_b137 h9.symm) h)).trans et680
  have mt706 : b161 ∈ u694.1 := (fun x hx => by rw [hu694]; exact hx : ∀ x, x ∈ u669.1 → x ∈ u694.1) b161 mt681
  have et706 : u694.2 b161 = .inl (cy 0, 2, .inl (fun _ => zI 0)) := (hpu694 b161 (fun h => (fun h9 => da_b161 h9.symm) h)).trans et681
  have mt707 : b200 ∈ u694.1 := (fun x hx => by rw [hu694]; exact hx : ∀ x, x ∈ u669.1 → x ∈ u694.1) b200 mt682
  have et707 : u694.2 b200 = .inl (cy 0, 8, .inl (fun _ => zI 0)) := (hpu694 b200 (fun h => (fun h9 => da_b200 h9.symm) h)).trans et682
  have mt708 : b228 ∈ u694.1 := (fun x hx => by rw [hu694]; exact hx : ∀ x, x ∈ u669.1 → x ∈ u694.1) b228 mt683
  have et708 : u694.2 b228 = .inl (cy 0, 8, .inl (fun _ => zI 0)) := (hpu694 b228 (fun h => (fun h9 => da_b228 h9.symm) h)).trans et683
  have mt709 : b258 ∈ u694.1 := (fun x hx => by rw [hu694]; exact hx : ∀ x, x ∈ u669.1 → x ∈ u694.1) b258 mt684
  have et709 : u694.2 b258 = .inl (cy 0, 8, .inl (fun _ => zI 0)) := (hpu694 b258 (fun h => (fun h9 => da_b258 h9.symm) h)).trans et684
  have mt710 : b290 ∈ u694.1 := (fun x hx => by rw [hu694]; exact hx : ∀ x, x ∈ u669.1 → x ∈ u694.1) b290 mt685
  have et710 : u694.2 b290 = .inl (cy 0, 8, .inl (fun _ => zI 0)) := (hpu694 b290 (fun h => (fun h9 => da_b290 h9.symm) h)).trans et685
  have mt711 : b324 ∈ u694.1 := (fun x hx => by rw [hu694]; exact hx : ∀ x, x ∈ u669.1 → x ∈ u694.1) b324 mt686
  have et711 : u694.2 b324 = .inl (cy 0, 60, .inl (fun _ => zI 0)) := (hpu694 b324 (fun h => (fun h9 => da_b324 h9.symm) h)).trans et686
  have mt712 : b360 ∈ u694.1 := (fun x hx => by rw [hu694]; exact hx : ∀ x, x ∈ u669.1 → x ∈ u694.1) b360 mt687
  have et712 : u694.2 b360 = .inl (cy 0, 6, .inl (fun _ => zI 0)) := (hpu694 b360 (fun h => (fun h9 => da_b360 h9.symm) h)).trans et687
  have mt713 : b398 ∈ u694.1 := (fun x hx => by rw [hu694]; exact hx : ∀ x, x ∈ u669.1 → x ∈ u694.1) b398 mt688
  have et713 : u694.2 b398 = .inl (cy 0, 40, .inl (fun _ => zI 0)) := (hpu694 b398 (fun h => (fun h9 => da_b398 h9.symm) h)).trans et688
  have mt714 : b438 ∈ u694.1 := (fun x hx => by rw [hu694]; exact hx : ∀ x, x ∈ u669.1 → x ∈ u694.1) b438 mt689
  have et714 : u694.2 b438 = .inl (cy 2, 16, .inl (fun _ => zI 0)) := (hpu694 b438 (fun h => (fun h9 => da_b438 h9.symm) h)).trans et689
  have mt715 : b480 ∈ u694.1 := (fun x hx => by rw [hu694]; exact hx : ∀ x, x ∈ u669.1 → x ∈ u694.1) b480 mt690
  have et715 : u694.2 b480 = .inl (cy 0, 10, .inl (fun _ => zI 0)) := (hpu694 b480 (fun h => (fun h9 => da_b480 h9.symm) h)).trans et690
  have mt716 : b524 ∈ u694.1 := (fun x hx => by rw [hu694]; exact hx : ∀ x, x ∈ u669.1 → x ∈ u694.1) b524 mt691
  have et716 : u694.2 b524 = .inl (cy 0, 10, .inl (fun _ => zI 0)) := (hpu694 b524 (fun h => (fun h9 => da_b524 h9.symm) h)).trans et691
  have mt717 : b570 ∈ u694.1 := (fun x hx => by rw [hu694]; exact hx : ∀ x, x ∈ u669.1 → x ∈ u694.1) b570 mt692
  have et717 : u694.2 b570 = .inl (cy 0, 10, .inl (fun _ => zI 0)) := (hpu694 b570 (fun h => (fun h9 => da_b570 h9.symm) h)).trans et692
  have mt718 : b618 ∈ u694.1 := (fun x hx => by rw [hu694]; exact hx : ∀ x, x ∈ u669.1 → x ∈ u694.1) b618 mt693
  have et718 : u694.2 b618 = .inl (cy 0, 16, .inl (fun _ => zI 0)) := (hpu694 b618 (fun h => (fun h9 => da_b618 h9.symm) h)).trans et693
  have mt719 : b668 ∈ u694.1 := (fun x hx => by rw [hu694]; exact hx : ∀ x, x ∈ u669.1 → x ∈ u694.1) b668 mb668
  have et719 : u694.2 b668 = .inl (cy 2, 10, .inl (fun _ => zI 0)) := (hpu694 b668 (fun h => (fun h9 => da_b668 h9.symm) h)).trans hEb668
  have hLu694 : u694.1 = ((((((((((((((((((((((((u.1 ++ [b1]) ++ [b7]) ++ [b15]) ++ [b35]) ++ [b47]) ++ [b61]) ++ [b77]) ++ [b95]) ++ [b115]) ++ [b137]) ++ [b161]) ++ [b200]) ++ [b228]) ++ [b258]) ++ [b290]) ++ [b324]) ++ [b360]) ++ [b398]) ++ [b438]) ++ [b480]) ++ [b524]) ++ [b570]) ++ [b618]) ++ [b668]) := by rw [hu694, hLu669]
  have hMu694 : ∀ x, x ∈ u.1 → x ∈ u694.1 := fun x hx => by rw [hu694]; exact hMu669 x hx
  have hOu694 : ∀ x, x ∈ u.1 → x ≠ a → u694.2 x = u.2 x := fun x hx ne => (hpu694 x ne).trans (hOu669 x hx ne)
  refine lv_aload_n hx hb dX12_init_213 rfl (lv_at hl 0 rfl) ?_
  refine z_bipush hx hb dX12_init_214 (by decide) ?_
  refine p_newZ (z := 16) (M := 16) hx hb (hts (.arrayClass .boolean) (List.mem_cons_of_mem _ (List.mem_append_left _ (List.mem_append_left _ (List.mem_of_getElem? (i := 3) rfl))))) hI hG hS (by omega) (by omega) (by omega) (Nat.le_of_ble_eq_true rfl) (Nat.le_of_ble_eq_true rfl) dX12_init_216 (fun b720 u721 H hu721 hEb720 hpu721 hnb720 hG hS => ?_)
  have hEb720 : u721.2 b720 = .inl (cy 2, 16, .inl (fun _ => zI 0)) := hEb720
  have fb720 : b720 ∉ ((((((((((((((((((((((((u.1 ++ [b1]) ++ [b7]) ++ [b15]) ++ [b35]) ++ [b47]) ++ [b61]) ++ [b77]) ++ [b95]) ++ [b115]) ++ [b137]) ++ [b161]) ++ [b200]) ++ [b228]) ++ [b258]) ++ [b290]) ++ [b324]) ++ [b360]) ++ [b398]) ++ [b438]) ++ [b480]) ++ [b524]) ++ [b570]) ++ [b618]) ++ [b668]) := by rw [← hLu694]; exact hnb720
  have hLu721 : u721.1 = (((((((((((((((((((((((((u.1 ++ [b1]) ++ [b7]) ++ [b15]) ++ [b35]) ++ [b47]) ++ [b61]) ++ [b77]) ++ [b95]) ++ [b115]) ++ [b137]) ++ [b161]) ++ [b200]) ++ [b228]) ++ [b258]) ++ [b290]) ++ [b324]) ++ [b360]) ++ [b398]) ++ [b438]) ++ [b480]) ++ [b524]) ++ [b570]) ++ [b618]) ++ [b668]) ++ [b720]) := by rw [hu721, hLu694]
  have hMu721 : ∀ x, x ∈ u.1 → x ∈ u721.1 := fun x hx => by rw [hu721]; exact List.mem_append_left _ (hMu694 x hx)
  have hOu721 : ∀ x, x ∈ u.1 → x ≠ a → u721.2 x = u.2 x := fun x hx ne => (hpu721 x (hMu694 x hx)).trans (hOu694 x hx ne)
  have da_b720 : a ≠ b720 := fun h => hnb720 (h ▸ mt695)
  have db1_b720 : b1 ≠ b720 := fun h => hnb720 (h ▸ mt696)
  have db7_b720 : b7 ≠ b720 := fun h => hnb720 (h ▸ mt697)
  have db15_b720 : b15 ≠ b720 := fun h => hnb720 (h ▸ mt698)
  have db35_b720 : b35 ≠ b720 := fun h => hnb720 (h ▸ mt699)
  have db47_b720 : b47 ≠ b720 := fun h => hnb720 (h ▸ mt700)
  have db61_b720 : b61 ≠ b720 := fun h => hnb720 (h ▸ mt701)
  have db77_b720 : b77 ≠ b720 := fun h => hnb720 (h ▸ mt702)
  have db95_b720 : b95 ≠ b720 := fun h => hnb720 (h ▸ mt703)
  have db115_b720 : b115 ≠ b720 := fun h => hnb720 (h ▸ mt704)
  have db137_b720 : b137 ≠ b720 := fun h => hnb720 (h ▸ mt705)
  have db161_b720 : b161 ≠ b720 := fun h => hnb720 (h ▸ mt706)
  have db200_b720 : b200 ≠ b720 := fun h => hnb720 (h ▸ mt707)
  have db228_b720 : b228 ≠ b720 := fun h => hnb720 (h ▸ mt708)
  have db258_b720 : b258 ≠ b720 := fun h => hnb720 (h ▸ mt709)
  have db290_b720 : b290 ≠ b720 := fun h => hnb720 (h ▸ mt710)
  have db324_b720 : b324 ≠ b720 := fun h => hnb720 (h ▸ mt711)
  have db360_b720 : b360 ≠ b720 := fun h => hnb720 (h ▸ mt712)
  have db398_b720 : b398 ≠ b720 := fun h => hnb720 (h ▸ mt713)
  have db438_b720 : b438 ≠ b720 := fun h => hnb720 (h ▸ mt714)
  have db480_b720 : b480 ≠ b720 := fun h => hnb720 (h ▸ mt715)
  have db524_b720 : b524 ≠ b720 := fun h => hnb720 (h ▸ mt716)
  have db570_b720 : b570 ≠ b720 := fun h => hnb720 (h ▸ mt717)
  have db618_b720 : b618 ≠ b720 := fun h => hnb720 (h ▸ mt718)
  have db668_b720 : b668 ≠ b720 := fun h => hnb720 (h ▸ mt719)
  have mt722 : a ∈ u721.1 := (fun x hx => by rw [hu721]; exact List.mem_append_left _ hx : ∀ x, x ∈ u694.1 → x ∈ u721.1) a mt695
  have et722 : u721.2 a = .inr (11, (.int (zI 0) :: .ref b1 :: .ref b7 :: .ref b15 :: .int (zI 5) :: .int (zI 20) :: .int (zI 0) :: .ref b35 :: .ref b47 :: .ref b61 :: .ref b77 :: .ref b95 :: .ref b115 :: .ref b137 :: .ref b161 :: .int (zI ((-1))) :: .int (zI 0) :: .ref b200 :: .ref b228 :: .ref b258 :: .ref b290 :: .int (zI 0) :: .ref b324 :: .int (zI 0) :: .ref b360 :: .int (zI 0) :: .ref b398 :: .ref b438 :: .ref b480 :: .ref b524 :: .ref b570 :: .ref b618 :: .ref b668 :: .null :: .null :: .null :: .null :: .null :: .null :: .null :: .null :: .null :: [])) := (hpu721 a mt695).trans hEu694
  have mt723 : b1 ∈ u721.1 := (fun x hx => by rw [hu721]; exact List.mem_append_left _ hx : ∀ x, x ∈ u694.1 → x ∈ u721.1) b1 mt696
  have et723 : u721.2 b1 = .inl (cy 2, 288, .inl (fun _ => zI 0)) := (hpu721 b1 mt696).trans et696
  have mt724 : b7 ∈ u721.1 := (fun x hx => by rw [hu721]; exact List.mem_append_left _ hx : ∀ x, x ∈ u694.1 → x ∈ u721.1) b7 mt697
  have et724 : u721.2 b7 = .inl (cy 0, 36, .inl (fun _ => zI 0)) := (hpu721 b7 mt697).trans et697
  have mt725 : b15 ∈ u721.1 := (fun x hx => by rw [hu721]; exact List.mem_append_left _ hx : ∀ x, x ∈ u694.1 → x ∈ u721.1) b15 mt698
  have et725 : u721.2 b15 = .inl (cy 0, 36, .inl (fun _ => zI 0)) := (hpu721 b15 mt698).trans et698
  have mt726 : b35 ∈ u721.1 := (fun x hx => by rw [hu721]; exact List.mem_append_left _ hx : ∀ x, x ∈ u694.1 → x ∈ u721.1) b35 mt699
  have et726 : u721.2 b35 = .inl (cy 0, 10, .inl (fun _ => zI 0)) := (hpu721 b35 mt699).trans et699
  have mt727 : b47 ∈ u721.1 := (fun x hx => by rw [hu721]; exact List.mem_append_left _ hx : ∀ x, x ∈ u694.1 → x ∈ u721.1) b47 mt700
  have et727 : u721.2 b47 = .inl (cy 0, 10, .inl (fun _ => zI 0)) := (hpu721 b47 mt700).trans et700
  have mt728 : b61 ∈ u721.1 := (fun x hx => by rw [hu721]; exact List.mem_append_left _ hx : ∀ x, x ∈ u694.1 → x ∈ u721.1) b61 mt701
  have et728 : u721.2 b61 = .inl (cy 0, 10, .inl (fun _ => zI 0)) := (hpu721 b61 mt701).trans et701
  have mt729 : b77 ∈ u721.1 := (fun x hx => by rw [hu721]; exact List.mem_append_left _ hx : ∀ x, x ∈ u694.1 → x ∈ u721.1) b77 mt702
  have et729 : u721.2 b77 = .inl (cy 0, 10, .inl (fun _ => zI 0)) := (hpu721 b77 mt702).trans et702
  have mt730 : b95 ∈ u721.1 := (fun x hx => by rw [hu721]; exact List.mem_append_left _ hx : ∀ x, x ∈ u694.1 → x ∈ u721.1) b95 mt703
  have et730 : u721.2 b95 = .inl (cy 0, 202, .inl (fun _ => zI 0)) := (hpu721 b95 mt703).trans et703
  have mt731 : b115 ∈ u721.1 := (fun x hx => by rw [hu721]; exact List.mem_append_left _ hx : ∀ x, x ∈ u694.1 → x ∈ u721.1) b115 mt704
  have et731 : u721.2 b115 = .inl (cy 0, 202, .inl (fun _ => zI 0)) := (hpu721 b115 mt704).trans et704
  have mt732 : b137 ∈ u721.1 := (fun x hx => by rw [hu721]; exact List.mem_append_left _ hx : ∀ x, x ∈ u694.1 → x ∈ u721.1) b137 mt705
  have et732 : u721.2 b137 = .inl (cy 0, 2, .inl (fun _ => zI 0)) := (hpu721 b137 mt705).trans et705
  have mt733 : b161 ∈ u721.1 := (fun x hx => by rw [hu721]; exact List.mem_append_left _ hx : ∀ x, x ∈ u694.1 → x ∈ u721.1) b161 mt706
  have et733 : u721.2 b161 = .inl (cy 0, 2, .inl (fun _ => zI 0)) := (hpu721 b161 mt706).trans et706
  have mt734 : b200 ∈ u721.1 := (fun x hx => by rw [hu721]; exact List.mem_append_left _ hx : ∀ x, x ∈ u694.1 → x ∈ u721.1) b200 mt707
  have et734 : u721.2 b200 = .inl (cy 0, 8, .inl (fun _ => zI 0)) := (hpu721 b200 mt707).trans et707
  have mt735 : b228 ∈ u721.1 := (fun x hx => by rw [hu721]; exact List.mem_append_left _ hx : ∀ x, x ∈ u694.1 → x ∈ u721.1) b228 mt708
  have et735 : u721.2 b228 = .inl (cy 0, 8, .inl (fun _ => zI 0)) := (hpu721 b228 mt708).trans et708
  have mt736 : b258 ∈ u721.1 := (fun x hx => by rw [hu721]; exact List.mem_append_left _ hx : ∀ x, x ∈ u694.1 → x ∈ u721.1) b258 mt709
  have et736 : u721.2 b258 = .inl (cy 0, 8, .inl (fun _ => zI 0)) := (hpu721 b258 mt709).trans et709
  have mt737 : b290 ∈ u721.1 := (fun x hx => by rw [hu721]; exact List.mem_append_left _ hx : ∀ x, x ∈ u694.1 → x ∈ u721.1) b290 mt710
  have et737 : u721.2 b290 = .inl (cy 0, 8, .inl (fun _ => zI 0)) := (hpu721 b290 mt710).trans et710
  have mt738 : b324 ∈ u721.1 := (fun x hx => by rw [hu721]; exact List.mem_append_left _ hx : ∀ x, x ∈ u694.1 → x ∈ u721.1) b324 mt711
  have et738 : u721.2 b324 = .inl (cy 0, 60, .inl (fun _ => zI 0)) := (hpu721 b324 mt711).trans et711
  have mt739 : b360 ∈ u721.1 := (fun x hx => by rw [hu721]; exact List.mem_append_left _ hx : ∀ x, x ∈ u694.1 → x ∈ u721.1) b360 mt712
  have et739 : u721.2 b360 = .inl (cy 0, 6, .inl (fun _ => zI 0)) := (hpu721 b360 mt712).trans et712
  have mt740 : b398 ∈ u721.1 := (fun x hx => by rw [hu721]; exact List.mem_append_left _ hx : ∀ x, x ∈ u694.1 → x ∈ u721.1) b398 mt713
  have et740 : u721.2 b398 = .inl (cy 0, 40, .inl (fun _ => zI 0)) := (hpu721 b398 mt713).trans et713
  have mt741 : b438 ∈ u721.1 := (fun x hx => by rw [hu721]; exact List.mem_append_left _ hx : ∀ x, x ∈ u694.1 → x ∈ u721.1) b438 mt714
  have et741 : u721.2 b438 = .inl (cy 2, 16, .inl (fun _ => zI 0)) := (hpu721 b438 mt714).trans et714
  have mt742 : b480 ∈ u721.1 := (fun x hx => by rw [hu721]; exact List.mem_append_left _ hx : ∀ x, x ∈ u694.1 → x ∈ u721.1) b480 mt715
  have et742 : u721.2 b480 = .inl (cy 0, 10, .inl (fun _ => zI 0)) := (hpu721 b480 mt715).trans et715
  have mt743 : b524 ∈ u721.1 := (fun x hx => by rw [hu721]; exact List.mem_append_left _ hx : ∀ x, x ∈ u694.1 → x ∈ u721.1) b524 mt716
  have et743 : u721.2 b524 = .inl (cy 0, 10, .inl (fun _ => zI 0)) := (hpu721 b524 mt716).trans et716
  have mt744 : b570 ∈ u721.1 := (fun x hx => by rw [hu721]; exact List.mem_append_left _ hx : ∀ x, x ∈ u694.1 → x ∈ u721.1) b570 mt717
  have et744 : u721.2 b570 = .inl (cy 0, 10, .inl (fun _ => zI 0)) := (hpu721 b570 mt717).trans et717
  have mt745 : b618 ∈ u721.1 := (fun x hx => by rw [hu721]; exact List.mem_append_left _ hx : ∀ x, x ∈ u694.1 → x ∈ u721.1) b618 mt718
  have et745 : u721.2 b618 = .inl (cy 0, 16, .inl (fun _ => zI 0)) := (hpu721 b618 mt718).trans et718
  have mt746 : b668 ∈ u721.1 := (fun x hx => by rw [hu721]; exact List.mem_append_left _ hx : ∀ x, x ∈ u694.1 → x ∈ u721.1) b668 mt719
  have et746 : u721.2 b668 = .inl (cy 2, 10, .inl (fun _ => zI 0)) := (hpu721 b668 mt719).trans et719
  have mb720 : b720 ∈ u721.1 := by rw [hu721]; exact List.mem_append_right _ List.mem_cons_self
  obtain ⟨k9, hk9⟩ := p_get D u721 mt722
  refine va_putF (C := RX12) (T := TX12) (N := 42) (ci := 11) (ty := tyX12 33) hx hb hts (fun _ h => (List.mem_cons_of_mem _ (List.mem_append_right _ h))) tyX12 tyX12_ok nmX12 hown hI.1 hG.1 hG.2 hS k9 (hk9.trans (by rw [et722])) rfl 33 (by decide) (hts (.fieldLink RX12 93 "StraitSwimModel" "triedDay" "[Z") (List.mem_cons_of_mem _ (List.mem_append_left _ (List.mem_append_right _ (List.mem_of_getElem? (i := 8) rfl))))) (fun _ h9 => h9) rfl hin2 rfl (tyX12_ok 33 (by decide)) rfl rfl (Nat.le_of_ble_eq_true rfl) dX12_init_218 (fun H locs hP hD hS => ?_)
  obtain ⟨u747, hu747, hEu747, hpu747, hG⟩ := p_set (e := .inr (11, (.int (zI 0) :: .ref b1 :: .ref b7 :: .ref b15 :: .int (zI 5) :: .int (zI 20) :: .int (zI 0) :: .ref b35 :: .ref b47 :: .ref b61 :: .ref b77 :: .ref b95 :: .ref b115 :: .ref b137 :: .ref b161 :: .int (zI ((-1))) :: .int (zI 0) :: .ref b200 :: .ref b228 :: .ref b258 :: .ref b290 :: .int (zI 0) :: .ref b324 :: .int (zI 0) :: .ref b360 :: .int (zI 0) :: .ref b398 :: .ref b438 :: .ref b480 :: .ref b524 :: .ref b570 :: .ref b618 :: .ref b668 :: .ref b720 :: .null :: .null :: .null :: .null :: .null :: .null :: .null :: .null :: []))) hG mt722 hk9 hP hD
  have mt748 : a ∈ u747.1 := (fun x hx => by rw [hu747]; exact hx : ∀ x, x ∈ u721.1 → x ∈ u747.1) a mt722
  have mt749 : b1 ∈ u747.1 := (fun x hx => by rw [hu747]; exact hx : ∀ x, x ∈ u721.1 → x ∈ u747.1) b1 mt723
  have et749 : u747.2 b1 = .inl (cy 2, 288, .inl (fun _ => zI 0)) := (hpu747 b1 (fun h => (fun h9 => da_b1 h9.symm) h)).trans et723
  have mt750 : b7 ∈ u747.1 := (fun x hx => by rw [hu747]; exact hx : ∀ x, x ∈ u721.1 → x ∈ u747.1) b7 mt724
  have et750 : u747.2 b7 = .inl (cy 0, 36, .inl (fun _ => zI 0)) := (hpu747 b7 (fun h => (fun h9 => da_b7 h9.symm) h)).trans et724
  have mt751 : b15 ∈ u747.1 := (fun x hx => by rw [hu747]; exact hx : ∀ x, x ∈ u721.1 → x ∈ u747.1) b15 mt725
  have et751 : u747.2 b15 = .inl (cy 0, 36, .inl (fun _ => zI 0)) := (hpu747 b15 (fun h => (fun h9 => da_b15 h9.symm) h)).trans et725
  have mt752 : b35 ∈ u747.1 := (fun x hx => by rw [hu747]; exact hx : ∀ x, x ∈ u721.1 → x ∈ u747.1) b35 mt726
  have et752 : u747.2 b35 = .inl (cy 0, 10, .inl (fun _ => zI 0)) := (hpu747 b35 (fun h => (fun h9 => da_b35 h9.symm) h)).trans et726
  have mt753 : b47 ∈ u747.1 := (fun x hx => by rw [hu747]; exact hx : ∀ x, x ∈ u721.1 → x ∈ u747.1) b47 mt727
  have et753 : u747.2 b47 = .inl (cy 0, 10, .inl (fun _ => zI 0)) := (hpu747 b47 (fun h => (fun h9 => da_b47 h9.symm) h)).trans et727
  have mt754 : b61 ∈ u747.1 := (fun x hx => by rw [hu747]; exact hx : ∀ x, x ∈ u721.1 → x ∈ u747.1) b61 mt728
  have et754 : u747.2 b61 = .inl (cy 0, 10, .inl (fun _ => zI 0)) := (hpu747 b61 (fun h => (fun h9 => da_b61 h9.symm) h)).trans et728
  have mt755 : b77 ∈ u747.1 := (fun x hx => by rw [hu747]; exact hx : ∀ x, x ∈ u721.1 → x ∈ u747.1) b77 mt729
  have et755 : u747.2 b77 = .inl (cy 0, 10, .inl (fun _ => zI 0)) := (hpu747 b77 (fun h => (fun h9 => da_b77 h9.symm) h)).trans et729
  have mt756 : b95 ∈ u747.1 := (fun x hx => by rw [hu747]; exact hx : ∀ x, x ∈ u721.1 → x ∈ u747.1) b95 mt730
  have et756 : u747.2 b95 = .inl (cy 0, 202, .inl (fun _ => zI 0)) := (hpu747 b95 (fun h => (fun h9 => da_b95 h9.symm) h)).trans et730
  have mt757 : b115 ∈ u747.1 := (fun x hx => by rw [hu747]; exact hx : ∀ x, x ∈ u721.1 → x ∈ u747.1) b115 mt731
  have et757 : u747.2 b115 = .inl (cy 0, 202, .inl (fun _ => zI 0)) := (hpu747 b115 (fun h => (fun h9 => da_b115 h9.symm) h)).trans et731
  have mt758 : b137 ∈ u747.1 := (fun x hx => by rw [hu747]; exact hx : ∀ x, x ∈ u721.1 → x ∈ u747.1) b137 mt732
  have et758 : u747.2 b137 = .inl (cy 0, 2, .inl (fun _ => zI 0)) := (hpu747 b137 (fun h => (fun h9 => da_b137 h9.symm) h)).trans et732
  have mt759 : b161 ∈ u747.1 := (fun x hx => by rw [hu747]; exact hx : ∀ x, x ∈ u721.1 → x ∈ u747.1) b161 mt733
  have et759 : u747.2 b161 = .inl (cy 0, 2, .inl (fun _ => zI 0)) := (hpu747 b161 (fun h => (fun h9 => da_b161 h9.symm) h)).trans et733
  have mt760 : b200 ∈ u747.1 := (fun x hx => by rw [hu747]; exact hx : ∀ x, x ∈ u721.1 → x ∈ u747.1) b200 mt734
  have et760 : u747.2 b200 = .inl (cy 0, 8, .inl (fun _ => zI 0)) := (hpu747 b200 (fun h => (fun h9 => da_b200 h9.symm) h)).trans et734
  have mt761 : b228 ∈ u747.1 := (fun x hx => by rw [hu747]; exact hx : ∀ x, x ∈ u721.1 → x ∈ u747.1) b228 mt735
  have et761 : u747.2 b228 = .inl (cy 0, 8, .inl (fun _ => zI 0)) := (hpu747 b228 (fun h => (fun h9 => da_b228 h9.symm) h)).trans et735
  have mt762 : b258 ∈ u747.1 := (fun x hx => by rw [hu747]; exact hx : ∀ x, x ∈ u721.1 → x ∈ u747.1) b258 mt736
  have et762 : u747.2 b258 = .inl (cy 0, 8, .inl (fun _ => zI 0)) := (hpu747 b258 (fun h => (fun h9 => da_b258 h9.symm) h)).trans et736
  have mt763 : b290 ∈ u747.1 := (fun x hx => by rw [hu747]; exact hx : ∀ x, x ∈ u721.1 → x ∈ u747.1) b290 mt737
  have et763 : u747.2 b290 = .inl (cy 0, 8, .inl (fun _ => zI 0)) := (hpu747 b290 (fun h => (fun h9 => da_b290 h9.symm) h)).trans et737
  have mt764 : b324 ∈ u747.1 := (fun x hx => by rw [hu747]; exact hx : ∀ x, x ∈ u721.1 → x ∈ u747.1) b324 mt738
  have et764 : u747.2 b324 = .inl (cy 0, 60, .inl (fun _ => zI 0)) := (hpu747 b324 (fun h => (fun h9 => da_b324 h9.symm) h)).trans et738
  have mt765 : b360 ∈ u747.1 := (fun x hx => by rw [hu747]; exact hx : ∀ x, x ∈ u721.1 → x ∈ u747.1) b360 mt739
  have et765 : u747.2 b360 = .inl (cy 0, 6, .inl (fun _ => zI 0)) := (hpu747 b360 (fun h => (fun h9 => da_b360 h9.symm) h)).trans et739
  have mt766 : b398 ∈ u747.1 := (fun x hx => by rw [hu747]; exact hx : ∀ x, x ∈ u721.1 → x ∈ u747.1) b398 mt740
  have et766 : u747.2 b398 = .inl (cy 0, 40, .inl (fun _ => zI 0)) := (hpu747 b398 (fun h => (fun h9 => da_b398 h9.symm) h)).trans et740
  have mt767 : b438 ∈ u747.1 := (fun x hx => by rw [hu747]; exact hx : ∀ x, x ∈ u721.1 → x ∈ u747.1) b438 mt741
  have et767 : u747.2 b438 = .inl (cy 2, 16, .inl (fun _ => zI 0)) := (hpu747 b438 (fun h => (fun h9 => da_b438 h9.symm) h)).trans et741
  have mt768 : b480 ∈ u747.1 := (fun x hx => by rw [hu747]; exact hx : ∀ x, x ∈ u721.1 → x ∈ u747.1) b480 mt742
  have et768 : u747.2 b480 = .inl (cy 0, 10, .inl (fun _ => zI 0)) := (hpu747 b480 (fun h => (fun h9 => da_b480 h9.symm) h)).trans et742
  have mt769 : b524 ∈ u747.1 := (fun x hx => by rw [hu747]; exact hx : ∀ x, x ∈ u721.1 → x ∈ u747.1) b524 mt743
  have et769 : u747.2 b524 = .inl (cy 0, 10, .inl (fun _ => zI 0)) := (hpu747 b524 (fun h => (fun h9 => da_b524 h9.symm) h)).trans et743
  have mt770 : b570 ∈ u747.1 := (fun x hx => by rw [hu747]; exact hx : ∀ x, x ∈ u721.1 → x ∈ u747.1) b570 mt744
  have et770 : u747.2 b570 = .inl (cy 0, 10, .inl (fun _ => zI 0)) := (hpu747 b570 (fun h => (fun h9 => da_b570 h9.symm) h)).trans et744
  have mt771 : b618 ∈ u747.1 := (fun x hx => by rw [hu747]; exact hx : ∀ x, x ∈ u721.1 → x ∈ u747.1) b618 mt745
  have et771 : u747.2 b618 = .inl (cy 0, 16, .inl (fun _ => zI 0)) := (hpu747 b618 (fun h => (fun h9 => da_b618 h9.symm) h)).trans et745
  have mt772 : b668 ∈ u747.1 := (fun x hx => by rw [hu747]; exact hx : ∀ x, x ∈ u721.1 → x ∈ u747.1) b668 mt746
  have et772 : u747.2 b668 = .inl (cy 2, 10, .inl (fun _ => zI 0)) := (hpu747 b668 (fun h => (fun h9 => da_b668 h9.symm) h)).trans et746
  have mt773 : b720 ∈ u747.1 := (fun x hx => by rw [hu747]; exact hx : ∀ x, x ∈ u721.1 → x ∈ u747.1) b720 mb720
  have et773 : u747.2 b720 = .inl (cy 2, 16, .inl (fun _ => zI 0)) := (hpu747 b720 (fun h => (fun h9 => da_b720 h9.symm) h)).trans hEb720
  have hLu747 : u747.1 = (((((((((((((((((((((((((u.1 ++ [b1]) ++ [b7]) ++ [b15]) ++ [b35]) ++ [b47]) ++ [b61]) ++ [b77]) ++ [b95]) ++ [b115]) ++ [b137]) ++ [b161]) ++ [b200]) ++ [b228]) ++ [b258]) ++ [b290]) ++ [b324]) ++ [b360]) ++ [b398]) ++ [b438]) ++ [b480]) ++ [b524]) ++ [b570]) ++ [b618]) ++ [b668]) ++ [b720]) := by rw [hu747, hLu721]
  have hMu747 : ∀ x, x ∈ u.1 → x ∈ u747.1 := fun x hx => by rw [hu747]; exact hMu721 x hx
  have hOu747 : ∀ x, x ∈ u.1 → x ≠ a → u747.2 x = u.2 x := fun x hx ne => (hpu747 x ne).trans (hOu721 x hx ne)
  refine lv_aload_n hx hb dX12_init_221 rfl (lv_at hl 0 rfl) ?_
  refine z_bipush hx hb dX12_init_222 (by decide) ?_
  refine p_newI (z := 16) (M := 16) hx hb (hts (.arrayClass .int) (List.mem_cons_of_mem _ (List.mem_append_left _ (List.mem_append_left _ (List.mem_of_getElem? (i := 5) rfl))))) hI hG hS (by omega) (by omega) (by omega) (Nat.le_of_ble_eq_true rfl) (Nat.le_of_ble_eq_true rfl) dX12_init_224 (fun b774 u775 H hu775 hEb774 hpu775 hnb774 hG hS => ?_)
  have hEb774 : u775.2 b774 = .inl (cy 0, 16, .inl (fun _ => zI 0)) := hEb774
  have fb774 : b774 ∉ (((((((((((((((((((((((((u.1 ++ [b1]) ++ [b7]) ++ [b15]) ++ [b35]) ++ [b47]) ++ [b61]) ++ [b77]) ++ [b95]) ++ [b115]) ++ [b137]) ++ [b161]) ++ [b200]) ++ [b228]) ++ [b258]) ++ [b290]) ++ [b324]) ++ [b360]) ++ [b398]) ++ [b438]) ++ [b480]) ++ [b524]) ++ [b570]) ++ [b618]) ++ [b668]) ++ [b720]) := by rw [← hLu747]; exact hnb774
  have hLu775 : u775.1 = ((((((((((((((((((((((((((u.1 ++ [b1]) ++ [b7]) ++ [b15]) ++ [b35]) ++ [b47]) ++ [b61]) ++ [b77]) ++ [b95]) ++ [b115]) ++ [b137]) ++ [b161]) ++ [b200]) ++ [b228]) ++ [b258]) ++ [b290]) ++ [b324]) ++ [b360]) ++ [b398]) ++ [b438]) ++ [b480]) ++ [b524]) ++ [b570]) ++ [b618]) ++ [b668]) ++ [b720]) ++ [b774]) := by rw [hu775, hLu747]
  have hMu775 : ∀ x, x ∈ u.1 → x ∈ u775.1 := fun x hx => by rw [hu775]; exact List.mem_append_left _ (hMu747 x hx)
  have hOu775 : ∀ x, x ∈ u.1 → x ≠ a → u775.2 x = u.2 x := fun x hx ne => (hpu775 x (hMu747 x hx)).trans (hOu747 x hx ne)
  have da_b774 : a ≠ b774 := fun h => hnb774 (h ▸ mt748)
  have db1_b774 : b1 ≠ b774 := fun h => hnb774 (h ▸ mt749)
  have db7_b774 : b7 ≠ b774 := fun h => hnb774 (h ▸ mt750)
  have db15_b774 : b15 ≠ b774 := fun h => hnb774 (h ▸ mt751)
  have db35_b774 : b35 ≠ b774 := fun h => hnb774 (h ▸ mt752)
  have db47_b774 : b47 ≠ b774 := fun h => hnb774 (h ▸ mt753)
  have db61_b774 : b61 ≠ b774 := fun h => hnb774 (h ▸ mt754)
  have db77_b774 : b77 ≠ b774 := fun h => hnb774 (h ▸ mt755)
  have db95_b774 : b95 ≠ b774 := fun h => hnb774 (h ▸ mt756)
  have db115_b774 : b115 ≠ b774 := fun h => hnb774 (h ▸ mt757)
  have db137_b774 : b137 ≠ b774 := fun h => hnb774 (h ▸ mt758)
  have db161_b774 : b161 ≠ b774 := fun h => hnb774 (h ▸ mt759)
  have db200_b774 : b200 ≠ b774 := fun h => hnb774 (h ▸ mt760)
  have db228_b774 : b228 ≠ b774 := fun h => hnb774 (h ▸ mt761)
  have db258_b774 : b258 ≠ b774 := fun h => hnb774 (h ▸ mt762)
  have db290_b774 : b290 ≠ b774 := fun h => hnb774 (h ▸ mt763)
  have db324_b774 : b324 ≠ b774 := fun h => hnb774 (h ▸ mt764)
  have db360_b774 : b360 ≠ b774 := fun h => hnb774 (h ▸ mt765)
  have db398_b774 : b398 ≠ b774 := fun h => hnb774 (h ▸ mt766)
  have db438_b774 : b438 ≠ b774 := fun h => hnb774 (h ▸ mt767)
  have db480_b774 : b480 ≠ b774 := fun h => hnb774 (h ▸ mt768)
  have db524_b774 : b524 ≠ b774 := fun h => hnb774 (h ▸ mt769)
  have db570_b774 : b570 ≠ b774 := fun h => hnb774 (h ▸ mt770)
  have db618_b774 : b618 ≠ b774 := fun h => hnb774 (h ▸ mt771)
  have db668_b774 : b668 ≠ b774 := fun h => hnb774 (h ▸ mt772)
  have db720_b774 : b720 ≠ b774 := fun h => hnb774 (h ▸ mt773)
  have mt776 : a ∈ u775.1 := (fun x hx => by rw [hu775]; exact List.mem_append_left _ hx : ∀ x, x ∈ u747.1 → x ∈ u775.1) a mt748
  have et776 : u775.2 a = .inr (11, (.int (zI 0) :: .ref b1 :: .ref b7 :: .ref b15 :: .int (zI 5) :: .int (zI 20) :: .int (zI 0) :: .ref b35 :: .ref b47 :: .ref b61 :: .ref b77 :: .ref b95 :: .ref b115 :: .ref b137 :: .ref b161 :: .int (zI ((-1))) :: .int (zI 0) :: .ref b200 :: .ref b228 :: .ref b258 :: .ref b290 :: .int (zI 0) :: .ref b324 :: .int (zI 0) :: .ref b360 :: .int (zI 0) :: .ref b398 :: .ref b438 :: .ref b480 :: .ref b524 :: .ref b570 :: .ref b618 :: .ref b668 :: .ref b720 :: .null :: .null :: .null :: .null :: .null :: .null :: .null :: .null :: [])) := (hpu775 a mt748).trans hEu747
  have mt777 : b1 ∈ u775.1 := (fun x hx => by rw [hu775]; exact List.mem_append_left _ hx : ∀ x, x ∈ u747.1 → x ∈ u775.1) b1 mt749
  have et777 : u775.2 b1 = .inl (cy 2, 288, .inl (fun _ => zI 0)) := (hpu775 b1 mt749).trans et749
  have mt778 : b7 ∈ u775.1 := (fun x hx => by rw [hu775]; exact List.mem_append_left _ hx : ∀ x, x ∈ u747.1 → x ∈ u775.1) b7 mt750
  have et778 : u775.2 b7 = .inl (cy 0, 36, .inl (fun _ => zI 0)) := (hpu775 b7 mt750).trans et750
  have mt779 : b15 ∈ u775.1 := (fun x hx => by rw [hu775]; exact List.mem_append_left _ hx : ∀ x, x ∈ u747.1 → x ∈ u775.1) b15 mt751
  have et779 : u775.2 b15 = .inl (cy 0, 36, .inl (fun _ => zI 0)) := (hpu775 b15 mt751).trans et751
  have mt780 : b35 ∈ u775.1 := (fun x hx => by rw [hu775]; exact List.mem_append_left _ hx : ∀ x, x ∈ u747.1 → x ∈ u775.1) b35 mt752
  have et780 : u775.2 b35 = .inl (cy 0, 10, .inl (fun _ => zI 0)) := (hpu775 b35 mt752).trans et752
  have mt781 : b47 ∈ u775.1 := (fun x hx => by rw [hu775]; exact List.mem_append_left _ hx : ∀ x, x ∈ u747.1 → x ∈ u775.1) b47 mt753
  have et781 : u775.2 b47 = .inl (cy 0, 10, .inl (fun _ => zI 0)) := (hpu775 b47 mt753).trans et753
  have mt782 : b61 ∈ u775.1 := (fun x hx => by rw [hu775]; exact List.mem_append_left _ hx : ∀ x, x ∈ u747.1 → x ∈ u775.1) b61 mt754
  have et782 : u775.2 b61 = .inl (cy 0, 10, .inl (fun _ => zI 0)) := (hpu775 b61 mt754).trans et754
  have mt783 : b77 ∈ u775.1 := (fun x hx => by rw [hu775]; exact List.mem_append_left _ hx : ∀ x, x ∈ u747.1 → x ∈ u775.1) b77 mt755
  have et783 : u775.2 b77 = .inl (cy 0, 10, .inl (fun _ => zI 0)) := (hpu775 b77 mt755).trans et755
  have mt784 : b95 ∈ u775.1 := (fun x hx => by rw [hu775]; exact List.mem_append_left _ hx : ∀ x, x ∈ u747.1 → x ∈ u775.1) b95 mt756
  have et784 : u775.2 b95 = .inl (cy 0, 202, .inl (fun _ => zI 0)) := (hpu775 b95 mt756).trans et756
  have mt785 : b115 ∈ u775.1 := (fun x hx => by rw [hu775]; exact List.mem_append_left _ hx : ∀ x, x ∈ u747.1 → x ∈ u775.1) b115 mt757
  have et785 : u775.2 b115 = .inl (cy 0, 202, .inl (fun _ => zI 0)) := (hpu775 b115 mt757).trans et757
  have mt786 : b137 ∈ u775.1 := (fun x hx => by rw [hu775]; exact List.mem_append_left _ hx : ∀ x, x ∈ u747.1 → x ∈ u775.1) b137 mt758
  have et786 : u775.2 b137 = .inl (cy 0, 2, .inl (fun _ => zI 0)) := (hpu775 b137 mt758).trans et758
  have mt787 : b161 ∈ u775.1 := (fun x hx => by rw [hu775]; exact List.mem_append_left _ hx : ∀ x, x ∈ u747.1 → x ∈ u775.1) b161 mt759
  have et787 : u775.2 b161 = .inl (cy 0, 2, .inl (fun _ => zI 0)) := (hpu775 b161 mt759).trans et759
  have mt788 : b200 ∈ u775.1 := (fun x hx => by rw [hu775]; exact List.mem_append_left _ hx : ∀ x, x ∈ u747.1 → x ∈ u775.1) b200 mt760
  have et788 : u775.2 b200 = .inl (cy 0, 8, .inl (fun _ => zI 0)) := (hpu775 b200 mt760).trans et760
  have mt789 : b228 ∈ u775.1 := (fun x hx => by rw [hu775]; exact List.mem_append_left _ hx : ∀ x, x ∈ u747.1 → x ∈ u775.1) b228 mt761
  have et789 : u775.2 b228 = .inl (cy 0, 8, .inl (fun _ => zI 0)) := (hpu775 b228 mt761).trans et761
  have mt790 : b258 ∈ u775.1 := (fun x hx => by rw [hu775]; exact List.mem_append_left _ hx : ∀ x, x ∈ u747.1 → x ∈ u775.1) b258 mt762
  have et790 : u775.2 b258 = .inl (cy 0, 8, .inl (fun _ => zI 0)) := (hpu775 b258 mt762).trans et762
  have mt791 : b290 ∈ u775.1 := (fun x hx => by rw [hu775]; exact List.mem_append_left _ hx : ∀ x, x ∈ u747.1 → x ∈ u775.1) b290 mt763
  have et791 : u775.2 b290 = .inl (cy 0, 8, .inl (fun _ => zI 0)) := (hpu775 b290 mt763).trans et763
  have mt792 : b324 ∈ u775.1 := (fun x hx => by rw [hu775]; exact List.mem_append_left _ hx : ∀ x, x ∈ u747.1 → x ∈ u775.1) b324 mt764
  have et792 : u775.2 b324 = .inl (cy 0, 60, .inl (fun _ => zI 0)) := (hpu775 b324 mt764).trans et764
  have mt793 : b360 ∈ u775.1 := (fun x hx => by rw [hu775]; exact List.mem_append_left _ hx : ∀ x, x ∈ u747.1 → x ∈ u775.1) b360 mt765
  have et793 : u775.2 b360 = .inl (cy 0, 6, .inl (fun _ => zI 0)) := (hpu775 b360 mt765).trans et765
  have mt794 : b398 ∈ u775.1 := (fun x hx => by rw [hu775]; exact List.mem_append_left _ hx : ∀ x, x ∈ u747.1 → x ∈ u775.1) b398 mt766
  have et794 : u775.2 b398 = .inl (cy 0, 40, .inl (fun _ => zI 0)) := (hpu775 b398 mt766).trans et766
  have mt795 : b438 ∈ u775.1 := (fun x hx => by rw [hu775]; exact List.mem_append_left _ hx : ∀ x, x ∈ u747.1 → x ∈ u775.1) b438 mt767
  have et795 : u775.2 b438 = .inl (cy 2, 16, .inl (fun _ => zI 0)) := (hpu775 b438 mt767).trans et767
  have mt796 : b480 ∈ u775.1 := (fun x hx => by rw [hu775]; exact List.mem_append_left _ hx : ∀ x, x ∈ u747.1 → x ∈ u775.1) b480 mt768
  have et796 : u775.2 b480 = .inl (cy 0, 10, .inl (fun _ => zI 0)) := (hpu775 b480 mt768).trans et768
  have mt797 : b524 ∈ u775.1 := (fun x hx => by rw [hu775]; exact List.mem_append_left _ hx : ∀ x, x ∈ u747.1 → x ∈ u775.1) b524 mt769
  have et797 : u775.2 b524 = .inl (cy 0, 10, .inl (fun _ => zI 0)) := (hpu775 b524 mt769).trans et769
  have mt798 : b570 ∈ u775.1 := (fun x hx => by rw [hu775]; exact List.mem_append_left _ hx : ∀ x, x ∈ u747.1 → x ∈ u775.1) b570 mt770
  have et798 : u775.2 b570 = .inl (cy 0, 10, .inl (fun _ => zI 0)) := (hpu775 b570 mt770).trans et770
  have mt799 : b618 ∈ u775.1 := (fun x hx => by rw [hu775]; exact List.mem_append_left _ hx : ∀ x, x ∈ u747.1 → x ∈ u775.1) b618 mt771
  have et799 : u775.2 b618 = .inl (cy 0, 16, .inl (fun _ => zI 0)) := (hpu775 b618 mt771).trans et771
  have mt800 : b668 ∈ u775.1 := (fun x hx => by rw [hu775]; exact List.mem_append_left _ hx : ∀ x, x ∈ u747.1 → x ∈ u775.1) b668 mt772
  have et800 : u775.2 b668 = .inl (cy 2, 10, .inl (fun _ => zI 0)) := (hpu775 b668 mt772).trans et772
  have mt801 : b720 ∈ u775.1 := (fun x hx => by rw [hu775]; exact List.mem_append_left _ hx : ∀ x, x ∈ u747.1 → x ∈ u775.1) b720 mt773
  have et801 : u775.2 b720 = .inl (cy 2, 16, .inl (fun _ => zI 0)) := (hpu775 b720 mt773).trans et773
  have mb774 : b774 ∈ u775.1 := by rw [hu775]; exact List.mem_append_right _ List.mem_cons_self
  obtain ⟨k9, hk9⟩ := p_get D u775 mt776
  refine va_putF (C := RX12) (T := TX12) (N := 42) (ci := 11) (ty := tyX12 34) hx hb hts (fun _ h => (List.mem_cons_of_mem _ (List.mem_append_right _ h))) tyX12 tyX12_ok nmX12 hown hI.1 hG.1 hG.2 hS k9 (hk9.trans (by rw [et776])) rfl 34 (by decide) (hts (.fieldLink RX12 96 "StraitSwimModel" "comesBy" "[I") (List.mem_cons_of_mem _ (List.mem_append_left _ (List.mem_append_right _ (List.mem_of_getElem? (i := 9) rfl))))) (fun _ h9 => h9) rfl hin2 rfl (tyX12_ok 34 (by decide)) rfl rfl (Nat.le_of_ble_eq_true rfl) dX12_init_226 (fun H locs hP hD hS => ?_)
  obtain ⟨u802, hu802, hEu802, hpu802, hG⟩ := p_set (e := .inr (11, (.int (zI 0) :: .ref b1 :: .ref b7 :: .ref b15 :: .int (zI 5) :: .int (zI 20) :: .int (zI 0) :: .ref b35 :: .ref b47 :: .ref b61 :: .ref b77 :: .ref b95 :: .ref b115 :: .ref b137 :: .ref b161 :: .int (zI ((-1))) :: .int (zI 0) :: .ref b200 :: .ref b228 :: .ref b258 :: .ref b290 :: .int (zI 0) :: .ref b324 :: .int (zI 0) :: .ref b360 :: .int (zI 0) :: .ref b398 :: .ref b438 :: .ref b480 :: .ref b524 :: .ref b570 :: .ref b618 :: .ref b668 :: .ref b720 :: .ref b774 :: .null :: .null :: .null :: .null :: .null :: .null :: .null :: []))) hG mt776 hk9 hP hD
  have mt803 : a ∈ u802.1 := (fun x hx => by rw [hu802]; exact hx : ∀ x, x ∈ u775.1 → x ∈ u802.1) a mt776
  have mt804 : b1 ∈ u802.1 := (fun x hx => by rw [hu802]; exact hx : ∀ x, x ∈ u775.1 → x ∈ u802.1) b1 mt777
  have et804 : u802.2 b1 = .inl (cy 2, 288, .inl (fun _ => zI 0)) := (hpu802 b1 (fun h => (fun h9 => da_b1 h9.symm) h)).trans et777
  have mt805 : b7 ∈ u802.1 := (fun x hx => by rw [hu802]; exact hx : ∀ x, x ∈ u775.1 → x ∈ u802.1) b7 mt778
  have et805 : u802.2 b7 = .inl (cy 0, 36, .inl (fun _ => zI 0)) := (hpu802 b7 (fun h => (fun h9 => da_b7 h9.symm) h)).trans et778
  have mt806 : b15 ∈ u802.1 := (fun x hx => by rw [hu802]; exact hx : ∀ x, x ∈ u775.1 → x ∈ u802.1) b15 mt779
  have et806 : u802.2 b15 = .inl (cy 0, 36, .inl (fun _ => zI 0)) := (hpu802 b15 (fun h => (fun h9 => da_b15 h9.symm) h)).trans et779
  have mt807 : b35 ∈ u802.1 := (fun x hx => by rw [hu802]; exact hx : ∀ x, x ∈ u775.1 → x ∈ u802.1) b35 mt780
  have et807 : u802.2 b35 = .inl (cy 0, 10, .inl (fun _ => zI 0)) := (hpu802 b35 (fun h => (fun h9 => da_b35 h9.symm) h)).trans et780
  have mt808 : b47 ∈ u802.1 := (fun x hx => by rw [hu802]; exact hx : ∀ x, x ∈ u775.1 → x ∈ u802.1) b47 mt781
  have et808 : u802.2 b47 = .inl (cy 0, 10, .inl (fun _ => zI 0)) := (hpu802 b47 (fun h => (fun h9 => da_b47 h9.symm) h)).trans et781
  have mt809 : b61 ∈ u802.1 := (fun x hx => by rw [hu802]; exact hx : ∀ x, x ∈ u775.1 → x ∈ u802.1) b61 mt782
  have et809 : u802.2 b61 = .inl (cy 0, 10, .inl (fun _ => zI 0)) := (hpu802 b61 (fun h => (fun h9 => da_b61 h9.symm) h)).trans et782
  have mt810 : b77 ∈ u802.1 := (fun x hx => by rw [hu802]; exact hx : ∀ x, x ∈ u775.1 → x ∈ u802.1) b77 mt783
  have et810 : u802.2 b77 = .inl (cy 0, 10, .inl (fun _ => zI 0)) := (hpu802 b77 (fun h => (fun h9 => da_b77 h9.symm) h)).trans et783
  have mt811 : b95 ∈ u802.1 := (fun x hx => by rw [hu802]; exact hx : ∀ x, x ∈ u775.1 → x ∈ u802.1) b95 mt784
  have et811 : u802.2 b95 = .inl (cy 0, 202, .inl (fun _ => zI 0)) := (hpu802 b95 (fun h => (fun h9 => da_b95 h9.symm) h)).trans et784
  have mt812 : b115 ∈ u802.1 := (fun x hx => by rw [hu802]; exact hx : ∀ x, x ∈ u775.1 → x ∈ u802.1) b115 mt785
  have et812 : u802.2 b115 = .inl (cy 0, 202, .inl (fun _ => zI 0)) := (hpu802 b115 (fun h => (fun h9 => da_b115 h9.symm) h)).trans et785
  have mt813 : b137 ∈ u802.1 := (fun x hx => by rw [hu802]; exact hx : ∀ x, x ∈ u775.1 → x ∈ u802.1) b137 mt786
  have et813 : u802.2 b137 = .inl (cy 0, 2, .inl (fun _ => zI 0)) := (hpu802 b137 (fun h => (fun h9 => da_b137 h9.symm) h)).trans et786
  have mt814 : b161 ∈ u802.1 := (fun x hx => by rw [hu802]; exact hx : ∀ x, x ∈ u775.1 → x ∈ u802.1) b161 mt787
  have et814 : u802.2 b161 = .inl (cy 0, 2, .inl (fun _ => zI 0)) := (hpu802 b161 (fun h => (fun h9 => da_b161 h9.symm) h)).trans et787
  have mt815 : b200 ∈ u802.1 := (fun x hx => by rw [hu802]; exact hx : ∀ x, x ∈ u775.1 → x ∈ u802.1) b200 mt788
  have et815 : u802.2 b200 = .inl (cy 0, 8, .inl (fun _ => zI 0)) := (hpu802 b200 (fun h => (fun h9 => da_b200 h9.symm) h)).trans et788
  have mt816 : b228 ∈ u802.1 := (fun x hx => by rw [hu802]; exact hx : ∀ x, x ∈ u775.1 → x ∈ u802.1) b228 mt789
  have et816 : u802.2 b228 = .inl (cy 0, 8, .inl (fun _ => zI 0)) := (hpu802 b228 (fun h => (fun h9 => da_b228 h9.symm) h)).trans et789
  have mt817 : b258 ∈ u802.1 := (fun x hx => by rw [hu802]; exact hx : ∀ x, x ∈ u775.1 → x ∈ u802.1) b258 mt790
  have et817 : u802.2 b258 = .inl (cy 0, 8, .inl (fun _ => zI 0)) := (hpu802 b258 (fun h => (fun h9 => da_b258 h9.symm) h)).trans et790
  have mt818 : b290 ∈ u802.1 := (fun x hx => by rw [hu802]; exact hx : ∀ x, x ∈ u775.1 → x ∈ u802.1) b290 mt791
  have et818 : u802.2 b290 = .inl (cy 0, 8, .inl (fun _ => zI 0)) := (hpu802 b290 (fun h => (fun h9 => da_b290 h9.symm) h)).trans et791
  have mt819 : b324 ∈ u802.1 := (fun x hx => by rw [hu802]; exact hx : ∀ x, x ∈ u775.1 → x ∈ u802.1) b324 mt792
  have et819 : u802.2 b324 = .inl (cy 0, 60, .inl (fun _ => zI 0)) := (hpu802 b324 (fun h => (fun h9 => da_b324 h9.symm) h)).trans et792
  have mt820 : b360 ∈ u802.1 := (fun x hx => by rw [hu802]; exact hx : ∀ x, x ∈ u775.1 → x ∈ u802.1) b360 mt793
  have et820 : u802.2 b360 = .inl (cy 0, 6, .inl (fun _ => zI 0)) := (hpu802 b360 (fun h => (fun h9 => da_b360 h9.symm) h)).trans et793
  have mt821 : b398 ∈ u802.1 := (fun x hx => by rw [hu802]; exact hx : ∀ x, x ∈ u775.1 → x ∈ u802.1) b398 mt794
  have et821 : u802.2 b398 = .inl (cy 0, 40, .inl (fun _ => zI 0)) := (hpu802 b398 (fun h => (fun h9 => da_b398 h9.symm) h)).trans et794
  have mt822 : b438 ∈ u802.1 := (fun x hx => by rw [hu802]; exact hx : ∀ x, x ∈ u775.1 → x ∈ u802.1) b438 mt795
  have et822 : u802.2 b438 = .inl (cy 2, 16, .inl (fun _ => zI 0)) := (hpu802 b438 (fun h => (fun h9 => da_b438 h9.symm) h)).trans et795
  have mt823 : b480 ∈ u802.1 := (fun x hx => by rw [hu802]; exact hx : ∀ x, x ∈ u775.1 → x ∈ u802.1) b480 mt796
  have et823 : u802.2 b480 = .inl (cy 0, 10, .inl (fun _ => zI 0)) := (hpu802 b480 (fun h => (fun h9 => da_b480 h9.symm) h)).trans et796
  have mt824 : b524 ∈ u802.1 := (fun x hx => by rw [hu802]; exact hx : ∀ x, x ∈ u775.1 → x ∈ u802.1) b524 mt797
  have et824 : u802.2 b524 = .inl (cy 0, 10, .inl (fun _ => zI 0)) := (hpu802 b524 (fun h => (fun h9 => da_b524 h9.symm) h)).trans et797
  have mt825 : b570 ∈ u802.1 := (fun x hx => by rw [hu802]; exact hx : ∀ x, x ∈ u775.1 → x ∈ u802.1) b570 mt798
  have et825 : u802.2 b570 = .inl (cy 0, 10, .inl (fun _ => zI 0)) := (hpu802 b570 (fun h => (fun h9 => da_b570 h9.symm) h)).trans et798
  have mt826 : b618 ∈ u802.1 := (fun x hx => by rw [hu802]; exact hx : ∀ x, x ∈ u775.1 → x ∈ u802.1) b618 mt799
  have et826 : u802.2 b618 = .inl (cy 0, 16, .inl (fun _ => zI 0)) := (hpu802 b618 (fun h => (fun h9 => da_b618 h9.symm) h)).trans et799
  have mt827 : b668 ∈ u802.1 := (fun x hx => by rw [hu802]; exact hx : ∀ x, x ∈ u775.1 → x ∈ u802.1) b668 mt800
  have et827 : u802.2 b668 = .inl (cy 2, 10, .inl (fun _ => zI 0)) := (hpu802 b668 (fun h => (fun h9 => da_b668 h9.symm) h)).trans et800
  have mt828 : b720 ∈ u802.1 := (fun x hx => by rw [hu802]; exact hx : ∀ x, x ∈ u775.1 → x ∈ u802.1) b720 mt801
  have et828 : u802.2 b720 = .inl (cy 2, 16, .inl (fun _ => zI 0)) := (hpu802 b720 (fun h => (fun h9 => da_b720 h9.symm) h)).trans et801
  have mt829 : b774 ∈ u802.1 := (fun x hx => by rw [hu802]; exact hx : ∀ x, x ∈ u775.1 → x ∈ u802.1) b774 mb774
  have et829 : u802.2 b774 = .inl (cy 0, 16, .inl (fun _ => zI 0)) := (hpu802 b774 (fun h => (fun h9 => da_b774 h9.symm) h)).trans hEb774
  have hLu802 : u802.1 = ((((((((((((((((((((((((((u.1 ++ [b1]) ++ [b7]) ++ [b15]) ++ [b35]) ++ [b47]) ++ [b61]) ++ [b77]) ++ [b95]) ++ [b115]) ++ [b137]) ++ [b161]) ++ [b200]) ++ [b228]) ++ [b258]) ++ [b290]) ++ [b324]) ++ [b360]) ++ [b398]) ++ [b438]) ++ [b480]) ++ [b524]) ++ [b570]) ++ [b618]) ++ [b668]) ++ [b720]) ++ [b774]) := by rw [hu802, hLu775]
  have hMu802 : ∀ x, x ∈ u.1 → x ∈ u802.1 := fun x hx => by rw [hu802]; exact hMu775 x hx
  have hOu802 : ∀ x, x ∈ u.1 → x ≠ a → u802.2 x = u.2 x := fun x hx ne => (hpu802 x ne).trans (hOu775 x hx ne)
  refine lv_aload_n hx hb dX12_init_229 rfl (lv_at hl 0 rfl) ?_
  refine z_bipush hx hb dX12_init_230 (by decide) ?_
  refine p_newI (z := 16) (M := 16) hx hb (hts (.arrayClass .int) (List.mem_cons_of_mem _ (List.mem_append_left _ (List.mem_append_left _ (List.mem_of_getElem? (i := 5) rfl))))) hI hG hS (by omega) (by omega) (by omega) (Nat.le_of_ble_eq_true rfl) (Nat.le_of_ble_eq_true rfl) dX12_init_232 (fun b830 u831 H hu831 hEb830 hpu831 hnb830 hG hS => ?_)
  have hEb830 : u831.2 b830 = .inl (cy 0, 16, .inl (fun _ => zI 0)) := hEb830
  have fb830 : b830 ∉ ((((((((((((((((((((((((((u.1 ++ [b1]) ++ [b7]) ++ [b15]) ++ [b35]) ++ [b47]) ++ [b61]) ++ [b77]) ++ [b95]) ++ [b115]) ++ [b137]) ++ [b161]) ++ [b200]) ++ [b228]) ++ [b258]) ++ [b290]) ++ [b324]) ++ [b360]) ++ [b398]) ++ [b438]) ++ [b480]) ++ [b524]) ++ [b570]) ++ [b618]) ++ [b668]) ++ [b720]) ++ [b774]) := by rw [← hLu802]; exact hnb830
  have hLu831 : u831.1 = (((((((((((((((((((((((((((u.1 ++ [b1]) ++ [b7]) ++ [b15]) ++ [b35]) ++ [b47]) ++ [b61]) ++ [b77]) ++ [b95]) ++ [b115]) ++ [b137]) ++ [b161]) ++ [b200]) ++ [b228]) ++ [b258]) ++ [b290]) ++ [b324]) ++ [b360]) ++ [b398]) ++ [b438]) ++ [b480]) ++ [b524]) ++ [b570]) ++ [b618]) ++ [b668]) ++ [b720]) ++ [b774]) ++ [b830]) := by rw [hu831, hLu802]
  have hMu831 : ∀ x, x ∈ u.1 → x ∈ u831.1 := fun x hx => by rw [hu831]; exact List.mem_append_left _ (hMu802 x hx)
  have hOu831 : ∀ x, x ∈ u.1 → x ≠ a → u831.2 x = u.2 x := fun x hx ne => (hpu831 x (hMu802 x hx)).trans (hOu802 x hx ne)
  have da_b830 : a ≠ b830 := fun h => hnb830 (h ▸ mt803)
  have db1_b830 : b1 ≠ b830 := fun h => hnb830 (h ▸ mt804)
  have db7_b830 : b7 ≠ b830 := fun h => hnb830 (h ▸ mt805)
  have db15_b830 : b15 ≠ b830 := fun h => hnb830 (h ▸ mt806)
  have db35_b830 : b35 ≠ b830 := fun h => hnb830 (h ▸ mt807)
  have db47_b830 : b47 ≠ b830 := fun h => hnb830 (h ▸ mt808)
  have db61_b830 : b61 ≠ b830 := fun h => hnb830 (h ▸ mt809)
  have db77_b830 : b77 ≠ b830 := fun h => hnb830 (h ▸ mt810)
  have db95_b830 : b95 ≠ b830 := fun h => hnb830 (h ▸ mt811)
  have db115_b830 : b115 ≠ b830 := fun h => hnb830 (h ▸ mt812)
  have db137_b830 : b137 ≠ b830 := fun h => hnb830 (h ▸ mt813)
  have db161_b830 : b161 ≠ b830 := fun h => hnb830 (h ▸ mt814)
  have db200_b830 : b200 ≠ b830 := fun h => hnb830 (h ▸ mt815)
  have db228_b830 : b228 ≠ b830 := fun h => hnb830 (h ▸ mt816)
  have db258_b830 : b258 ≠ b830 := fun h => hnb830 (h ▸ mt817)
  have db290_b830 : b290 ≠ b830 := fun h => hnb830 (h ▸ mt818)
  have db324_b830 : b324 ≠ b830 := fun h => hnb830 (h ▸ mt819)
  have db360_b830 : b360 ≠ b830 := fun h => hnb830 (h ▸ mt820)
  have db398_b830 : b398 ≠ b830 := fun h => hnb830 (h ▸ mt821)
  have db438_b830 : b438 ≠ b830 := fun h => hnb830 (h ▸ mt822)
  have db480_b830 : b480 ≠ b830 := fun h => hnb830 (h ▸ mt823)
  have db524_b830 : b524 ≠ b830 := fun h => hnb830 (h ▸ mt824)
  have db570_b830 : b570 ≠ b830 := fun h => hnb830 (h ▸ mt825)
  have db618_b830 : b618 ≠ b830 := fun h => hnb830 (h ▸ mt826)
  have db668_b830 : b668 ≠ b830 := fun h => hnb830 (h ▸ mt827)
  have db720_b830 : b720 ≠ b830 := fun h => hnb830 (h ▸ mt828)
  have db774_b830 : b774 ≠ b830 := fun h => hnb830 (h ▸ mt829)
  have mt832 : a ∈ u831.1 := (fun x hx => by rw [hu831]; exact List.mem_append_left _ hx : ∀ x, x ∈ u802.1 → x ∈ u831.1) a mt803
  have et832 : u831.2 a = .inr (11, (.int (zI 0) :: .ref b1 :: .ref b7 :: .ref b15 :: .int (zI 5) :: .int (zI 20) :: .int (zI 0) :: .ref b35 :: .ref b47 :: .ref b61 :: .ref b77 :: .ref b95 :: .ref b115 :: .ref b137 :: .ref b161 :: .int (zI ((-1))) :: .int (zI 0) :: .ref b200 :: .ref b228 :: .ref b258 :: .ref b290 :: .int (zI 0) :: .ref b324 :: .int (zI 0) :: .ref b360 :: .int (zI 0) :: .ref b398 :: .ref b438 :: .ref b480 :: .ref b524 :: .ref b570 :: .ref b618 :: .ref b668 :: .ref b720 :: .ref b774 :: .null :: .null :: .null :: .null :: .null :: .null :: .null :: [])) := (hpu831 a mt803).trans hEu802
  have mt833 : b1 ∈ u831.1 := (fun x hx => by rw [hu831]; exact List.mem_append_left _ hx : ∀ x, x ∈ u802.1 → x ∈ u831.1) b1 mt804
  have et833 : u831.2 b1 = .inl (cy 2, 288, .inl (fun _ => zI 0)) := (hpu831 b1 mt804).trans et804
  have mt834 : b7 ∈ u831.1 := (fun x hx => by rw [hu831]; exact List.mem_append_left _ hx : ∀ x, x ∈ u802.1 → x ∈ u831.1) b7 mt805
  have et834 : u831.2 b7 = .inl (cy 0, 36, .inl (fun _ => zI 0)) := (hpu831 b7 mt805).trans et805
  have mt835 : b15 ∈ u831.1 := (fun x hx => by rw [hu831]; exact List.mem_append_left _ hx : ∀ x, x ∈ u802.1 → x ∈ u831.1) b15 mt806
  have et835 : u831.2 b15 = .inl (cy 0, 36, .inl (fun _ => zI 0)) := (hpu831 b15 mt806).trans et806
  have mt836 : b35 ∈ u831.1 := (fun x hx => by rw [hu831]; exact List.mem_append_left _ hx : ∀ x, x ∈ u802.1 → x ∈ u831.1) b35 mt807
  have et836 : u831.2 b35 = .inl (cy 0, 10, .inl (fun _ => zI 0)) := (hpu831 b35 mt807).trans et807
  have mt837 : b47 ∈ u831.1 := (fun x hx => by rw [hu831]; exact List.mem_append_left _ hx : ∀ x, x ∈ u802.1 → x ∈ u831.1) b47 mt808
  have et837 : u831.2 b47 = .inl (cy 0, 10, .inl (fun _ => zI 0)) := (hpu831 b47 mt808).trans et808
  have mt838 : b61 ∈ u831.1 := (fun x hx => by rw [hu831]; exact List.mem_append_left _ hx : ∀ x, x ∈ u802.1 → x ∈ u831.1) b61 mt809
  have et838 : u831.2 b61 = .inl (cy 0, 10, .inl (fun _ => zI 0)) := (hpu831 b61 mt809).trans et809
  have mt839 : b77 ∈ u831.1 := (fun x hx => by rw [hu831]; exact List.mem_append_left _ hx : ∀ x, x ∈ u802.1 → x ∈ u831.1) b77 mt810
  have et839 : u831.2 b77 = .inl (cy 0, 10, .inl (fun _ => zI 0)) := (hpu831 b77 mt810).trans et810
  have mt840 : b95 ∈ u831.1 := (fun x hx => by rw [hu831]; exact List.mem_append_left _ hx : ∀ x, x ∈ u802.1 → x ∈ u831.1) b95 mt811
  have et840 : u831.2 b95 = .inl (cy 0, 202, .inl (fun _ => zI 0)) := (hpu831 b95 mt811).trans et811
  have mt841 : b115 ∈ u831.1 := (fun x hx => by rw [hu831]; exact List.mem_append_left _ hx : ∀ x, x ∈ u802.1 → x ∈ u831.1) b115 mt812
  have et841 : u831.2 b115 = .inl (cy 0, 202, .inl (fun _ => zI 0)) := (hpu831 b115 mt812).trans et812
  have mt842 : b137 ∈ u831.1 := (fun x hx => by rw [hu831]; exact List.mem_append_left _ hx : ∀ x, x ∈ u802.1 → x ∈ u831.1) b137 mt813
  have et842 : u831.2 b137 = .inl (cy 0, 2, .inl (fun _ => zI 0)) := (hpu831 b137 mt813).trans et813
  have mt843 : b161 ∈ u831.1 := (fun x hx => by rw [hu831]; exact List.mem_append_left _ hx : ∀ x, x ∈ u802.1 → x ∈ u831.1) b161 mt814
  have et843 : u831.2 b161 = .inl (cy 0, 2, .inl (fun _ => zI 0)) := (hpu831 b161 mt814).trans et814
  have mt844 : b200 ∈ u831.1 := (fun x hx => by rw [hu831]; exact List.mem_append_left _ hx : ∀ x, x ∈ u802.1 → x ∈ u831.1) b200 mt815
  have et844 : u831.2 b200 = .inl (cy 0, 8, .inl (fun _ => zI 0)) := (hpu831 b200 mt815).trans et815
  have mt845 : b228 ∈ u831.1 := (fun x hx => by rw [hu831]; exact List.mem_append_left _ hx : ∀ x, x ∈ u802.1 → x ∈ u831.1) b228 mt816
  have et845 : u831.2 b228 = .inl (cy 0, 8, .inl (fun _ => zI 0)) := (hpu831 b228 mt816).trans et816
  have mt846 : b258 ∈ u831.1 := (fun x hx => by rw [hu831]; exact List.mem_append_left _ hx : ∀ x, x ∈ u802.1 → x ∈ u831.1) b258 mt817
  have et846 : u831.2 b258 = .inl (cy 0, 8, .inl (fun _ => zI 0)) := (hpu831 b258 mt817).trans et817
  have mt847 : b290 ∈ u831.1 := (fun x hx => by rw [hu831]; exact List.mem_append_left _ hx : ∀ x, x ∈ u802.1 → x ∈ u831.1) b290 mt818
  have et847 : u831.2 b290 = .inl (cy 0, 8, .inl (fun _ => zI 0)) := (hpu831 b290 mt818).trans et818
  have mt848 : b324 ∈ u831.1 := (fun x hx => by rw [hu831]; exact List.mem_append_left _ hx : ∀ x, x ∈ u802.1 → x ∈ u831.1) b324 mt819
  have et848 : u831.2 b324 = .inl (cy 0, 60, .inl (fun _ => zI 0)) := (hpu831 b324 mt819).trans et819
  have mt849 : b360 ∈ u831.1 := (fun x hx => by rw [hu831]; exact List.mem_append_left _ hx : ∀ x, x ∈ u802.1 → x ∈ u831.1) b360 mt820
  have et849 : u831.2 b360 = .inl (cy 0, 6, .inl (fun _ => zI 0)) := (hpu831 b360 mt820).trans et820
  have mt850 : b398 ∈ u831.1 := (fun x hx => by rw [hu831]; exact List.mem_append_left _ hx : ∀ x, x ∈ u802.1 → x ∈ u831.1) b398 mt821
  have et850 : u831.2 b398 = .inl (cy 0, 40, .inl (fun _ => zI 0)) := (hpu831 b398 mt821).trans et821
  have mt851 : b438 ∈ u831.1 := (fun x hx => by rw [hu831]; exact List.mem_append_left _ hx : ∀ x, x ∈ u802.1 → x ∈ u831.1) b438 mt822
  have et851 : u831.2 b438 = .inl (cy 2, 16, .inl (fun _ => zI 0)) := (hpu831 b438 mt822).trans et822
  have mt852 : b480 ∈ u831.1 := (fun x hx => by rw [hu831]; exact List.mem_append_left _ hx : ∀ x, x ∈ u802.1 → x ∈ u831.1) b480 mt823
  have et852 : u831.2 b480 = .inl (cy 0, 10, .inl (fun _ => zI 0)) := (hpu831 b480 mt823).trans et823
  have mt853 : b524 ∈ u831.1 := (fun x hx => by rw [hu831]; exact List.mem_append_left _ hx : ∀ x, x ∈ u802.1 → x ∈ u831.1) b524 mt824
  have et853 : u831.2 b524 = .inl (cy 0, 10, .inl (fun _ => zI 0)) := (hpu831 b524 mt824).trans et824
  have mt854 : b570 ∈ u831.1 := (fun x hx => by rw [hu831]; exact List.mem_append_left _ hx : ∀ x, x ∈ u802.1 → x ∈ u831.1) b570 mt825
  have et854 : u831.2 b570 = .inl (cy 0, 10, .inl (fun _ => zI 0)) := (hpu831 b570 mt825).trans et825
  have mt855 : b618 ∈ u831.1 := (fun x hx => by rw [hu831]; exact List.mem_append_left _ hx : ∀ x, x ∈ u802.1 → x ∈ u831.1) b618 mt826
  have et855 : u831.2 b618 = .inl (cy 0, 16, .inl (fun _ => zI 0)) := (hpu831 b618 mt826).trans et826
  have mt856 : b668 ∈ u831.1 := (fun x hx => by rw [hu831]; exact List.mem_append_left _ hx : ∀ x, x ∈ u802.1 → x ∈ u831.1) b668 mt827
  have et856 : u831.2 b668 = .inl (cy 2, 10, .inl (fun _ => zI 0)) := (hpu831 b668 mt827).trans et827
  have mt857 : b720 ∈ u831.1 := (fun x hx => by rw [hu831]; exact List.mem_append_left _ hx : ∀ x, x ∈ u802.1 → x ∈ u831.1) b720 mt828
  have et857 : u831.2 b720 = .inl (cy 2, 16, .inl (fun _ => zI 0)) := (hpu831 b720 mt828).trans et828
  have mt858 : b774 ∈ u831.1 := (fun x hx => by rw [hu831]; exact List.mem_append_left _ hx : ∀ x, x ∈ u802.1 → x ∈ u831.1) b774 mt829
  have et858 : u831.2 b774 = .inl (cy 0, 16, .inl (fun _ => zI 0)) := (hpu831 b774 mt829).trans et829
  have mb830 : b830 ∈ u831.1 := by rw [hu831]; exact List.mem_append_right _ List.mem_cons_self
  obtain ⟨k9, hk9⟩ := p_get D u831 mt832
  refine va_putF (C := RX12) (T := TX12) (N := 42) (ci := 11) (ty := tyX12 35) hx hb hts (fun _ h => (List.mem_cons_of_mem _ (List.mem_append_right _ h))) tyX12 tyX12_ok nmX12 hown hI.1 hG.1 hG.2 hS k9 (hk9.trans (by rw [et832])) rfl 35 (by decide) (hts (.fieldLink RX12 99 "StraitSwimModel" "queue" "[I") (List.mem_cons_of_mem _ (List.mem_append_left _ (List.mem_append_right _ (List.mem_of_getElem? (i := 10) rfl))))) (fun _ h9 => h9) rfl hin2 rfl (tyX12_ok 35 (by decide)) rfl rfl (Nat.le_of_ble_eq_true rfl) dX12_init_234 (fun H locs hP hD hS => ?_)
  obtain ⟨u859, hu859, hEu859, hpu859, hG⟩ := p_set (e := .inr (11, (.int (zI 0) :: .ref b1 :: .ref b7 :: .ref b15 :: .int (zI 5) :: .int (zI 20) :: .int (zI 0) :: .ref b35 :: .ref b47 :: .ref b61 :: .ref b77 :: .ref b95 :: .ref b115 :: .ref b137 :: .ref b161 :: .int (zI ((-1))) :: .int (zI 0) :: .ref b200 :: .ref b228 :: .ref b258 :: .ref b290 :: .int (zI 0) :: .ref b324 :: .int (zI 0) :: .ref b360 :: .int (zI 0) :: .ref b398 :: .ref b438 :: .ref b480 :: .ref b524 :: .ref b570 :: .ref b618 :: .ref b668 :: .ref b720 :: .ref b774 :: .ref b830 :: .null :: .null :: .null :: .null :: .null :: .null :: []))) hG mt832 hk9 hP hD
  have mt860 : a ∈ u859.1 := (fun x hx => by rw [hu859]; exact hx : ∀ x, x ∈ u831.1 → x ∈ u859.1) a mt832
  have mt861 : b1 ∈ u859.1 := (fun x hx => by rw [hu859]; exact hx : ∀ x, x ∈ u831.1 → x ∈ u859.1) b1 mt833
  have et861 : u859.2 b1 = .inl (cy 2, 288, .inl (fun _ => zI 0)) := (hpu859 b1 (fun h => (fun h9 => da_b1 h9.symm) h)).trans et833
  have mt862 : b7 ∈ u859.1 := (fun x hx => by rw [hu859]; exact hx : ∀ x, x ∈ u831.1 → x ∈ u859.1) b7 mt834
  have et862 : u859.2 b7 = .inl (cy 0, 36, .inl (fun _ => zI 0)) := (hpu859 b7 (fun h => (fun h9 => da_b7 h9.symm) h)).trans et834
  have mt863 : b15 ∈ u859.1 := (fun x hx => by rw [hu859]; exact hx : ∀ x, x ∈ u831.1 → x ∈ u859.1) b15 mt835
  have et863 : u859.2 b15 = .inl (cy 0, 36, .inl (fun _ => zI 0)) := (hpu859 b15 (fun h => (fun h9 => da_b15 h9.symm) h)).trans et835
  have mt864 : b35 ∈ u859.1 := (fun x hx => by rw [hu859]; exact hx : ∀ x, x ∈ u831.1 → x ∈ u859.1) b35 mt836
  have et864 : u859.2 b35 = .inl (cy 0, 10, .inl (fun _ => zI 0)) := (hpu859 b35 (fun h => (fun h9 => da_b35 h9.symm) h)).trans et836
  have mt865 : b47 ∈ u859.1 := (fun x hx => by rw [hu859]; exact hx : ∀ x, x ∈ u831.1 → x ∈ u859.1) b47 mt837
  have et865 : u859.2 b47 = .inl (cy 0, 10, .inl (fun _ => zI 0)) := (hpu859 b47 (fun h => (fun h9 => da_b47 h9.symm) h)).trans et837
  have mt866 : b61 ∈ u859.1 := (fun x hx => by rw [hu859]; exact hx : ∀ x, x ∈ u831.1 → x ∈ u859.1) b61 mt838
  have et866 : u859.2 b61 = .inl (cy 0, 10, .inl (fun _ => zI 0)) := (hpu859 b61 (fun h => (fun h9 => da_b61 h9.symm) h)).trans et838
  have mt867 : b77 ∈ u859.1 := (fun x hx => by rw [hu859]; exact hx : ∀ x, x ∈ u831.1 → x ∈ u859.1) b77 mt839
  have et867 : u859.2 b77 = .inl (cy 0, 10, .inl (fun _ => zI 0)) := (hpu859 b77 (fun h => (fun h9 => da_b77 h9.symm) h)).trans et839
  have mt868 : b95 ∈ u859.1 := (fun x hx => by rw [hu859]; exact hx : ∀ x, x ∈ u831.1 → x ∈ u859.1) b95 mt840
  have et868 : u859.2 b95 = .inl (cy 0, 202, .inl (fun _ => zI 0)) := (hpu859 b95 (fun h => (fun h9 => da_b95 h9.symm) h)).trans et840
  have mt869 : b115 ∈ u859.1 := (fun x hx => by rw [hu859]; exact hx : ∀ x, x ∈ u831.1 → x ∈ u859.1) b115 mt841
  have et869 : u859.2 b115 = .inl (cy 0, 202, .inl (fun _ => zI 0)) := (hpu859 b115 (fun h => (fun h9 => da_b115 h9.symm) h)).trans et841
  have mt870 : b137 ∈ u859.1 := (fun x hx => by rw [hu859]; exact hx : ∀ x, x ∈ u831.1 → x ∈ u859.1) b137 mt842
  have et870 : u859.2 b137 = .inl (cy 0, 2, .inl (fun _ => zI 0)) := (hpu859 b137 (fun h => (fun h9 => da_b137 h9.symm) h)).trans et842
  have mt871 : b161 ∈ u859.1 := (fun x hx => by rw [hu859]; exact hx : ∀ x, x ∈ u831.1 → x ∈ u859.1) b161 mt843
  have et871 : u859.2 b161 = .inl (cy 0, 2, .inl (fun _ => zI 0)) := (hpu859 b161 (fun h => (fun h9 => da_b161 h9.symm) h)).trans et843
  have mt872 : b200 ∈ u859.1 := (fun x hx => by rw [hu859]; exact hx : ∀ x, x ∈ u831.1 → x ∈ u859.1) b200 mt844
  have et872 : u859.2 b200 = .inl (cy 0, 8, .inl (fun _ => zI 0)) := (hpu859 b200 (fun h => (fun h9 => da_b200 h9.symm) h)).trans et844
  have mt873 : b228 ∈ u859.1 := (fun x hx => by rw [hu859]; exact hx : ∀ x, x ∈ u831.1 → x ∈ u859.1) b228 mt845
  have et873 : u859.2 b228 = .inl (cy 0, 8, .inl (fun _ => zI 0)) := (hpu859 b228 (fun h => (fun h9 => da_b228 h9.symm) h)).trans et845
  have mt874 : b258 ∈ u859.1 := (fun x hx => by rw [hu859]; exact hx : ∀ x, x ∈ u831.1 → x ∈ u859.1) b258 mt846
  have et874 : u859.2 b258 = .inl (cy 0, 8, .inl (fun _ => zI 0)) := (hpu859 b258 (fun h => (fun h9 => da_b258 h9.symm) h)).trans et846
  have mt875 : b290 ∈ u859.1 := (fun x hx => by rw [hu859]; exact hx : ∀ x, x ∈ u831.1 → x ∈ u859.1) b290 mt847
  have et875 : u859.2 b290 = .inl (cy 0, 8, .inl (fun _ => zI 0)) := (hpu859 b290 (fun h => (fun h9 => da_b290 h9.symm) h)).trans et847
  have mt876 : b324 ∈ u859.1 := (fun x hx => by rw [hu859]; exact hx : ∀ x, x ∈ u831.1 → x ∈ u859.1) b324 mt848
  have et876 : u859.2 b324 = .inl (cy 0, 60, .inl (fun _ => zI 0)) := (hpu859 b324 (fun h => (fun h9 => da_b324 h9.symm) h)).trans et848
  have mt877 : b360 ∈ u859.1 := (fun x hx => by rw [hu859]; exact hx : ∀ x, x ∈ u831.1 → x ∈ u859.1) b360 mt849
  have et877 : u859.2 b360 = .inl (cy 0, 6, .inl (fun _ => zI 0)) := (hpu859 b360 (fun h => (fun h9 => da_b360 h9.symm) h)).trans et849
  have mt878 : b398 ∈ u859.1 := (fun x hx => by rw [hu859]; exact hx : ∀ x, x ∈ u831.1 → x ∈ u859.1) b398 mt850
  have et878 : u859.2 b398 = .inl (cy 0, 40, .inl (fun _ => zI 0)) := (hpu859 b398 (fun h => (fun h9 => da_b398 h9.symm) h)).trans et850
  have mt879 : b438 ∈ u859.1 := (fun x hx => by rw [hu859]; exact hx : ∀ x, x ∈ u831.1 → x ∈ u859.1) b438 mt851
  have et879 : u859.2 b438 = .inl (cy 2, 16, .inl (fun _ => zI 0)) := (hpu859 b438 (fun h => (fun h9 => da_b438 h9.symm) h)).trans et851
  have mt880 : b480 ∈ u859.1 := (fun x hx => by rw [hu859]; exact hx : ∀ x, x ∈ u831.1 → x ∈ u859.1) b480 mt852
  have et880 : u859.2 b480 = .inl (cy 0, 10, .inl (fun _ => zI 0)) := (hpu859 b480 (fun h => (fun h9 => da_b480 h9.symm) h)).trans et852
  have mt881 : b524 ∈ u859.1 := (fun x hx => by rw [hu859]; exact hx : ∀ x, x ∈ u831.1 → x ∈ u859.1) b524 mt853
  have et881 : u859.2 b524 = .inl (cy 0, 10, .inl (fun _ => zI 0)) := (hpu859 b524 (fun h => (fun h9 => da_b524 h9.symm) h)).trans et853
  have mt882 : b570 ∈ u859.1 := (fun x hx => by rw [hu859]; exact hx : ∀ x, x ∈ u831.1 → x ∈ u859.1) b570 mt854
  have et882 : u859.2 b570 = .inl (cy 0, 10, .inl (fun _ => zI 0)) := (hpu859 b570 (fun h => (fun h9 => da_b570 h9.symm) h)).trans et854
  have mt883 : b618 ∈ u859.1 := (fun x hx => by rw [hu859]; exact hx : ∀ x, x ∈ u831.1 → x ∈ u859.1) b618 mt855
  have et883 : u859.2 b618 = .inl (cy 0, 16, .inl (fun _ => zI 0)) := (hpu859 b618 (fun h => (fun h9 => da_b618 h9.symm) h)).trans et855
  have mt884 : b668 ∈ u859.1 := (fun x hx => by rw [hu859]; exact hx : ∀ x, x ∈ u831.1 → x ∈ u859.1) b668 mt856
  have et884 : u859.2 b668 = .inl (cy 2, 10, .inl (fun _ => zI 0)) := (hpu859 b668 (fun h => (fun h9 => da_b668 h9.symm) h)).trans et856
  have mt885 : b720 ∈ u859.1 := (fun x hx => by rw [hu859]; exact hx : ∀ x, x ∈ u831.1 → x ∈ u859.1) b720 mt857
  have et885 : u859.2 b720 = .inl (cy 2, 16, .inl (fun _ => zI 0)) := (hpu859 b720 (fun h => (fun h9 => da_b720 h9.symm) h)).trans et857
  have mt886 : b774 ∈ u859.1 := (fun x hx => by rw [hu859]; exact hx : ∀ x, x ∈ u831.1 → x ∈ u859.1) b774 mt858
  have et886 : u859.2 b774 = .inl (cy 0, 16, .inl (fun _ => zI 0)) := (hpu859 b774 (fun h => (fun h9 => da_b774 h9.symm) h)).trans et858
  have mt887 : b830 ∈ u859.1 := (fun x hx => by rw [hu859]; exact hx : ∀ x, x ∈ u831.1 → x ∈ u859.1) b830 mb830
  have et887 : u859.2 b830 = .inl (cy 0, 16, .inl (fun _ => zI 0)) := (hpu859 b830 (fun h => (fun h9 => da_b830 h9.symm) h)).trans hEb830
  have hLu859 : u859.1 = (((((((((((((((((((((((((((u.1 ++ [b1]) ++ [b7]) ++ [b15]) ++ [b35]) ++ [b47]) ++ [b61]) ++ [b77]) ++ [b95]) ++ [b115]) ++ [b137]) ++ [b161]) ++ [b200]) ++ [b228]) ++ [b258]) ++ [b290]) ++ [b324]) ++ [b360]) ++ [b398]) ++ [b438]) ++ [b480]) ++ [b524]) ++ [b570]) ++ [b618]) ++ [b668]) ++ [b720]) ++ [b774]) ++ [b830]) := by rw [hu859, hLu831]
  have hMu859 : ∀ x, x ∈ u.1 → x ∈ u859.1 := fun x hx => by rw [hu859]; exact hMu831 x hx
  have hOu859 : ∀ x, x ∈ u.1 → x ≠ a → u859.2 x = u.2 x := fun x hx ne => (hpu859 x ne).trans (hOu831 x hx ne)
  refine lv_aload_n hx hb dX12_init_237 rfl (lv_at hl 0 rfl) ?_
  refine z_bipush hx hb dX12_init_238 (by decide) ?_
  refine p_newI (z := 8) (M := 8) hx hb (hts (.arrayClass .int) (List.mem_cons_of_mem _ (List.mem_append_left _ (List.mem_append_left _ (List.mem_of_getElem? (i := 5) rfl))))) hI hG hS (by omega) (by omega) (by omega) (Nat.le_of_ble_eq_true rfl) (Nat.le_of_ble_eq_true rfl) dX12_init_240 (fun b888 u889 H hu889 hEb888 hpu889 hnb888 hG hS => ?_)
  have hEb888 : u889.2 b888 = .inl (cy 0, 8, .inl (fun _ => zI 0)) := hEb888
  have fb888 : b888 ∉ (((((((((((((((((((((((((((u.1 ++ [b1]) ++ [b7]) ++ [b15]) ++ [b35]) ++ [b47]) ++ [b61]) ++ [b77]) ++ [b95]) ++ [b115]) ++ [b137]) ++ [b161]) ++ [b200]) ++ [b228]) ++ [b258]) ++ [b290]) ++ [b324]) ++ [b360]) ++ [b398]) ++ [b438]) ++ [b480]) ++ [b524]) ++ [b570]) ++ [b618]) ++ [b668]) ++ [b720]) ++ [b774]) ++ [b830]) := by rw [← hLu859]; exact hnb888
  have hLu889 : u889.1 = ((((((((((((((((((((((((((((u.1 ++ [b1]) ++ [b7]) ++ [b15]) ++ [b35]) ++ [b47]) ++ [b61]) ++ [b77]) ++ [b95]) ++ [b115]) ++ [b137]) ++ [b161]) ++ [b200]) ++ [b228]) ++ [b258]) ++ [b290]) ++ [b324]) ++ [b360]) ++ [b398]) ++ [b438]) ++ [b480]) ++ [b524]) ++ [b570]) ++ [b618]) ++ [b668]) ++ [b720]) ++ [b774]) ++ [b830]) ++ [b888]) := by rw [hu889, hLu859]
  have hMu889 : ∀ x, x ∈ u.1 → x ∈ u889.1 := fun x hx => by rw [hu889]; exact List.mem_append_left _ (hMu859 x hx)
  have hOu889 : ∀ x, x ∈ u.1 → x ≠ a → u889.2 x = u.2 x := fun x hx ne => (hpu889 x (hMu859 x hx)).trans (hOu859 x hx ne)
  have da_b888 : a ≠ b888 := fun h => hnb888 (h ▸ mt860)
  have db1_b888 : b1 ≠ b888 := fun h => hnb888 (h ▸ mt861)
  have db7_b888 : b7 ≠ b888 := fun h => hnb888 (h ▸ mt862)
  have db15_b888 : b15 ≠ b888 := fun h => hnb888 (h ▸ mt863)
  have db35_b888 : b35 ≠ b888 := fun h => hnb888 (h ▸ mt864)
  have db47_b888 : b47 ≠ b888 := fun h => hnb888 (h ▸ mt865)
  have db61_b888 : b61 ≠ b888 := fun h => hnb888 (h ▸ mt866)
  have db77_b888 : b77 ≠ b888 := fun h => hnb888 (h ▸ mt867)
  have db95_b888 : b95 ≠ b888 := fun h => hnb888 (h ▸ mt868)
  have db115_b888 : b115 ≠ b888 := fun h => hnb888 (h ▸ mt869)
  have db137_b888 : b137 ≠ b888 := fun h => hnb888 (h ▸ mt870)
  have db161_b888 : b161 ≠ b888 := fun h => hnb888 (h ▸ mt871)
  have db200_b888 : b200 ≠ b888 := fun h => hnb888 (h ▸ mt872)
  have db228_b888 : b228 ≠ b888 := fun h => hnb888 (h ▸ mt873)
  have db258_b888 : b258 ≠ b888 := fun h => hnb888 (h ▸ mt874)
  have db290_b888 : b290 ≠ b888 := fun h => hnb888 (h ▸ mt875)
  have db324_b888 : b324 ≠ b888 := fun h => hnb888 (h ▸ mt876)
  have db360_b888 : b360 ≠ b888 := fun h => hnb888 (h ▸ mt877)
  have db398_b888 : b398 ≠ b888 := fun h => hnb888 (h ▸ mt878)
  have db438_b888 : b438 ≠ b888 := fun h => hnb888 (h ▸ mt879)
  have db480_b888 : b480 ≠ b888 := fun h => hnb888 (h ▸ mt880)
  have db524_b888 : b524 ≠ b888 := fun h => hnb888 (h ▸ mt881)
  have db570_b888 : b570 ≠ b888 := fun h => hnb888 (h ▸ mt882)
  have db618_b888 : b618 ≠ b888 := fun h => hnb888 (h ▸ mt883)
  have db668_b888 : b668 ≠ b888 := fun h => hnb888 (h ▸ mt884)
  have db720_b888 : b720 ≠ b888 := fun h => hnb888 (h ▸ mt885)
  have db774_b888 : b774 ≠ b888 := fun h => hnb888 (h ▸ mt886)
  have db830_b888 : b830 ≠ b888 := fun h => hnb888 (h ▸ mt887)
  have mt890 : a ∈ u889.1 := (fun x hx => by rw [hu889]; exact List.mem_append_left _ hx : ∀ x, x ∈ u859.1 → x ∈ u889.1) a mt860
  have et890 : u889.2 a = .inr (11, (.int (zI 0) :: .ref b1 :: .ref b7 :: .ref b15 :: .int (zI 5) :: .int (zI 20) :: .int (zI 0) :: .ref b35 :: .ref b47 :: .ref b61 :: .ref b77 :: .ref b95 :: .ref b115 :: .ref b137 :: .ref b161 :: .int (zI ((-1))) :: .int (zI 0) :: .ref b200 :: .ref b228 :: .ref b258 :: .ref b290 :: .int (zI 0) :: .ref b324 :: .int (zI 0) :: .ref b360 :: .int (zI 0) :: .ref b398 :: .ref b438 :: .ref b480 :: .ref b524 :: .ref b570 :: .ref b618 :: .ref b668 :: .ref b720 :: .ref b774 :: .ref b830 :: .null :: .null :: .null :: .null :: .null :: .null :: [])) := (hpu889 a mt860).trans hEu859
  have mt891 : b1 ∈ u889.1 := (fun x hx => by rw [hu889]; exact List.mem_append_left _ hx : ∀ x, x ∈ u859.1 → x ∈ u889.1) b1 mt861
  have et891 : u889.2 b1 = .inl (cy 2, 288, .inl (fun _ => zI 0)) := (hpu889 b1 mt861).trans et861
  have mt892 : b7 ∈ u889.1 := (fun x hx => by rw [hu889]; exact List.mem_append_left _ hx : ∀ x, x ∈ u859.1 → x ∈ u889.1) b7 mt862
  have et892 : u889.2 b7 = .inl (cy 0, 36, .inl (fun _ => zI 0)) := (hpu889 b7 mt862).trans et862
  have mt893 : b15 ∈ u889.1 := (fun x hx => by rw [hu889]; exact List.mem_append_left _ hx : ∀ x, x ∈ u859.1 → x ∈ u889.1) b15 mt863
  have et893 : u889.2 b15 = .inl (cy 0, 36, .inl (fun _ => zI 0)) := (hpu889 b15 mt863).trans et863
  have mt894 : b35 ∈ u889.1 := (fun x hx => by rw [hu889]; exact List.mem_append_left _ hx : ∀ x, x ∈ u859.1 → x ∈ u889.1) b35 mt864
  have et894 : u889.2 b35 = .inl (cy 0, 10, .inl (fun _ => zI 0)) := (hpu889 b35 mt864).trans et864
  have mt895 : b47 ∈ u889.1 := (fun x hx => by rw [hu889]; exact List.mem_append_left _ hx : ∀ x, x ∈ u859.1 → x ∈ u889.1) b47 mt865
  have et895 : u889.2 b47 = .inl (cy 0, 10, .inl (fun _ => zI 0)) := (hpu889 b47 mt865).trans et865
  have mt896 : b61 ∈ u889.1 := (fun x hx => by rw [hu889]; exact List.mem_append_left _ hx : ∀ x, x ∈ u859.1 → x ∈ u889.1) b61 mt866
  have et896 : u889.2 b61 = .inl (cy 0, 10, .inl (fun _ => zI 0)) := (hpu889 b61 mt866).trans et866
  have mt897 : b77 ∈ u889.1 := (fun x hx => by rw [hu889]; exact List.mem_append_left _ hx : ∀ x, x ∈ u859.1 → x ∈ u889.1) b77 mt867
  have et897 : u889.2 b77 = .inl (cy 0, 10, .inl (fun _ => zI 0)) := (hpu889 b77 mt867).trans et867
  have mt898 : b95 ∈ u889.1 := (fun x hx => by rw [hu889]; exact List.mem_append_left _ hx : ∀ x, x ∈ u859.1 → x ∈ u889.1) b95 mt868
  have et898 : u889.2 b95 = .inl (cy 0, 202, .inl (fun _ => zI 0)) := (hpu889 b95 mt868).trans et868
  have mt899 : b115 ∈ u889.1 := (fun x hx => by rw [hu889]; exact List.mem_append_left _ hx : ∀ x, x ∈ u859.1 → x ∈ u889.1) b115 mt869
  have et899 : u889.2 b115 = .inl (cy 0, 202, .inl (fun _ => zI 0)) := (hpu889 b115 mt869).trans et869
  have mt900 : b137 ∈ u889.1 := (fun x hx => by rw [hu889]; exact List.mem_append_left _ hx : ∀ x, x ∈ u859.1 → x ∈ u889.1) b137 mt870
  have et900 : u889.2 b137 = .inl (cy 0, 2, .inl (fun _ => zI 0)) := (hpu889 b137 mt870).trans et870
  have mt901 : b161 ∈ u889.1 := (fun x hx => by rw [hu889]; exact List.mem_append_left _ hx : ∀ x, x ∈ u859.1 → x ∈ u889.1) b161 mt871
  have et901 : u889.2 b161 = .inl (cy 0, 2, .inl (fun _ => zI 0)) := (hpu889 b161 mt871).trans et871
  have mt902 : b200 ∈ u889.1 := (fun x hx => by rw [hu889]; exact List.mem_append_left _ hx : ∀ x, x ∈ u859.1 → x ∈ u889.1) b200 mt872
  have et902 : u889.2 b200 = .inl (cy 0, 8, .inl (fun _ => zI 0)) := (hpu889 b200 mt872).trans et872
  have mt903 : b228 ∈ u889.1 := (fun x hx => by rw [hu889]; exact List.mem_append_left _ hx : ∀ x, x ∈ u859.1 → x ∈ u889.1) b228 mt873
  have et903 : u889.2 b228 = .inl (cy 0, 8, .inl (fun _ => zI 0)) := (hpu889 b228 mt873).trans et873
  have mt904 : b258 ∈ u889.1 := (fun x hx => by rw [hu889]; exact List.mem_append_left _ hx : ∀ x, x ∈ u859.1 → x ∈ u889.1) b258 mt874
  have et904 : u889.2 b258 = .inl (cy 0, 8, .inl (fun _ => zI 0)) := (hpu889 b258 mt874).trans et874
  have mt905 : b290 ∈ u889.1 := (fun x hx => by rw [hu889]; exact List.mem_append_left _ hx : ∀ x, x ∈ u859.1 → x ∈ u889.1) b290 mt875
  have et905 : u889.2 b290 = .inl (cy 0, 8, .inl (fun _ => zI 0)) := (hpu889 b290 mt875).trans et875
  have mt906 : b324 ∈ u889.1 := (fun x hx => by rw [hu889]; exact List.mem_append_left _ hx : ∀ x, x ∈ u859.1 → x ∈ u889.1) b324 mt876
  have et906 : u889.2 b324 = .inl (cy 0, 60, .inl (fun _ => zI 0)) := (hpu889 b324 mt876).trans et876
  have mt907 : b360 ∈ u889.1 := (fun x hx => by rw [hu889]; exact List.mem_append_left _ hx : ∀ x, x ∈ u859.1 → x ∈ u889.1) b360 mt877
  have et907 : u889.2 b360 = .inl (cy 0, 6, .inl (fun _ => zI 0)) := (hpu889 b360 mt877).trans et877
  have mt908 : b398 ∈ u889.1 := (fun x hx => by rw [hu889]; exact List.mem_append_left _ hx : ∀ x, x ∈ u859.1 → x ∈ u889.1) b398 mt878
  have et908 : u889.2 b398 = .inl (cy 0, 40, .inl (fun _ => zI 0)) := (hpu889 b398 mt878).trans et878
  have mt909 : b438 ∈ u889.1 := (fun x hx => by rw [hu889]; exact List.mem_append_left _ hx : ∀ x, x ∈ u859.1 → x ∈ u889.1) b438 mt879
  have et909 : u889.2 b438 = .inl (cy 2, 16, .inl (fun _ => zI 0)) := (hpu889 b438 mt879).trans et879
  have mt910 : b480 ∈ u889.1 := (fun x hx => by rw [hu889]; exact List.mem_append_left _ hx : ∀ x, x ∈ u859.1 → x ∈ u889.1) b480 mt880
  have et910 : u889.2 b480 = .inl (cy 0, 10, .inl (fun _ => zI 0)) := (hpu889 b480 mt880).trans et880
  have mt911 : b524 ∈ u889.1 := (fun x hx => by rw [hu889]; exact List.mem_append_left _ hx : ∀ x, x ∈ u859.1 → x ∈ u889.1) b524 mt881
  have et911 : u889.2 b524 = .inl (cy 0, 10, .inl (fun _ => zI 0)) := (hpu889 b524 mt881).trans et881
  have mt912 : b570 ∈ u889.1 := (fun x hx => by rw [hu889]; exact List.mem_append_left _ hx : ∀ x, x ∈ u859.1 → x ∈ u889.1) b570 mt882
  have et912 : u889.2 b570 = .inl (cy 0, 10, .inl (fun _ => zI 0)) := (hpu889 b570 mt882).trans et882
  have mt913 : b618 ∈ u889.1 := (fun x hx => by rw [hu889]; exact List.mem_append_left _ hx : ∀ x, x ∈ u859.1 → x ∈ u889.1) b618 mt883
  have et913 : u889.2 b618 = .inl (cy 0, 16, .inl (fun _ => zI 0)) := (hpu889 b618 mt883).trans et883
  have mt914 : b668 ∈ u889.1 := (fun x hx => by rw [hu889]; exact List.mem_append_left _ hx : ∀ x, x ∈ u859.1 → x ∈ u889.1) b668 mt884
  have et914 : u889.2 b668 = .inl (cy 2, 10, .inl (fun _ => zI 0)) := (hpu889 b668 mt884).trans et884
  have mt915 : b720 ∈ u889.1 := (fun x hx => by rw [hu889]; exact List.mem_append_left _ hx : ∀ x, x ∈ u859.1 → x ∈ u889.1) b720 mt885
  have et915 : u889.2 b720 = .inl (cy 2, 16, .inl (fun _ => zI 0)) := (hpu889 b720 mt885).trans et885
  have mt916 : b774 ∈ u889.1 := (fun x hx => by rw [hu889]; exact List.mem_append_left _ hx : ∀ x, x ∈ u859.1 → x ∈ u889.1) b774 mt886
  have et916 : u889.2 b774 = .inl (cy 0, 16, .inl (fun _ => zI 0)) := (hpu889 b774 mt886).trans et886
  have mt917 : b830 ∈ u889.1 := (fun x hx => by rw [hu889]; exact List.mem_append_left _ hx : ∀ x, x ∈ u859.1 → x ∈ u889.1) b830 mt887
  have et917 : u889.2 b830 = .inl (cy 0, 16, .inl (fun _ => zI 0)) := (hpu889 b830 mt887).trans et887
  have mb888 : b888 ∈ u889.1 := by rw [hu889]; exact List.mem_append_right _ List.mem_cons_self
  obtain ⟨k9, hk9⟩ := p_get D u889 mt890
  refine va_putF (C := RX12) (T := TX12) (N := 42) (ci := 11) (ty := tyX12 36) hx hb hts (fun _ h => (List.mem_cons_of_mem _ (List.mem_append_right _ h))) tyX12 tyX12_ok nmX12 hown hI.1 hG.1 hG.2 hS k9 (hk9.trans (by rw [et890])) rfl 36 (by decide) (hts (.fieldLink RX12 102 "StraitSwimModel" "held" "[I") (List.mem_cons_of_mem _ (List.mem_append_left _ (List.mem_append_right _ (List.mem_of_getElem? (i := 11) rfl))))) (fun _ h9 => h9) rfl hin2 rfl (tyX12_ok 36 (by decide)) rfl rfl (Nat.le_of_ble_eq_true rfl) dX12_init_242 (fun H locs hP hD hS => ?_)
  obtain ⟨u918, hu918, hEu918, hpu918, hG⟩ := p_set (e := .inr (11, (.int (zI 0) :: .ref b1 :: .ref b7 :: .ref b15 :: .int (zI 5) :: .int (zI 20) :: .int (zI 0) :: .ref b35 :: .ref b47 :: .ref b61 :: .ref b77 :: .ref b95 :: .ref b115 :: .ref b137 :: .ref b161 :: .int (zI ((-1))) :: .int (zI 0) :: .ref b200 :: .ref b228 :: .ref b258 :: .ref b290 :: .int (zI 0) :: .ref b324 :: .int (zI 0) :: .ref b360 :: .int (zI 0) :: .ref b398 :: .ref b438 :: .ref b480 :: .ref b524 :: .ref b570 :: .ref b618 :: .ref b668 :: .ref b720 :: .ref b774 :: .ref b830 :: .ref b888 :: .null :: .null :: .null :: .null :: .null :: []))) hG mt890 hk9 hP hD
  have mt919 : a ∈ u918.1 := (fun x hx => by rw [hu918]; exact hx : ∀ x, x ∈ u889.1 → x ∈ u918.1) a mt890
  have mt920 : b1 ∈ u918.1 := (fun x hx => by rw [hu918]; exact hx : ∀ x, x ∈ u889.1 → x ∈ u918.1) b1 mt891
  have et920 : u918.2 b1 = .inl (cy 2, 288, .inl (fun _ => zI 0)) := (hpu918 b1 (fun h => (fun h9 => da_b1 h9.symm) h)).trans et891
  have mt921 : b7 ∈ u918.1 := (fun x hx => by rw [hu918]; exact hx : ∀ x, x ∈ u889.1 → x ∈ u918.1) b7 mt892
  have et921 : u918.2 b7 = .inl (cy 0, 36, .inl (fun _ => zI 0)) := (hpu918 b7 (fun h => (fun h9 => da_b7 h9.symm) h)).trans et892
  have mt922 : b15 ∈ u918.1 := (fun x hx => by rw [hu918]; exact hx : ∀ x, x ∈ u889.1 → x ∈ u918.1) b15 mt893
  have et922 : u918.2 b15 = .inl (cy 0, 36, .inl (fun _ => zI 0)) := (hpu918 b15 (fun h => (fun h9 => da_b15 h9.symm) h)).trans et893
  have mt923 : b35 ∈ u918.1 := (fun x hx => by rw [hu918]; exact hx : ∀ x, x ∈ u889.1 → x ∈ u918.1) b35 mt894
  have et923 : u918.2 b35 = .inl (cy 0, 10, .inl (fun _ => zI 0)) := (hpu918 b35 (fun h => (fun h9 => da_b35 h9.symm) h)).trans et894
  have mt924 : b47 ∈ u918.1 := (fun x hx => by rw [hu918]; exact hx : ∀ x, x ∈ u889.1 → x ∈ u918.1) b47 mt895
  have et924 : u918.2 b47 = .inl (cy 0, 10, .inl (fun _ => zI 0)) := (hpu918 b47 (fun h => (fun h9 => da_b47 h9.symm) h)).trans et895
  have mt925 : b61 ∈ u918.1 := (fun x hx => by rw [hu918]; exact hx : ∀ x, x ∈ u889.1 → x ∈ u918.1) b61 mt896
  have et925 : u918.2 b61 = .inl (cy 0, 10, .inl (fun _ => zI 0)) := (hpu918 b61 (fun h => (fun h9 => da_b61 h9.symm) h)).trans et896
  have mt926 : b77 ∈ u918.1 := (fun x hx => by rw [hu918]; exact hx : ∀ x, x ∈ u889.1 → x ∈ u918.1) b77 mt897
  have et926 : u918.2 b77 = .inl (cy 0, 10, .inl (fun _ => zI 0)) := (hpu918 b77 (fun h => (fun h9 => da_b77 h9.symm) h)).trans et897
  have mt927 : b95 ∈ u918.1 := (fun x hx => by rw [hu918]; exact hx : ∀ x, x ∈ u889.1 → x ∈ u918.1) b95 mt898
  have et927 : u918.2 b95 = .inl (cy 0, 202, .inl (fun _ => zI 0)) := (hpu918 b95 (fun h => (fun h9 => da_b95 h9.symm) h)).trans et898
  have mt928 : b115 ∈ u918.1 := (fun x hx => by rw [hu918]; exact hx : ∀ x, x ∈ u889.1 → x ∈ u918.1) b115 mt899
  have et928 : u918.2 b115 = .inl (cy 0, 202, .inl (fun _ => zI 0)) := (hpu918 b115 (fun h => (fun h9 => da_b115 h9.symm) h)).trans et899
  have mt929 : b137 ∈ u918.1 := (fun x hx => by rw [hu918]; exact hx : ∀ x, x ∈ u889.1 → x ∈ u918.1) b137 mt900
  have et929 : u918.2 b137 = .inl (cy 0, 2, .inl (fun _ => zI 0)) := (hpu918 b137 (fun h => (fun h9 => da_b137 h9.symm) h)).trans et900
  have mt930 : b161 ∈ u918.1 := (fun x hx => by rw [hu918]; exact hx : ∀ x, x ∈ u889.1 → x ∈ u918.1) b161 mt901
  have et930 : u918.2 b161 = .inl (cy 0, 2, .inl (fun _ => zI 0)) := (hpu918 b161 (fun h => (fun h9 => da_b161 h9.symm) h)).trans et901
  have mt931 : b200 ∈ u918.1 := (fun x hx => by rw [hu918]; exact hx : ∀ x, x ∈ u889.1 → x ∈ u918.1) b200 mt902
  have et931 : u918.2 b200 = .inl (cy 0, 8, .inl (fun _ => zI 0)) := (hpu918 b200 (fun h => (fun h9 => da_b200 h9.symm) h)).trans et902
  have mt932 : b228 ∈ u918.1 := (fun x hx => by rw [hu918]; exact hx : ∀ x, x ∈ u889.1 → x ∈ u918.1) b228 mt903
  have et932 : u918.2 b228 = .inl (cy 0, 8, .inl (fun _ => zI 0)) := (hpu918 b228 (fun h => (fun h9 => da_b228 h9.symm) h)).trans et903
  have mt933 : b258 ∈ u918.1 := (fun x hx => by rw [hu918]; exact hx : ∀ x, x ∈ u889.1 → x ∈ u918.1) b258 mt904
  have et933 : u918.2 b258 = .inl (cy 0, 8, .inl (fun _ => zI 0)) := (hpu918 b258 (fun h => (fun h9 => da_b258 h9.symm) h)).trans et904
  have mt934 : b290 ∈ u918.1 := (fun x hx => by rw [hu918]; exact hx : ∀ x, x ∈ u889.1 → x ∈ u918.1) b290 mt905
  have et934 : u918.2 b290 = .inl (cy 0, 8, .inl (fun _ => zI 0)) := (hpu918 b290 (fun h => (fun h9 => da_b290 h9.symm) h)).trans et905
  have mt935 : b324 ∈ u918.1 := (fun x hx => by rw [hu918]; exact hx : ∀ x, x ∈ u889.1 → x ∈ u918.1) b324 mt906
  have et935 : u918.2 b324 = .inl (cy 0, 60, .inl (fun _ => zI 0)) := (hpu918 b324 (fun h => (fun h9 => da_b324 h9.symm) h)).trans et906
  have mt936 : b360 ∈ u918.1 := (fun x hx => by rw [hu918]; exact hx : ∀ x, x ∈ u889.1 → x ∈ u918.1) b360 mt907
  have et936 : u918.2 b360 = .inl (cy 0, 6, .inl (fun _ => zI 0)) := (hpu918 b360 (fun h => (fun h9 => da_b360 h9.symm) h)).trans et907
  have mt937 : b398 ∈ u918.1 := (fun x hx => by rw [hu918]; exact hx : ∀ x, x ∈ u889.1 → x ∈ u918.1) b398 mt908
  have et937 : u918.2 b398 = .inl (cy 0, 40, .inl (fun _ => zI 0)) := (hpu918 b398 (fun h => (fun h9 => da_b398 h9.symm) h)).trans et908
  have mt938 : b438 ∈ u918.1 := (fun x hx => by rw [hu918]; exact hx : ∀ x, x ∈ u889.1 → x ∈ u918.1) b438 mt909
  have et938 : u918.2 b438 = .inl (cy 2, 16, .inl (fun _ => zI 0)) := (hpu918 b438 (fun h => (fun h9 => da_b438 h9.symm) h)).trans et909
  have mt939 : b480 ∈ u918.1 := (fun x hx => by rw [hu918]; exact hx : ∀ x, x ∈ u889.1 → x ∈ u918.1) b480 mt910
  have et939 : u918.2 b480 = .inl (cy 0, 10, .inl (fun _ => zI 0)) := (hpu918 b480 (fun h => (fun h9 => da_b480 h9.symm) h)).trans et910
  have mt940 : b524 ∈ u918.1 := (fun x hx => by rw [hu918]; exact hx : ∀ x, x ∈ u889.1 → x ∈ u918.1) b524 mt911
  have et940 : u918.2 b524 = .inl (cy 0, 10, .inl (fun _ => zI 0)) := (hpu918 b524 (fun h => (fun h9 => da_b524 h9.symm) h)).trans et911
  have mt941 : b570 ∈ u918.1 := (fun x hx => by rw [hu918]; exact hx : ∀ x, x ∈ u889.1 → x ∈ u918.1) b570 mt912
  have et941 : u918.2 b570 = .inl (cy 0, 10, .inl (fun _ => zI 0)) := (hpu918 b570 (fun h => (fun h9 => da_b570 h9.symm) h)).trans et912
  have mt942 : b618 ∈ u918.1 := (fun x hx => by rw [hu918]; exact hx : ∀ x, x ∈ u889.1 → x ∈ u918.1) b618 mt913
  have et942 : u918.2 b618 = .inl (cy 0, 16, .inl (fun _ => zI 0)) := (hpu918 b618 (fun h => (fun h9 => da_b618 h9.symm) h)).trans et913
  have mt943 : b668 ∈ u918.1 := (fun x hx => by rw [hu918]; exact hx : ∀ x, x ∈ u889.1 → x ∈ u918.1) b668 mt914
  have et943 : u918.2 b668 = .inl (cy 2, 10, .inl (fun _ => zI 0)) := (hpu918 b668 (fun h => (fun h9 => da_b668 h9.symm) h)).trans et914
  have mt944 : b720 ∈ u918.1 := (fun x hx => by rw [hu918]; exact hx : ∀ x, x ∈ u889.1 → x ∈ u918.1) b720 mt915
  have et944 : u918.2 b720 = .inl (cy 2, 16, .inl (fun _ => zI 0)) := (hpu918 b720 (fun h => (fun h9 => da_b720 h9.symm) h)).trans et915
  have mt945 : b774 ∈ u918.1 := (fun x hx => by rw [hu918]; exact hx : ∀ x, x ∈ u889.1 → x ∈ u918.1) b774 mt916
  have et945 : u918.2 b774 = .inl (cy 0, 16, .inl (fun _ => zI 0)) := (hpu918 b774 (fun h => (fun h9 => da_b774 h9.symm) h)).trans et916
  have mt946 : b830 ∈ u918.1 := (fun x hx => by rw [hu918]; exact hx : ∀ x, x ∈ u889.1 → x ∈ u918.1) b830 mt917
  have et946 : u918.2 b830 = .inl (cy 0, 16, .inl (fun _ => zI 0)) := (hpu918 b830 (fun h => (fun h9 => da_b830 h9.symm) h)).trans et917
  have mt947 : b888 ∈ u918.1 := (fun x hx => by rw [hu918]; exact hx : ∀ x, x ∈ u889.1 → x ∈ u918.1) b888 mb888
  have et947 : u918.2 b888 = .inl (cy 0, 8, .inl (fun _ => zI 0)) := (hpu918 b888 (fun h => (fun h9 => da_b888 h9.symm) h)).trans hEb888
  have hLu918 : u918.1 = ((((((((((((((((((((((((((((u.1 ++ [b1]) ++ [b7]) ++ [b15]) ++ [b35]) ++ [b47]) ++ [b61]) ++ [b77]) ++ [b95]) ++ [b115]) ++ [b137]) ++ [b161]) ++ [b200]) ++ [b228]) ++ [b258]) ++ [b290]) ++ [b324]) ++ [b360]) ++ [b398]) ++ [b438]) ++ [b480]) ++ [b524]) ++ [b570]) ++ [b618]) ++ [b668]) ++ [b720]) ++ [b774]) ++ [b830]) ++ [b888]) := by rw [hu918, hLu889]
  have hMu918 : ∀ x, x ∈ u.1 → x ∈ u918.1 := fun x hx => by rw [hu918]; exact hMu889 x hx
  have hOu918 : ∀ x, x ∈ u.1 → x ≠ a → u918.2 x = u.2 x := fun x hx ne => (hpu918 x ne).trans (hOu889 x hx ne)
  refine lv_aload_n hx hb dX12_init_245 rfl (lv_at hl 0 rfl) ?_
  refine z_bipush hx hb dX12_init_246 (by decide) ?_
  refine p_newI (z := 8) (M := 8) hx hb (hts (.arrayClass .int) (List.mem_cons_of_mem _ (List.mem_append_left _ (List.mem_append_left _ (List.mem_of_getElem? (i := 5) rfl))))) hI hG hS (by omega) (by omega) (by omega) (Nat.le_of_ble_eq_true rfl) (Nat.le_of_ble_eq_true rfl) dX12_init_248 (fun b948 u949 H hu949 hEb948 hpu949 hnb948 hG hS => ?_)
  have hEb948 : u949.2 b948 = .inl (cy 0, 8, .inl (fun _ => zI 0)) := hEb948
  have fb948 : b948 ∉ ((((((((((((((((((((((((((((u.1 ++ [b1]) ++ [b7]) ++ [b15]) ++ [b35]) ++ [b47]) ++ [b61]) ++ [b77]) ++ [b95]) ++ [b115]) ++ [b137]) ++ [b161]) ++ [b200]) ++ [b228]) ++ [b258]) ++ [b290]) ++ [b324]) ++ [b360]) ++ [b398]) ++ [b438]) ++ [b480]) ++ [b524]) ++ [b570]) ++ [b618]) ++ [b668]) ++ [b720]) ++ [b774]) ++ [b830]) ++ [b888]) := by rw [← hLu918]; exact hnb948
  have hLu949 : u949.1 = (((((((((((((((((((((((((((((u.1 ++ [b1]) ++ [b7]) ++ [b15]) ++ [b35]) ++ [b47]) ++ [b61]) ++ [b77]) ++ [b95]) ++ [b115]) ++ [b137]) ++ [b161]) ++ [b200]) ++ [b228]) ++ [b258]) ++ [b290]) ++ [b324]) ++ [b360]) ++ [b398]) ++ [b438]) ++ [b480]) ++ [b524]) ++ [b570]) ++ [b618]) ++ [b668]) ++ [b720]) ++ [b774]) ++ [b830]) ++ [b888]) ++ [b948]) := by rw [hu949, hLu918]
  have hMu949 : ∀ x, x ∈ u.1 → x ∈ u949.1 := fun x hx => by rw [hu949]; exact List.mem_append_left _ (hMu918 x hx)
  have hOu949 : ∀ x, x ∈ u.1 → x ≠ a → u949.2 x = u.2 x := fun x hx ne => (hpu949 x (hMu918 x hx)).trans (hOu918 x hx ne)
  have da_b948 : a ≠ b948 := fun h => hnb948 (h ▸ mt919)
  have db1_b948 : b1 ≠ b948 := fun h => hnb948 (h ▸ mt920)
  have db7_b948 : b7 ≠ b948 := fun h => hnb948 (h ▸ mt921)
  have db15_b948 : b15 ≠ b948 := fun h => hnb948 (h ▸ mt922)
  have db35_b948 : b35 ≠ b948 := fun h => hnb948 (h ▸ mt923)
  have db47_b948 : b47 ≠ b948 := fun h => hnb948 (h ▸ mt924)
  have db61_b948 : b61 ≠ b948 := fun h => hnb948 (h ▸ mt925)
  have db77_b948 : b77 ≠ b948 := fun h => hnb948 (h ▸ mt926)
  have db95_b948 : b95 ≠ b948 := fun h => hnb948 (h ▸ mt927)
  have db115_b948 : b115 ≠ b948 := fun h => hnb948 (h ▸ mt928)
  have db137_b948 : b137 ≠ b948 := fun h => hnb948 (h ▸ mt929)
  have db161_b948 : b161 ≠ b948 := fun h => hnb948 (h ▸ mt930)
  have db200_b948 : b200 ≠ b948 := fun h => hnb948 (h ▸ mt931)
  have db228_b948 : b228 ≠ b948 := fun h => hnb948 (h ▸ mt932)
  have db258_b948 : b258 ≠ b948 := fun h => hnb948 (h ▸ mt933)
  have db290_b948 : b290 ≠ b948 := fun h => hnb948 (h ▸ mt934)
  have db324_b948 : b324 ≠ b948 := fun h => hnb948 (h ▸ mt935)
  have db360_b948 : b360 ≠ b948 := fun h => hnb948 (h ▸ mt936)
  have db398_b948 : b398 ≠ b948 := fun h => hnb948 (h ▸ mt937)
  have db438_b948 : b438 ≠ b948 := fun h => hnb948 (h ▸ mt938)
  have db480_b948 : b480 ≠ b948 := fun h => hnb948 (h ▸ mt939)
  have db524_b948 : b524 ≠ b948 := fun h => hnb948 (h ▸ mt940)
  have db570_b948 : b570 ≠ b948 := fun h => hnb948 (h ▸ mt941)
  have db618_b948 : b618 ≠ b948 := fun h => hnb948 (h ▸ mt942)
  have db668_b948 : b668 ≠ b948 := fun h => hnb948 (h ▸ mt943)
  have db720_b948 : b720 ≠ b948 := fun h => hnb948 (h ▸ mt944)
  have db774_b948 : b774 ≠ b948 := fun h => hnb948 (h ▸ mt945)
  have db830_b948 : b830 ≠ b948 := fun h => hnb948 (h ▸ mt946)
  have db888_b948 : b888 ≠ b948 := fun h => hnb948 (h ▸ mt947)
  have mt950 : a ∈ u949.1 := (fun x hx => by rw [hu949]; exact List.mem_append_left _ hx : ∀ x, x ∈ u918.1 → x ∈ u949.1) a mt919
  have et950 : u949.2 a = .inr (11, (.int (zI 0) :: .ref b1 :: .ref b7 :: .ref b15 :: .int (zI 5) :: .int (zI 20) :: .int (zI 0) :: .ref b35 :: .ref b47 :: .ref b61 :: .ref b77 :: .ref b95 :: .ref b115 :: .ref b137 :: .ref b161 :: .int (zI ((-1))) :: .int (zI 0) :: .ref b200 :: .ref b228 :: .ref b258 :: .ref b290 :: .int (zI 0) :: .ref b324 :: .int (zI 0) :: .ref b360 :: .int (zI 0) :: .ref b398 :: .ref b438 :: .ref b480 :: .ref b524 :: .ref b570 :: .ref b618 :: .ref b668 :: .ref b720 :: .ref b774 :: .ref b830 :: .ref b888 :: .null :: .null :: .null :: .null :: .null :: [])) := (hpu949 a mt919).trans hEu918
  have mt951 : b1 ∈ u949.1 := (fun x hx => by rw [hu949]; exact List.mem_append_left _ hx : ∀ x, x ∈ u918.1 → x ∈ u949.1) b1 mt920
  have et951 : u949.2 b1 = .inl (cy 2, 288, .inl (fun _ => zI 0)) := (hpu949 b1 mt920).trans et920
  have mt952 : b7 ∈ u949.1 := (fun x hx => by rw [hu949]; exact List.mem_append_left _ hx : ∀ x, x ∈ u918.1 → x ∈ u949.1) b7 mt921
  have et952 : u949.2 b7 = .inl (cy 0, 36, .inl (fun _ => zI 0)) := (hpu949 b7 mt921).trans et921
  have mt953 : b15 ∈ u949.1 := (fun x hx => by rw [hu949]; exact List.mem_append_left _ hx : ∀ x, x ∈ u918.1 → x ∈ u949.1) b15 mt922
  have et953 : u949.2 b15 = .inl (cy 0, 36, .inl (fun _ => zI 0)) := (hpu949 b15 mt922).trans et922
  have mt954 : b35 ∈ u949.1 := (fun x hx => by rw [hu949]; exact List.mem_append_left _ hx : ∀ x, x ∈ u918.1 → x ∈ u949.1) b35 mt923
  have et954 : u949.2 b35 = .inl (cy 0, 10, .inl (fun _ => zI 0)) := (hpu949 b35 mt923).trans et923
  have mt955 : b47 ∈ u949.1 := (fun x hx => by rw [hu949]; exact List.mem_append_left _ hx : ∀ x, x ∈ u918.1 → x ∈ u949.1) b47 mt924
  have et955 : u949.2 b47 = .inl (cy 0, 10, .inl (fun _ => zI 0)) := (hpu949 b47 mt924).trans et924
  have mt956 : b61 ∈ u949.1 := (fun x hx => by rw [hu949]; exact List.mem_append_left _ hx : ∀ x, x ∈ u918.1 → x ∈ u949.1) b61 mt925
  have et956 : u949.2 b61 = .inl (cy 0, 10, .inl (fun _ => zI 0)) := (hpu949 b61 mt925).trans et925
  have mt957 : b77 ∈ u949.1 := (fun x hx => by rw [hu949]; exact List.mem_append_left _ hx : ∀ x, x ∈ u918.1 → x ∈ u949.1) b77 mt926
  have et957 : u949.2 b77 = .inl (cy 0, 10, .inl (fun _ => zI 0)) := (hpu949 b77 mt926).trans et926
  have mt958 : b95 ∈ u949.1 := (fun x hx => by rw [hu949]; exact List.mem_append_left _ hx : ∀ x, x ∈ u918.1 → x ∈ u949.1) b95 mt927
  have et958 : u949.2 b95 = .inl (cy 0, 202, .inl (fun _ => zI 0)) := (hpu949 b95 mt927).trans et927
  have mt959 : b115 ∈ u949.1 := (fun x hx => by rw [hu949]; exact List.mem_append_left _ hx : ∀ x, x ∈ u918.1 → x ∈ u949.1) b115 mt928
  have et959 : u949.2 b115 = .inl (cy 0, 202, .inl (fun _ => zI 0)) := (hpu949 b115 mt928).trans et928
  have mt960 : b137 ∈ u949.1 := (fun x hx => by rw [hu949]; exact List.mem_append_left _ hx : ∀ x, x ∈ u918.1 → x ∈ u949.1) b137 mt929
  have et960 : u949.2 b137 = .inl (cy 0, 2, .inl (fun _ => zI 0)) := (hpu949 b137 mt929).trans et929
  have mt961 : b161 ∈ u949.1 := (fun x hx => by rw [hu949]; exact List.mem_append_left _ hx : ∀ x, x ∈ u918.1 → x ∈ u949.1) b161 mt930
  have et961 : u949.2 b161 = .inl (cy 0, 2, .inl (fun _ => zI 0)) := (hpu949 b161 mt930).trans et930
  have mt962 : b200 ∈ u949.1 := (fun x hx => by rw [hu949]; exact List.mem_append_left _ hx : ∀ x, x ∈ u918.1 → x ∈ u949.1) b200 mt931
  have et962 : u949.2 b200 = .inl (cy 0, 8, .inl (fun _ => zI 0)) := (hpu949 b200 mt931).trans et931
  have mt963 : b228 ∈ u949.1 := (fun x hx => by rw [hu949]; exact List.mem_append_left _ hx : ∀ x, x ∈ u918.1 → x ∈ u949.1) b228 mt932
  have et963 : u949.2 b228 = .inl (cy 0, 8, .inl (fun _ => zI 0)) := (hpu949 b228 mt932).trans et932
  have mt964 : b258 ∈ u949.1 := (fun x hx => by rw [hu949]; exact List.mem_append_left _ hx : ∀ x, x ∈ u918.1 → x ∈ u949.1) b258 mt933
  have et964 : u949.2 b258 = .inl (cy 0, 8, .inl (fun _ => zI 0)) := (hpu949 b258 mt933).trans et933
  have mt965 : b290 ∈ u949.1 := (fun x hx => by rw [hu949]; exact List.mem_append_left _ hx : ∀ x, x ∈ u918.1 → x ∈ u949.1) b290 mt934
  have et965 : u949.2 b290 = .inl (cy 0, 8, .inl (fun _ => zI 0)) := (hpu949 b290 mt934).trans et934
  have mt966 : b324 ∈ u949.1 := (fun x hx => by rw [hu949]; exact List.mem_append_left _ hx : ∀ x, x ∈ u918.1 → x ∈ u949.1) b324 mt935
  have et966 : u949.2 b324 = .inl (cy 0, 60, .inl (fun _ => zI 0)) := (hpu949 b324 mt935).trans et935
  have mt967 : b360 ∈ u949.1 := (fun x hx => by rw [hu949]; exact List.mem_append_left _ hx : ∀ x, x ∈ u918.1 → x ∈ u949.1) b360 mt936
  have et967 : u949.2 b360 = .inl (cy 0, 6, .inl (fun _ => zI 0)) := (hpu949 b360 mt936).trans et936
  have mt968 : b398 ∈ u949.1 := (fun x hx => by rw [hu949]; exact List.mem_append_left _ hx : ∀ x, x ∈ u918.1 → x ∈ u949.1) b398 mt937
  have et968 : u949.2 b398 = .inl (cy 0, 40, .inl (fun _ => zI 0)) := (hpu949 b398 mt937).trans et937
  have mt969 : b438 ∈ u949.1 := (fun x hx => by rw [hu949]; exact List.mem_append_left _ hx : ∀ x, x ∈ u918.1 → x ∈ u949.1) b438 mt938
  have et969 : u949.2 b438 = .inl (cy 2, 16, .inl (fun _ => zI 0)) := (hpu949 b438 mt938).trans et938
  have mt970 : b480 ∈ u949.1 := (fun x hx => by rw [hu949]; exact List.mem_append_left _ hx : ∀ x, x ∈ u918.1 → x ∈ u949.1) b480 mt939
  have et970 : u949.2 b480 = .inl (cy 0, 10, .inl (fun _ => zI 0)) := (hpu949 b480 mt939).trans et939
  have mt971 : b524 ∈ u949.1 := (fun x hx => by rw [hu949]; exact List.mem_append_left _ hx : ∀ x, x ∈ u918.1 → x ∈ u949.1) b524 mt940
  have et971 : u949.2 b524 = .inl (cy 0, 10, .inl (fun _ => zI 0)) := (hpu949 b524 mt940).trans et940
  have mt972 : b570 ∈ u949.1 := (fun x hx => by rw [hu949]; exact List.mem_append_left _ hx : ∀ x, x ∈ u918.1 → x ∈ u949.1) b570 mt941
  have et972 : u949.2 b570 = .inl (cy 0, 10, .inl (fun _ => zI 0)) := (hpu949 b570 mt941).trans et941
  have mt973 : b618 ∈ u949.1 := (fun x hx => by rw [hu949]; exact List.mem_append_left _ hx : ∀ x, x ∈ u918.1 → x ∈ u949.1) b618 mt942
  have et973 : u949.2 b618 = .inl (cy 0, 16, .inl (fun _ => zI 0)) := (hpu949 b618 mt942).trans et942
  have mt974 : b668 ∈ u949.1 := (fun x hx => by rw [hu949]; exact List.mem_append_left _ hx : ∀ x, x ∈ u918.1 → x ∈ u949.1) b668 mt943
  have et974 : u949.2 b668 = .inl (cy 2, 10, .inl (fun _ => zI 0)) := (hpu949 b668 mt943).trans et943
  have mt975 : b720 ∈ u949.1 := (fun x hx => by rw [hu949]; exact List.mem_append_left _ hx : ∀ x, x ∈ u918.1 → x ∈ u949.1) b720 mt944
  have et975 : u949.2 b720 = .inl (cy 2, 16, .inl (fun _ => zI 0)) := (hpu949 b720 mt944).trans et944
  have mt976 : b774 ∈ u949.1 := (fun x hx => by rw [hu949]; exact List.mem_append_left _ hx : ∀ x, x ∈ u918.1 → x ∈ u949.1) b774 mt945
  have et976 : u949.2 b774 = .inl (cy 0, 16, .inl (fun _ => zI 0)) := (hpu949 b774 mt945).trans et945
  have mt977 : b830 ∈ u949.1 := (fun x hx => by rw [hu949]; exact List.mem_append_left _ hx : ∀ x, x ∈ u918.1 → x ∈ u949.1) b830 mt946
  have et977 : u949.2 b830 = .inl (cy 0, 16, .inl (fun _ => zI 0)) := (hpu949 b830 mt946).trans et946
  have mt978 : b888 ∈ u949.1 := (fun x hx => by rw [hu949]; exact List.mem_append_left _ hx : ∀ x, x ∈ u918.1 → x ∈ u949.1) b888 mt947
  have et978 : u949.2 b888 = .inl (cy 0, 8, .inl (fun _ => zI 0)) := (hpu949 b888 mt947).trans et947
  have mb948 : b948 ∈ u949.1 := by rw [hu949]; exact List.mem_append_right _ List.mem_cons_self
  obtain ⟨k9, hk9⟩ := p_get D u949 mt950
  refine va_putF (C := RX12) (T := TX12) (N := 42) (ci := 11) (ty := tyX12 37) hx hb hts (fun _ h => (List.mem_cons_of_mem _ (List.mem_append_right _ h))) tyX12 tyX12_ok nmX12 hown hI.1 hG.1 hG.2 hS k9 (hk9.trans (by rw [et950])) rfl 37 (by decide) (hts (.fieldLink RX12 105 "StraitSwimModel" "heldNumber" "[I") (List.mem_cons_of_mem _ (List.mem_append_left _ (List.mem_append_right _ (List.mem_of_getElem? (i := 12) rfl))))) (fun _ h9 => h9) rfl hin2 rfl (tyX12_ok 37 (by decide)) rfl rfl (Nat.le_of_ble_eq_true rfl) dX12_init_250 (fun H locs hP hD hS => ?_)
  obtain ⟨u979, hu979, hEu979, hpu979, hG⟩ := p_set (e := .inr (11, (.int (zI 0) :: .ref b1 :: .ref b7 :: .ref b15 :: .int (zI 5) :: .int (zI 20) :: .int (zI 0) :: .ref b35 :: .ref b47 :: .ref b61 :: .ref b77 :: .ref b95 :: .ref b115 :: .ref b137 :: .ref b161 :: .int (zI ((-1))) :: .int (zI 0) :: .ref b200 :: .ref b228 :: .ref b258 :: .ref b290 :: .int (zI 0) :: .ref b324 :: .int (zI 0) :: .ref b360 :: .int (zI 0) :: .ref b398 :: .ref b438 :: .ref b480 :: .ref b524 :: .ref b570 :: .ref b618 :: .ref b668 :: .ref b720 :: .ref b774 :: .ref b830 :: .ref b888 :: .ref b948 :: .null :: .null :: .null :: .null :: []))) hG mt950 hk9 hP hD
  have mt980 : a ∈ u979.1 := (fun x hx => by rw [hu979]; exact hx : ∀ x, x ∈ u949.1 → x ∈ u979.1) a mt950
  have mt981 : b1 ∈ u979.1 := (fun x hx => by rw [hu979]; exact hx : ∀ x, x ∈ u949.1 → x ∈ u979.1) b1 mt951
  have et981 : u979.2 b1 = .inl (cy 2, 288, .inl (fun _ => zI 0)) := (hpu979 b1 (fun h => (fun h9 => da_b1 h9.symm) h)).trans et951
  have mt982 : b7 ∈ u979.1 := (fun x hx => by rw [hu979]; exact hx : ∀ x, x ∈ u949.1 → x ∈ u979.1) b7 mt952
  have et982 : u979.2 b7 = .inl (cy 0, 36, .inl (fun _ => zI 0)) := (hpu979 b7 (fun h => (fun h9 => da_b7 h9.symm) h)).trans et952
  have mt983 : b15 ∈ u979.1 := (fun x hx => by rw [hu979]; exact hx : ∀ x, x ∈ u949.1 → x ∈ u979.1) b15 mt953
  have et983 : u979.2 b15 = .inl (cy 0, 36, .inl (fun _ => zI 0)) := (hpu979 b15 (fun h => (fun h9 => da_b15 h9.symm) h)).trans et953
  have mt984 : b35 ∈ u979.1 := (fun x hx => by rw [hu979]; exact hx : ∀ x, x ∈ u949.1 → x ∈ u979.1) b35 mt954
  have et984 : u979.2 b35 = .inl (cy 0, 10, .inl (fun _ => zI 0)) := (hpu979 b35 (fun h => (fun h9 => da_b35 h9.symm) h)).trans et954
  have mt985 : b47 ∈ u979.1 := (fun x hx => by rw [hu979]; exact hx : ∀ x, x ∈ u949.1 → x ∈ u979.1) b47 mt955
  have et985 : u979.2 b47 = .inl (cy 0, 10, .inl (fun _ => zI 0)) := (hpu979 b47 (fun h => (fun h9 => da_b47 h9.symm) h)).trans et955
  have mt986 : b61 ∈ u979.1 := (fun x hx => by rw [hu979]; exact hx : ∀ x, x ∈ u949.1 → x ∈ u979.1) b61 mt956
  have et986 : u979.2 b61 = .inl (cy 0, 10, .inl (fun _ => zI 0)) := (hpu979 b61 (fun h => (fun h9 => da_b61 h9.symm) h)).trans et956
  have mt987 : b77 ∈ u979.1 := (fun x hx => by rw [hu979]; exact hx : ∀ x, x ∈ u949.1 → x ∈ u979.1) b77 mt957
  have et987 : u979.2 b77 = .inl (cy 0, 10, .inl (fun _ => zI 0)) := (hpu979 b77 (fun h => (fun h9 => da_b77 h9.symm) h)).trans et957
  have mt988 : b95 ∈ u979.1 := (fun x hx => by rw [hu979]; exact hx : ∀ x, x ∈ u949.1 → x ∈ u979.1) b95 mt958
  have et988 : u979.2 b95 = .inl (cy 0, 202, .inl (fun _ => zI 0)) := (hpu979 b95 (fun h => (fun h9 => da_b95 h9.symm) h)).trans et958
  have mt989 : b115 ∈ u979.1 := (fun x hx => by rw [hu979]; exact hx : ∀ x, x ∈ u949.1 → x ∈ u979.1) b115 mt959
  have et989 : u979.2 b115 = .inl (cy 0, 202, .inl (fun _ => zI 0)) := (hpu979 b115 (fun h => (fun h9 => da_b115 h9.symm) h)).trans et959
  have mt990 : b137 ∈ u979.1 := (fun x hx => by rw [hu979]; exact hx : ∀ x, x ∈ u949.1 → x ∈ u979.1) b137 mt960
  have et990 : u979.2 b137 = .inl (cy 0, 2, .inl (fun _ => zI 0)) := (hpu979 b137 (fun h => (fun h9 => da_b137 h9.symm) h)).trans et960
  have mt991 : b161 ∈ u979.1 := (fun x hx => by rw [hu979]; exact hx : ∀ x, x ∈ u949.1 → x ∈ u979.1) b161 mt961
  have et991 : u979.2 b161 = .inl (cy 0, 2, .inl (fun _ => zI 0)) := (hpu979 b161 (fun h => (fun h9 => da_b161 h9.symm) h)).trans et961
  have mt992 : b200 ∈ u979.1 := (fun x hx => by rw [hu979]; exact hx : ∀ x, x ∈ u949.1 → x ∈ u979.1) b200 mt962
  have et992 : u979.2 b200 = .inl (cy 0, 8, .inl (fun _ => zI 0)) := (hpu979 b200 (fun h => (fun h9 => da_b200 h9.symm) h)).trans et962
  have mt993 : b228 ∈ u979.1 := (fun x hx => by rw [hu979]; exact hx : ∀ x, x ∈ u949.1 → x ∈ u979.1) b228 mt963
  have et993 : u979.2 b228 = .inl (cy 0, 8, .inl (fun _ => zI 0)) := (hpu979 b228 (fun h => (fun h9 => da_b228 h9.symm) h)).trans et963
  have mt994 : b258 ∈ u979.1 := (fun x hx => by rw [hu979]; exact hx : ∀ x, x ∈ u949.1 → x ∈ u979.1) b258 mt964
  have et994 : u979.2 b258 = .inl (cy 0, 8, .inl (fun _ => zI 0)) := (hpu979 b258 (fun h => (fun h9 => da_b258 h9.symm) h)).trans et964
  have mt995 : b290 ∈ u979.1 := (fun x hx => by rw [hu979]; exact hx : ∀ x, x ∈ u949.1 → x ∈ u979.1) b290 mt965
  have et995 : u979.2 b290 = .inl (cy 0, 8, .inl (fun _ => zI 0)) := (hpu979 b290 (fun h => (fun h9 => da_b290 h9.symm) h)).trans et965
  have mt996 : b324 ∈ u979.1 := (fun x hx => by rw [hu979]; exact hx : ∀ x, x ∈ u949.1 → x ∈ u979.1) b324 mt966
  have et996 : u979.2 b324 = .inl (cy 0, 60, .inl (fun _ => zI 0)) := (hpu979 b324 (fun h => (fun h9 => da_b324 h9.symm) h)).trans et966
  have mt997 : b360 ∈ u979.1 := (fun x hx => by rw [hu979]; exact hx : ∀ x, x ∈ u949.1 → x ∈ u979.1) b360 mt967
  have et997 : u979.2 b360 = .inl (cy 0, 6, .inl (fun _ => zI 0)) := (hpu979 b360 (fun h => (fun h9 => da_b360 h9.symm) h)).trans et967
  have mt998 : b398 ∈ u979.1 := (fun x hx => by rw [hu979]; exact hx : ∀ x, x ∈ u949.1 → x ∈ u979.1) b398 mt968
  have et998 : u979.2 b398 = .inl (cy 0, 40, .inl (fun _ => zI 0)) := (hpu979 b398 (fun h => (fun h9 => da_b398 h9.symm) h)).trans et968
  have mt999 : b438 ∈ u979.1 := (fun x hx => by rw [hu979]; exact hx : ∀ x, x ∈ u949.1 → x ∈ u979.1) b438 mt969
  have et999 : u979.2 b438 = .inl (cy 2, 16, .inl (fun _ => zI 0)) := (hpu979 b438 (fun h => (fun h9 => da_b438 h9.symm) h)).trans et969
  have mt1000 : b480 ∈ u979.1 := (fun x hx => by rw [hu979]; exact hx : ∀ x, x ∈ u949.1 → x ∈ u979.1) b480 mt970
  have et1000 : u979.2 b480 = .inl (cy 0, 10, .inl (fun _ => zI 0)) := (hpu979 b480 (fun h => (fun h9 => da_b480 h9.symm) h)).trans et970
  have mt1001 : b524 ∈ u979.1 := (fun x hx => by rw [hu979]; exact hx : ∀ x, x ∈ u949.1 → x ∈ u979.1) b524 mt971
  have et1001 : u979.2 b524 = .inl (cy 0, 10, .inl (fun _ => zI 0)) := (hpu979 b524 (fun h => (fun h9 => da_b524 h9.symm) h)).trans et971
  have mt1002 : b570 ∈ u979.1 := (fun x hx => by rw [hu979]; exact hx : ∀ x, x ∈ u949.1 → x ∈ u979.1) b570 mt972
  have et1002 : u979.2 b570 = .inl (cy 0, 10, .inl (fun _ => zI 0)) := (hpu979 b570 (fun h => (fun h9 => da_b570 h9.symm) h)).trans et972
  have mt1003 : b618 ∈ u979.1 := (fun x hx => by rw [hu979]; exact hx : ∀ x, x ∈ u949.1 → x ∈ u979.1) b618 mt973
  have et1003 : u979.2 b618 = .inl (cy 0, 16, .inl (fun _ => zI 0)) := (hpu979 b618 (fun h => (fun h9 => da_b618 h9.symm) h)).trans et973
  have mt1004 : b668 ∈ u979.1 := (fun x hx => by rw [hu979]; exact hx : ∀ x, x ∈ u949.1 → x ∈ u979.1) b668 mt974
  have et1004 : u979.2 b668 = .inl (cy 2, 10, .inl (fun _ => zI 0)) := (hpu979 b668 (fun h => (fun h9 => da_b668 h9.symm) h)).trans et974
  have mt1005 : b720 ∈ u979.1 := (fun x hx => by rw [hu979]; exact hx : ∀ x, x ∈ u949.1 → x ∈ u979.1) b720 mt975
  have et1005 : u979.2 b720 = .inl (cy 2, 16, .inl (fun _ => zI 0)) := (hpu979 b720 (fun h => (fun h9 => da_b720 h9.symm) h)).trans et975
  have mt1006 : b774 ∈ u979.1 := (fun x hx => by rw [hu979]; exact hx : ∀ x, x ∈ u949.1 → x ∈ u979.1) b774 mt976
  have et1006 : u979.2 b774 = .inl (cy 0, 16, .inl (fun _ => zI 0)) := (hpu979 b774 (fun h => (fun h9 => da_b774 h9.symm) h)).trans et976
  have mt1007 : b830 ∈ u979.1 := (fun x hx => by rw [hu979]; exact hx : ∀ x, x ∈ u949.1 → x ∈ u979.1) b830 mt977
  have et1007 : u979.2 b830 = .inl (cy 0, 16, .inl (fun _ => zI 0)) := (hpu979 b830 (fun h => (fun h9 => da_b830 h9.symm) h)).trans et977
  have mt1008 : b888 ∈ u979.1 := (fun x hx => by rw [hu979]; exact hx : ∀ x, x ∈ u949.1 → x ∈ u979.1) b888 mt978
  have et1008 : u979.2 b888 = .inl (cy 0, 8, .inl (fun _ => zI 0)) := (hpu979 b888 (fun h => (fun h9 => da_b888 h9.symm) h)).trans et978
  have mt1009 : b948 ∈ u979.1 := (fun x hx => by rw [hu979]; exact hx : ∀ x, x ∈ u949.1 → x ∈ u979.1) b948 mb948
  have et1009 : u979.2 b948 = .inl (cy 0, 8, .inl (fun _ => zI 0)) := (hpu979 b948 (fun h => (fun h9 => da_b948 h9.symm) h)).trans hEb948
  have hLu979 : u979.1 = (((((((((((((((((((((((((((((u.1 ++ [b1]) ++ [b7]) ++ [b15]) ++ [b35]) ++ [b47]) ++ [b61]) ++ [b77]) ++ [b95]) ++ [b115]) ++ [b137]) ++ [b161]) ++ [b200]) ++ [b228]) ++ [b258]) ++ [b290]) ++ [b324]) ++ [b360]) ++ [b398]) ++ [b438]) ++ [b480]) ++ [b524]) ++ [b570]) ++ [b618]) ++ [b668]) ++ [b720]) ++ [b774]) ++ [b830]) ++ [b888]) ++ [b948]) := by rw [hu979, hLu949]
  have hMu979 : ∀ x, x ∈ u.1 → x ∈ u979.1 := fun x hx => by rw [hu979]; exact hMu949 x hx
  have hOu979 : ∀ x, x ∈ u.1 → x ≠ a → u979.2 x = u.2 x := fun x hx ne => (hpu979 x ne).trans (hOu949 x hx ne)
  refine lv_aload_n hx hb dX12_init_253 rfl (lv_at hl 0 rfl) ?_
  refine z_bipush hx hb dX12_init_254 (by decide) ?_
  refine p_newI (z := 8) (M := 8) hx hb (hts (.arrayClass .int) (List.mem_cons_of_mem _ (List.mem_append_left _ (List.mem_append_left _ (List.mem_of_getElem? (i := 5) rfl))))) hI hG hS (by omega) (by omega) (by omega) (Nat.le_of_ble_eq_true rfl) (Nat.le_of_ble_eq_true rfl) dX12_init_256 (fun b1010 u1011 H hu1011 hEb1010 hpu1011 hnb1010 hG hS => ?_)
  have hEb1010 : u1011.2 b1010 = .inl (cy 0, 8, .inl (fun _ => zI 0)) := hEb1010
  have fb1010 : b1010 ∉ (((((((((((((((((((((((((((((u.1 ++ [b1]) ++ [b7]) ++ [b15]) ++ [b35]) ++ [b47]) ++ [b61]) ++ [b77]) ++ [b95]) ++ [b115]) ++ [b137]) ++ [b161]) ++ [b200]) ++ [b228]) ++ [b258]) ++ [b290]) ++ [b324]) ++ [b360]) ++ [b398]) ++ [b438]) ++ [b480]) ++ [b524]) ++ [b570]) ++ [b618]) ++ [b668]) ++ [b720]) ++ [b774]) ++ [b830]) ++ [b888]) ++ [b948]) := by rw [← hLu979]; exact hnb1010
  have hLu1011 : u1011.1 = ((((((((((((((((((((((((((((((u.1 ++ [b1]) ++ [b7]) ++ [b15]) ++ [b35]) ++ [b47]) ++ [b61]) ++ [b77]) ++ [b95]) ++ [b115]) ++ [b137]) ++ [b161]) ++ [b200]) ++ [b228]) ++ [b258]) ++ [b290]) ++ [b324]) ++ [b360]) ++ [b398]) ++ [b438]) ++ [b480]) ++ [b524]) ++ [b570]) ++ [b618]) ++ [b668]) ++ [b720]) ++ [b774]) ++ [b830]) ++ [b888]) ++ [b948]) ++ [b1010]) := by rw [hu1011, hLu979]
  have hMu1011 : ∀ x, x ∈ u.1 → x ∈ u1011.1 := fun x hx => by rw [hu1011]; exact List.mem_append_left _ (hMu979 x hx)
  have hOu1011 : ∀ x, x ∈ u.1 → x ≠ a → u1011.2 x = u.2 x := fun x hx ne => (hpu1011 x (hMu979 x hx)).trans (hOu979 x hx ne)
  have da_b1010 : a ≠ b1010 := fun h => hnb1010 (h ▸ mt980)
  have db1_b1010 : b1 ≠ b1010 := fun h => hnb1010 (h ▸ mt981)
  have db7_b1010 : b7 ≠ b1010 := fun h => hnb1010 (h ▸ mt982)
  have db15_b1010 : b15 ≠ b1010 := fun h => hnb1010 (h ▸ mt983)
  have db35_b1010 : b35 ≠ b1010 := fun h => hnb1010 (h ▸ mt984)
  have db47_b1010 : b47 ≠ b1010 := fun h => hnb1010 (h ▸ mt985)
  have db61_b1010 : b61 ≠ b1010 := fun h => hnb1010 (h ▸ mt986)
  have db77_b1010 : b77 ≠ b1010 := fun h => hnb1010 (h ▸ mt987)
  have db95_b1010 : b95 ≠ b1010 := fun h => hnb1010 (h ▸ mt988)
  have db115_b1010 : b115 ≠ b1010 := fun h => hnb1010 (h ▸ mt989)
  have db137_b1010 : b137 ≠ b1010 := fun h => hnb1010 (h ▸ mt990)
  have db161_b1010 : b161 ≠ b1010 := fun h => hnb1010 (h ▸ mt991)
  have db200_b1010 : b200 ≠ b1010 := fun h => hnb1010 (h ▸ mt992)
  have db228_b1010 : b228 ≠ b1010 := fun h => hnb1010 (h ▸ mt993)
  have db258_b1010 : b258 ≠ b1010 := fun h => hnb1010 (h ▸ mt994)
  have db290_b1010 : b290 ≠ b1010 := fun h => hnb1010 (h ▸ mt995)
  have db324_b1010 : b324 ≠ b1010 := fun h => hnb1010 (h ▸ mt996)
  have db360_b1010 : b360 ≠ b1010 := fun h => hnb1010 (h ▸ mt997)
  have db398_b1010 : b398 ≠ b1010 := fun h => hnb1010 (h ▸ mt998)
  have db438_b1010 : b438 ≠ b1010 := fun h => hnb1010 (h ▸ mt999)
  have db480_b1010 : b480 ≠ b1010 := fun h => hnb1010 (h ▸ mt1000)
  have db524_b1010 : b524 ≠ b1010 := fun h => hnb1010 (h ▸ mt1001)
  have db570_b1010 : b570 ≠ b1010 := fun h => hnb1010 (h ▸ mt1002)
  have db618_b1010 : b618 ≠ b1010 := fun h => hnb1010 (h ▸ mt1003)
  have db668_b1010 : b668 ≠ b1010 := fun h => hnb1010 (h ▸ mt1004)
  have db720_b1010 : b720 ≠ b1010 := fun h => hnb1010 (h ▸ mt1005)
  have db774_b1010 : b774 ≠ b1010 := fun h => hnb1010 (h ▸ mt1006)
  have db830_b1010 : b830 ≠ b1010 := fun h => hnb1010 (h ▸ mt1007)
  have db888_b1010 : b888 ≠ b1010 := fun h => hnb1010 (h ▸ mt1008)
  have db948_b1010 : b948 ≠ b1010 := fun h => hnb1010 (h ▸ mt1009)
  have mt1012 : a ∈ u1011.1 := (fun x hx => by rw [hu1011]; exact List.mem_append_left _ hx : ∀ x, x ∈ u979.1 → x ∈ u1011.1) a mt980
  have et1012 : u1011.2 a = .inr (11, (.int (zI 0) :: .ref b1 :: .ref b7 :: .ref b15 :: .int (zI 5) :: .int (zI 20) :: .int (zI 0) :: .ref b35 :: .ref b47 :: .ref b61 :: .ref b77 :: .ref b95 :: .ref b115 :: .ref b137 :: .ref b161 :: .int (zI ((-1))) :: .int (zI 0) :: .ref b200 :: .ref b228 :: .ref b258 :: .ref b290 :: .int (zI 0) :: .ref b324 :: .int (zI 0) :: .ref b360 :: .int (zI 0) :: .ref b398 :: .ref b438 :: .ref b480 :: .ref b524 :: .ref b570 :: .ref b618 :: .ref b668 :: .ref b720 :: .ref b774 :: .ref b830 :: .ref b888 :: .ref b948 :: .null :: .null :: .null :: .null :: [])) := (hpu1011 a mt980).trans hEu979
  have mt1013 : b1 ∈ u1011.1 := (fun x hx => by rw [hu1011]; exact List.mem_append_left _ hx : ∀ x, x ∈ u979.1 → x ∈ u1011.1) b1 mt981
  have et1013 : u1011.2 b1 = .inl (cy 2, 288, .inl (fun _ => zI 0)) := (hpu1011 b1 mt981).trans et981
  have mt1014 : b7 ∈ u1011.1 := (fun x hx => by rw [hu1011]; exact List.mem_append_left _ hx : ∀ x, x ∈ u979.1 → x ∈ u1011.1) b7 mt982
  have et1014 : u1011.2 b7 = .inl (cy 0, 36, .inl (fun _ => zI 0)) := (hpu1011 b7 mt982).trans et982
  have mt1015 : b15 ∈ u1011.1 := (fun x hx => by rw [hu1011]; exact List.mem_append_left _ hx : ∀ x, x ∈ u979.1 → x ∈ u1011.1) b15 mt983
  have et1015 : u1011.2 b15 = .inl (cy 0, 36, .inl (fun _ => zI 0)) := (hpu1011 b15 mt983).trans et983
  have mt1016 : b35 ∈ u1011.1 := (fun x hx => by rw [hu1011]; exact List.mem_append_left _ hx : ∀ x, x ∈ u979.1 → x ∈ u1011.1) b35 mt984
  have et1016 : u1011.2 b35 = .inl (cy 0, 10, .inl (fun _ => zI 0)) := (hpu1011 b35 mt984).trans et984
  have mt1017 : b47 ∈ u1011.1 := (fun x hx => by rw [hu1011]; exact List.mem_append_left _ hx : ∀ x, x ∈ u979.1 → x ∈ u1011.1) b47 mt985
  have et1017 : u1011.2 b47 = .inl (cy 0, 10, .inl (fun _ => zI 0)) := (hpu1011 b47 mt985).trans et985
  have mt1018 : b61 ∈ u1011.1 := (fun x hx => by rw [hu1011]; exact List.mem_append_left _ hx : ∀ x, x ∈ u979.1 → x ∈ u1011.1) b61 mt986
  have et1018 : u1011.2 b61 = .inl (cy 0, 10, .inl (fun _ => zI 0)) := (hpu1011 b61 mt986).trans et986
  have mt1019 : b77 ∈ u1011.1 := (fun x hx => by rw [hu1011]; exact List.mem_append_left _ hx : ∀ x, x ∈ u979.1 → x ∈ u1011.1) b77 mt987
  have et1019 : u1011.2 b77 = .inl (cy 0, 10, .inl (fun _ => zI 0)) := (hpu1011 b77 mt987).trans et987
  have mt1020 : b95 ∈ u1011.1 := (fun x hx => by rw [hu1011]; exact List.mem_append_left _ hx : ∀ x, x ∈ u979.1 → x ∈ u1011.1) b95 mt988
  have et1020 : u1011.2 b95 = .inl (cy 0, 202, .inl (fun _ => zI 0)) := (hpu1011 b95 mt988).trans et988
  have mt1021 : b115 ∈ u1011.1 := (fun x hx => by rw [hu1011]; exact List.mem_append_left _ hx : ∀ x, x ∈ u979.1 → x ∈ u1011.1) b115 mt989
  have et1021 : u1011.2 b115 = .inl (cy 0, 202, .inl (fun _ => zI 0)) := (hpu1011 b115 mt989).trans et989
  have mt1022 : b137 ∈ u1011.1 := (fun x hx => by rw [hu1011]; exact List.mem_append_left _ hx : ∀ x, x ∈ u979.1 → x ∈ u1011.1) b137 mt990
  have et1022 : u1011.2 b137 = .inl (cy 0, 2, .inl (fun _ => zI 0)) := (hpu1011 b137 mt990).trans et990
  have mt1023 : b161 ∈ u1011.1 := (fun x hx => by rw [hu1011]; exact List.mem_append_left _ hx : ∀ x, x ∈ u979.1 → x ∈ u1011.1) b161 mt991
  have et1023 : u1011.2 b161 = .inl (cy 0, 2, .inl (fun _ => zI 0)) := (hpu1011 b161 mt991).trans et991
  have mt1024 : b200 ∈ u1011.1 := (fun x hx => by rw [hu1011]; exact List.mem_append_left _ hx : ∀ x, x ∈ u979.1 → x ∈ u1011.1) b200 mt992
  have et1024 : u1011.2 b200 = .inl (cy 0, 8, .inl (fun _ => zI 0)) := (hpu1011 b200 mt992).trans et992
  have mt1025 : b228 ∈ u1011.1 := (fun x hx => by rw [hu1011]; exact List.mem_append_left _ hx : ∀ x, x ∈ u979.1 → x ∈ u1011.1) b228 mt993
  have et1025 : u1011.2 b228 = .inl (cy 0, 8, .inl (fun _ => zI 0)) := (hpu1011 b228 mt993).trans et993
  have mt1026 : b258 ∈ u1011.1 := (fun x hx => by rw [hu1011]; exact List.mem_append_left _ hx : ∀ x, x ∈ u979.1 → x ∈ u1011.1) b258 mt994
  have et1026 : u1011.2 b258 = .inl (cy 0, 8, .inl (fun _ => zI 0)) := (hpu1011 b258 mt994).trans et994
  have mt1027 : b290 ∈ u1011.1 := (fun x hx => by rw [hu1011]; exact List.mem_append_left _ hx : ∀ x, x ∈ u979.1 → x ∈ u1011.1) b290 mt995
  have et1027 : u1011.2 b290 = .inl (cy 0, 8, .inl (fun _ => zI 0)) := (hpu1011 b290 mt995).trans et995
  have mt1028 : b324 ∈ u1011.1 := (fun x hx => by rw [hu1011]; exact List.mem_append_left _ hx : ∀ x, x ∈ u979.1 → x ∈ u1011.1) b324 mt996
  have et1028 : u1011.2 b324 = .inl (cy 0, 60, .inl (fun _ => zI 0)) := (hpu1011 b324 mt996).trans et996
  have mt1029 : b360 ∈ u1011.1 := (fun x hx => by rw [hu1011]; exact List.mem_append_left _ hx : ∀ x, x ∈ u979.1 → x ∈ u1011.1) b360 mt997
  have et1029 : u1011.2 b360 = .inl (cy 0, 6, .inl (fun _ => zI 0)) := (hpu1011 b360 mt997).trans et997
  have mt1030 : b398 ∈ u1011.1 := (fun x hx => by rw [hu1011]; exact List.mem_append_left _ hx : ∀ x, x ∈ u979.1 → x ∈ u1011.1) b398 mt998
  have et1030 : u1011.2 b398 = .inl (cy 0, 40, .inl (fun _ => zI 0)) := (hpu1011 b398 mt998).trans et998
  have mt1031 : b438 ∈ u1011.1 := (fun x hx => by rw [hu1011]; exact List.mem_append_left _ hx : ∀ x, x ∈ u979.1 → x ∈ u1011.1) b438 mt999
  have et1031 : u1011.2 b438 = .inl (cy 2, 16, .inl (fun _ => zI 0)) := (hpu1011 b438 mt999).trans et999
  have mt1032 : b480 ∈ u1011.1 := (fun x hx => by rw [hu1011]; exact List.mem_append_left _ hx : ∀ x, x ∈ u979.1 → x ∈ u1011.1) b480 mt1000
  have et1032 : u1011.2 b480 = .inl (cy 0, 10, .inl (fun _ => zI 0)) := (hpu1011 b480 mt1000).trans et1000
  have mt1033 : b524 ∈ u1011.1 := (fun x hx => by rw [hu1011]; exact List.mem_append_left _ hx : ∀ x, x ∈ u979.1 → x ∈ u1011.1) b524 mt1001
  have et1033 : u1011.2 b524 = .inl (cy 0, 10, .inl (fun _ => zI 0)) := (hpu1011 b524 mt1001).trans et1001
  have mt1034 : b570 ∈ u1011.1 := (fun x hx => by rw [hu1011]; exact List.mem_append_left _ hx : ∀ x, x ∈ u979.1 → x ∈ u1011.1) b570 mt1002
  have et1034 : u1011.2 b570 = .inl (cy 0, 10, .inl (fun _ => zI 0)) := (hpu1011 b570 mt1002).trans et1002
  have mt1035 : b618 ∈ u1011.1 := (fun x hx => by rw [hu1011]; exact List.mem_append_left _ hx : ∀ x, x ∈ u979.1 → x ∈ u1011.1) b618 mt1003
  have et1035 : u1011.2 b618 = .inl (cy 0, 16, .inl (fun _ => zI 0)) := (hpu1011 b618 mt1003).trans et1003
  have mt1036 : b668 ∈ u1011.1 := (fun x hx => by rw [hu1011]; exact List.mem_append_left _ hx : ∀ x, x ∈ u979.1 → x ∈ u1011.1) b668 mt1004
  have et1036 : u1011.2 b668 = .inl (cy 2, 10, .inl (fun _ => zI 0)) := (hpu1011 b668 mt1004).trans et1004
  have mt1037 : b720 ∈ u1011.1 := (fun x hx => by rw [hu1011]; exact List.mem_append_left _ hx : ∀ x, x ∈ u979.1 → x ∈ u1011.1) b720 mt1005
  have et1037 : u1011.2 b720 = .inl (cy 2, 16, .inl (fun _ => zI 0)) := (hpu1011 b720 mt1005).trans et1005
  have mt1038 : b774 ∈ u1011.1 := (fun x hx => by rw [hu1011]; exact List.mem_append_left _ hx : ∀ x, x ∈ u979.1 → x ∈ u1011.1) b774 mt1006
  have et1038 : u1011.2 b774 = .inl (cy 0, 16, .inl (fun _ => zI 0)) := (hpu1011 b774 mt1006).trans et1006
  have mt1039 : b830 ∈ u1011.1 := (fun x hx => by rw [hu1011]; exact List.mem_append_left _ hx : ∀ x, x ∈ u979.1 → x ∈ u1011.1) b830 mt1007
  have et1039 : u1011.2 b830 = .inl (cy 0, 16, .inl (fun _ => zI 0)) := (hpu1011 b830 mt1007).trans et1007
  have mt1040 : b888 ∈ u1011.1 := (fun x hx => by rw [hu1011]; exact List.mem_append_left _ hx : ∀ x, x ∈ u979.1 → x ∈ u1011.1) b888 mt1008
  have et1040 : u1011.2 b888 = .inl (cy 0, 8, .inl (fun _ => zI 0)) := (hpu1011 b888 mt1008).trans et1008
  have mt1041 : b948 ∈ u1011.1 := (fun x hx => by rw [hu1011]; exact List.mem_append_left _ hx : ∀ x, x ∈ u979.1 → x ∈ u1011.1) b948 mt1009
  have et1041 : u1011.2 b948 = .inl (cy 0, 8, .inl (fun _ => zI 0)) := (hpu1011 b948 mt1009).trans et1009
  have mb1010 : b1010 ∈ u1011.1 := by rw [hu1011]; exact List.mem_append_right _ List.mem_cons_self
  obtain ⟨k9, hk9⟩ := p_get D u1011 mt1012
  refine va_putF (C := RX12) (T := TX12) (N := 42) (ci := 11) (ty := tyX12 38) hx hb hts (fun _ h => (List.mem_cons_of_mem _ (List.mem_append_right _ h))) tyX12 tyX12_ok nmX12 hown hI.1 hG.1 hG.2 hS k9 (hk9.trans (by rw [et1012])) rfl 38 (by decide) (hts (.fieldLink RX12 108 "StraitSwimModel" "heldKind" "[I") (List.mem_cons_of_mem _ (List.mem_append_left _ (List.mem_append_right _ (List.mem_of_getElem? (i := 13) rfl))))) (fun _ h9 => h9) rfl hin2 rfl (tyX12_ok 38 (by decide)) rfl rfl (Nat.le_of_ble_eq_true rfl) dX12_init_258 (fun H locs hP hD hS => ?_)
  obtain ⟨u1042, hu1042, hEu1042, hpu1042, hG⟩ := p_set (e := .inr (11, (.int (zI 0) :: .ref b1 :: .ref b7 :: .ref b15 :: .int (zI 5) :: .int (zI 20) :: .int (zI 0) :: .ref b35 :: .ref b47 :: .ref b61 :: .ref b77 :: .ref b95 :: .ref b115 :: .ref b137 :: .ref b161 :: .int (zI ((-1))) :: .int (zI 0) :: .ref b200 :: .ref b228 :: .ref b258 :: .ref b290 :: .int (zI 0) :: .ref b324 :: .int (zI 0) :: .ref b360 :: .int (zI 0) :: .ref b398 :: .ref b438 :: .ref b480 :: .ref b524 :: .ref b570 :: .ref b618 :: .ref b668 :: .ref b720 :: .ref b774 :: .ref b830 :: .ref b888 :: .ref b948 :: .ref b1010 :: .null :: .null :: .null :: []))) hG mt1012 hk9 hP hD
  have mt1043 : a ∈ u1042.1 := (fun x hx => by rw [hu1042]; exact hx : ∀ x, x ∈ u1011.1 → x ∈ u1042.1) a mt1012
  have mt1044 : b1 ∈ u1042.1 := (fun x hx => by rw [hu1042]; exact hx : ∀ x, x ∈ u1011.1 → x ∈ u1042.1) b1 mt1013
  have et1044 : u1042.2 b1 = .inl (cy 2, 288, .inl (fun _ => zI 0)) := (hpu1042 b1 (fun h => (fun h9 => da_b1 h9.symm) h)).trans et1013
  have mt1045 : b7 ∈ u1042.1 := (fun x hx => by rw [hu1042]; exact hx : ∀ x, x ∈ u1011.1 → x ∈ u1042.1) b7 mt1014
  have et1045 : u1042.2 b7 = .inl (cy 0, 36, .inl (fun _ => zI 0)) := (hpu1042 b7 (fun h => (fun h9 => da_b7 h9.symm) h)).trans et1014
  have mt1046 : b15 ∈ u1042.1 := (fun x hx => by rw [hu1042]; exact hx : ∀ x, x ∈ u1011.1 → x ∈ u1042.1) b15 mt1015
  have et1046 : u1042.2 b15 = .inl (cy 0, 36, .inl (fun _ => zI 0)) := (hpu1042 b15 (fun h => (fun h9 => da_b15 h9.symm) h)).trans et1015
  have mt1047 : b35 ∈ u1042.1 := (fun x hx => by rw [hu1042]; exact hx : ∀ x, x ∈ u1011.1 → x ∈ u1042.1) b35 mt1016
  have et1047 : u1042.2 b35 = .inl (cy 0, 10, .inl (fun _ => zI 0)) := (hpu1042 b35 (fun h => (fun h9 => da_b35 h9.symm) h)).trans et1016
  have mt1048 : b47 ∈ u1042.1 := (fun x hx => by rw [hu1042]; exact hx : ∀ x, x ∈ u1011.1 → x ∈ u1042.1) b47 mt1017
  have et1048 : u1042.2 b47 = .inl (cy 0, 10, .inl (fun _ => zI 0)) := (hpu1042 b47 (fun h => (fun h9 => da_b47 h9.symm) h)).trans et1017
  have mt1049 : b61 ∈ u1042.1 := (fun x hx => by rw [hu1042]; exact hx : ∀ x, x ∈ u1011.1 → x ∈ u1042.1) b61 mt1018
  have et1049 : u1042.2 b61 = .inl (cy 0, 10, .inl (fun _ => zI 0)) := (hpu1042 b61 (fun h => (fun h9 => da_b61 h9.symm) h)).trans et1018
  have mt1050 : b77 ∈ u1042.1 := (fun x hx => by rw [hu1042]; exact hx : ∀ x, x ∈ u1011.1 → x ∈ u1042.1) b77 mt1019
  have et1050 : u1042.2 b77 = .inl (cy 0, 10, .inl (fun _ => zI 0)) := (hpu1042 b77 (fun h => (fun h9 => da_b77 h9.symm) h)).trans et1019
  have mt1051 : b95 ∈ u1042.1 := (fun x hx => by rw [hu1042]; exact hx : ∀ x, x ∈ u1011.1 → x ∈ u1042.1) b95 mt1020
  have et1051 : u1042.2 b95 = .inl (cy 0, 202, .inl (fun _ => zI 0)) := (hpu1042 b95 (fun h => (fun h9 => da_b95 h9.symm) h)).trans et1020
  have mt1052 : b115 ∈ u1042.1 := (fun x hx => by rw [hu1042]; exact hx : ∀ x, x ∈ u1011.1 → x ∈ u1042.1) b115 mt1021
  have et1052 : u1042.2 b115 = .inl (cy 0, 202, .inl (fun _ => zI 0)) := (hpu1042 b115 (fun h => (fun h9 => da_b115 h9.symm) h)).trans et1021
  have mt1053 : b137 ∈ u1042.1 := (fun x hx => by rw [hu1042]; exact hx : ∀ x, x ∈ u1011.1 → x ∈ u1042.1) b137 mt1022
  have et1053 : u1042.2 b137 = .inl (cy 0, 2, .inl (fun _ => zI 0)) := (hpu1042 b137 (fun h => (fun h9 => da_b137 h9.symm) h)).trans et1022
  have mt1054 : b161 ∈ u1042.1 := (fun x hx => by rw [hu1042]; exact hx : ∀ x, x ∈ u1011.1 → x ∈ u1042.1) b161 mt1023
  have et1054 : u1042.2 b161 = .inl (cy 0, 2, .inl (fun _ => zI 0)) := (hpu1042 b161 (fun h => (fun h9 => da_b161 h9.symm) h)).trans et1023
  have mt1055 : b200 ∈ u1042.1 := (fun x hx => by rw [hu1042]; exact hx : ∀ x, x ∈ u1011.1 → x ∈ u1042.1) b200 mt1024
  have et1055 : u1042.2 b200 = .inl (cy 0, 8, .inl (fun _ => zI 0)) := (hpu1042 b200 (fun h => (fun h9 => da_b200 h9.symm) h)).trans et1024
  have mt1056 : b228 ∈ u1042.1 := (fun x hx => by rw [hu1042]; exact hx : ∀ x, x ∈ u1011.1 → x ∈ u1042.1) b228 mt1025
  have et1056 : u1042.2 b228 = .inl (cy 0, 8, .inl (fun _ => zI 0)) := (hpu1042 b228 (fun h => (fun h9 => da_b228 h9.symm) h)).trans et1025
  have mt1057 : b258 ∈ u1042.1 := (fun x hx => by rw [hu1042]; exact hx : ∀ x, x ∈ u1011.1 → x ∈ u1042.1) b258 mt1026
  have et1057 : u1042.2 b258 = .inl (cy 0, 8, .inl (fun _ => zI 0)) := (hpu1042 b258 (fun h => (fun h9 => da_b258 h9.symm) h)).trans et1026
  have mt1058 : b290 ∈ u1042.1 := (fun x hx => by rw [hu1042]; exact hx : ∀ x, x ∈ u1011.1 → x ∈ u1042.1) b290 mt1027
  have et1058 : u1042.2 b290 = .inl (cy 0, 8, .inl (fun _ => zI 0)) := (hpu1042 b290 (fun h => (fun h9 => da_b290 h9.symm) h)).trans et1027
  have mt1059 : b324 ∈ u1042.1 := (fun x hx => by rw [hu1042]; exact hx : ∀ x, x ∈ u1011.1 → x ∈ u1042.1) b324 mt1028
  have et1059 : u1042.2 b324 = .inl (cy 0, 60, .inl (fun _ => zI 0)) := (hpu1042 b324 (fun h => (fun h9 => da_b324 h9.symm) h)).trans et1028
  have mt1060 : b360 ∈ u1042.1 := (fun x hx => by rw [hu1042]; exact hx : ∀ x, x ∈ u1011.1 → x ∈ u1042.1) b360 mt1029
  have et1060 : u1042.2 b360 = .inl (cy 0, 6, .inl (fun _ => zI 0)) := (hpu1042 b360 (fun h => (fun h9 => da_b360 h9.symm) h)).trans et1029
  have mt1061 : b398 ∈ u1042.1 := (fun x hx => by rw [hu1042]; exact hx : ∀ x, x ∈ u1011.1 → x ∈ u1042.1) b398 mt1030
  have et1061 : u1042.2 b398 = .inl (cy 0, 40, .inl (fun _ => zI 0)) := (hpu1042 b398 (fun h => (fun h9 => da_b398 h9.symm) h)).trans et1030
  have mt1062 : b438 ∈ u1042.1 := (fun x hx => by rw [hu1042]; exact hx : ∀ x, x ∈ u1011.1 → x ∈ u1042.1) b438 mt1031
  have et1062 : u1042.2 b438 = .inl (cy 2, 16, .inl (fun _ => zI 0)) := (hpu1042 b438 (fun h => (fun h9 => da_b438 h9.symm) h)).trans et1031
  have mt1063 : b480 ∈ u1042.1 := (fun x hx => by rw [hu1042]; exact hx : ∀ x, x ∈ u1011.1 → x ∈ u1042.1) b480 mt1032
  have et1063 : u1042.2 b480 = .inl (cy 0, 10, .inl (fun _ => zI 0)) := (hpu1042 b480 (fun h => (fun h9 => da_b480 h9.symm) h)).trans et1032
  have mt1064 : b524 ∈ u1042.1 := (fun x hx => by rw [hu1042]; exact hx : ∀ x, x ∈ u1011.1 → x ∈ u1042.1) b524 mt1033
  have et1064 : u1042.2 b524 = .inl (cy 0, 10, .inl (fun _ => zI 0)) := (hpu1042 b524 (fun h => (fun h9 => da_b524 h9.symm) h)).trans et1033
  have mt1065 : b570 ∈ u1042.1 := (fun x hx => by rw [hu1042]; exact hx : ∀ x, x ∈ u1011.1 → x ∈ u1042.1) b570 mt1034
  have et1065 : u1042.2 b570 = .inl (cy 0, 10, .inl (fun _ => zI 0)) := (hpu1042 b570 (fun h => (fun h9 => da_b570 h9.symm) h)).trans et1034
  have mt1066 : b618 ∈ u1042.1 := (fun x hx => by rw [hu1042]; exact hx : ∀ x, x ∈ u1011.1 → x ∈ u1042.1) b618 mt1035
  have et1066 : u1042.2 b618 = .inl (cy 0, 16, .inl (fun _ => zI 0)) := (hpu1042 b618 (fun h => (fun h9 => da_b618 h9.symm) h)).trans et1035
  have mt1067 : b668 ∈ u1042.1 := (fun x hx => by rw [hu1042]; exact hx : ∀ x, x ∈ u1011.1 → x ∈ u1042.1) b668 mt1036
  have et1067 : u1042.2 b668 = .inl (cy 2, 10, .inl (fun _ => zI 0)) := (hpu1042 b668 (fun h => (fun h9 => da_b668 h9.symm) h)).trans et1036
  have mt1068 : b720 ∈ u1042.1 := (fun x hx => by rw [hu1042]; exact hx : ∀ x, x ∈ u1011.1 → x ∈ u1042.1) b720 mt1037
  have et1068 : u1042.2 b720 = .inl (cy 2, 16, .inl (fun _ => zI 0)) := (hpu1042 b720 (fun h => (fun h9 => da_b720 h9.symm) h)).trans et1037
  have mt1069 : b774 ∈ u1042.1 := (fun x hx => by rw [hu1042]; exact hx : ∀ x, x ∈ u1011.1 → x ∈ u1042.1) b774 mt1038
  have et1069 : u1042.2 b774 = .inl (cy 0, 16, .inl (fun _ => zI 0)) := (hpu1042 b774 (fun h => (fun h9 => da_b774 h9.symm) h)).trans et1038
  have mt1070 : b830 ∈ u1042.1 := (fun x hx => by rw [hu1042]; exact hx : ∀ x, x ∈ u1011.1 → x ∈ u1042.1) b830 mt1039
  have et1070 : u1042.2 b830 = .inl (cy 0, 16, .inl (fun _ => zI 0)) := (hpu1042 b830 (fun h => (fun h9 => da_b830 h9.symm) h)).trans et1039
  have mt1071 : b888 ∈ u1042.1 := (fun x hx => by rw [hu1042]; exact hx : ∀ x, x ∈ u1011.1 → x ∈ u1042.1) b888 mt1040
  have et1071 : u1042.2 b888 = .inl (cy 0, 8, .inl (fun _ => zI 0)) := (hpu1042 b888 (fun h => (fun h9 => da_b888 h9.symm) h)).trans et1040
  have mt1072 : b948 ∈ u1042.1 := (fun x hx => by rw [hu1042]; exact hx : ∀ x, x ∈ u1011.1 → x ∈ u1042.1) b948 mt1041
  have et1072 : u1042.2 b948 = .inl (cy 0, 8, .inl (fun _ => zI 0)) := (hpu1042 b948 (fun h => (fun h9 => da_b948 h9.symm) h)).trans et1041
  have mt1073 : b1010 ∈ u1042.1 := (fun x hx => by rw [hu1042]; exact hx : ∀ x, x ∈ u1011.1 → x ∈ u1042.1) b1010 mb1010
  have et1073 : u1042.2 b1010 = .inl (cy 0, 8, .inl (fun _ => zI 0)) := (hpu1042 b1010 (fun h => (fun h9 => da_b1010 h9.symm) h)).trans hEb1010
  have hLu1042 : u1042.1 = ((((((((((((((((((((((((((((((u.1 ++ [b1]) ++ [b7]) ++ [b15]) ++ [b35]) ++ [b47]) ++ [b61]) ++ [b77]) ++ [b95]) ++ [b115]) ++ [b137]) ++ [b161]) ++ [b200]) ++ [b228]) ++ [b258]) ++ [b290]) ++ [b324]) ++ [b360]) ++ [b398]) ++ [b438]) ++ [b480]) ++ [b524]) ++ [b570]) ++ [b618]) ++ [b668]) ++ [b720]) ++ [b774]) ++ [b830]) ++ [b888]) ++ [b948]) ++ [b1010]) := by rw [hu1042, hLu1011]
  have hMu1042 : ∀ x, x ∈ u.1 → x ∈ u1042.1 := fun x hx => by rw [hu1042]; exact hMu1011 x hx
  have hOu1042 : ∀ x, x ∈ u.1 → x ≠ a → u1042.2 x = u.2 x := fun x hx ne => (hpu1042 x ne).trans (hOu1011 x hx ne)
  refine lv_aload_n hx hb dX12_init_261 rfl (lv_at hl 0 rfl) ?_
  refine z_bipush hx hb dX12_init_262 (by decide) ?_
  refine p_newI (z := 8) (M := 8) hx hb (hts (.arrayClass .int) (List.mem_cons_of_mem _ (List.mem_append_left _ (List.mem_append_left _ (List.mem_of_getElem? (i := 5) rfl))))) hI hG hS (by omega) (by omega) (by omega) (Nat.le_of_ble_eq_true rfl) (Nat.le_of_ble_eq_true rfl) dX12_init_264 (fun b1074 u1075 H hu1075 hEb1074 hpu1075 hnb1074 hG hS => ?_)
  have hEb1074 : u1075.2 b1074 = .inl (cy 0, 8, .inl (fun _ => zI 0)) := hEb1074
  have fb1074 : b1074 ∉ ((((((((((((((((((((((((((((((u.1 ++ [b1]) ++ [b7]) ++ [b15]) ++ [b35]) ++ [b47]) ++ [b61]) ++ [b77]) ++ [b95]) ++ [b115]) ++ [b137]) ++ [b161]) ++ [b200]) ++ [b228]) ++ [b258]) ++ [b290]) ++ [b324]) ++ [b360]) ++ [b398]) ++ [b438]) ++ [b480]) ++ [b524]) ++ [b570]) ++ [b618]) ++ [b668]) ++ [b720]) ++ [b774]) ++ [b830]) ++ [b888]) ++ [b948]) ++ [b1010]) := by rw [← hLu1042]; exact hnb1074
  have hLu1075 : u1075.1 = (((((((((((((((((((((((((((((((u.1 ++ [b1]) ++ [b7]) ++ [b15]) ++ [b35]) ++ [b47]) ++ [b61]) ++ [b77]) ++ [b95]) ++ [b115]) ++ [b137]) ++ [b161]) ++ [b200]) ++ [b228]) ++ [b258]) ++ [b290]) ++ [b324]) ++ [b360]) ++ [b398]) ++ [b438]) ++ [b480]) ++ [b524]) ++ [b570]) ++ [b618]) ++ [b668]) ++ [b720]) ++ [b774]) ++ [b830]) ++ [b888]) ++ [b948]) ++ [b1010]) ++ [b1074]) := by rw [hu1075, hLu1042]
  have hMu1075 : ∀ x, x ∈ u.1 → x ∈ u1075.1 := fun x hx => by rw [hu1075]; exact List.mem_append_left _ (hMu1042 x hx)
  have hOu1075 : ∀ x, x ∈ u.1 → x ≠ a → u1075.2 x = u.2 x := fun x hx ne => (hpu1075 x (hMu1042 x hx)).trans (hOu1042 x hx ne)
  have da_b1074 : a ≠ b1074 := fun h => hnb1074 (h ▸ mt1043)
  have db1_b1074 : b1 ≠ b1074 := fun h => hnb1074 (h ▸ mt1044)
  have db7_b1074 : b7 ≠ b1074 := fun h => hnb1074 (h ▸ mt1045)
  have db15_b1074 : b15 ≠ b1074 := fun h => hnb1074 (h ▸ mt1046)
  have db35_b1074 : b35 ≠ b1074 := fun h => hnb1074 (h ▸ mt1047)
  have db47_b1074 : b47 ≠ b1074 := fun h => hnb1074 (h ▸ mt1048)
  have db61_b1074 : b61 ≠ b1074 := fun h => hnb1074 (h ▸ mt1049)
  have db77_b1074 : b77 ≠ b1074 := fun h => hnb1074 (h ▸ mt1050)
  have db95_b1074 : b95 ≠ b1074 := fun h => hnb1074 (h ▸ mt1051)
  have db115_b1074 : b115 ≠ b1074 := fun h => hnb1074 (h ▸ mt1052)
  have db137_b1074 : b137 ≠ b1074 := fun h => hnb1074 (h ▸ mt1053)
  have db161_b1074 : b161 ≠ b1074 := fun h => hnb1074 (h ▸ mt1054)
  have db200_b1074 : b200 ≠ b1074 := fun h => hnb1074 (h ▸ mt1055)
  have db228_b1074 : b228 ≠ b1074 := fun h => hnb1074 (h ▸ mt1056)
  have db258_b1074 : b258 ≠ b1074 := fun h => hnb1074 (h ▸ mt1057)
  have db290_b1074 : b290 ≠ b1074 := fun h => hnb1074 (h ▸ mt1058)
  have db324_b1074 : b324 ≠ b1074 := fun h => hnb1074 (h ▸ mt1059)
  have db360_b1074 : b360 ≠ b1074 := fun h => hnb1074 (h ▸ mt1060)
  have db398_b1074 : b398 ≠ b1074 := fun h => hnb1074 (h ▸ mt1061)
  have db438_b1074 : b438 ≠ b1074 := fun h => hnb1074 (h ▸ mt1062)
  have db480_b1074 : b480 ≠ b1074 := fun h => hnb1074 (h ▸ mt1063)
  have db524_b1074 : b524 ≠ b1074 := fun h => hnb1074 (h ▸ mt1064)
  have db570_b1074 : b570 ≠ b1074 := fun h => hnb1074 (h ▸ mt1065)
  have db618_b1074 : b618 ≠ b1074 := fun h => hnb1074 (h ▸ mt1066)
  have db668_b1074 : b668 ≠ b1074 := fun h => hnb1074 (h ▸ mt1067)
  have db720_b1074 : b720 ≠ b1074 := fun h => hnb1074 (h ▸ mt1068)
  have db774_b1074 : b774 ≠ b1074 := fun h => hnb1074 (h ▸ mt1069)
  have db830_b1074 : b830 ≠ b1074 := fun h => hnb1074 (h ▸ mt1070)
  have db888_b1074 : b888 ≠ b1074 := fun h => hnb1074 (h ▸ mt1071)
  have db948_b1074 : b948 ≠ b1074 := fun h => hnb1074 (h ▸ mt1072)
  have db1010_b1074 : b1010 ≠ b1074 := fun h => hnb1074 (h ▸ mt1073)
  have mt1076 : a ∈ u1075.1 := (fun x hx => by rw [hu1075]; exact List.mem_append_left _ hx : ∀ x, x ∈ u1042.1 → x ∈ u1075.1) a mt1043
  have et1076 : u1075.2 a = .inr (11, (.int (zI 0) :: .ref b1 :: .ref b7 :: .ref b15 :: .int (zI 5) :: .int (zI 20) :: .int (zI 0) :: .ref b35 :: .ref b47 :: .ref b61 :: .ref b77 :: .ref b95 :: .ref b115 :: .ref b137 :: .ref b161 :: .int (zI ((-1))) :: .int (zI 0) :: .ref b200 :: .ref b228 :: .ref b258 :: .ref b290 :: .int (zI 0) :: .ref b324 :: .int (zI 0) :: .ref b360 :: .int (zI 0) :: .ref b398 :: .ref b438 :: .ref b480 :: .ref b524 :: .ref b570 :: .ref b618 :: .ref b668 :: .ref b720 :: .ref b774 :: .ref b830 :: .ref b888 :: .ref b948 :: .ref b1010 :: .null :: .null :: .null :: [])) := (hpu1075 a mt1043).trans hEu1042
  have mt1077 : b1 ∈ u1075.1 := (fun x hx => by rw [hu1075]; exact List.mem_append_left _ hx : ∀ x, x ∈ u1042.1 → x ∈ u1075.1) b1 mt1044
  have et1077 : u1075.2 b1 = .inl (cy 2, 288, .inl (fun _ => zI 0)) := (hpu1075 b1 mt1044).trans et1044
  have mt1078 : b7 ∈ u1075.1 := (fun x hx => by rw [hu1075]; exact List.mem_append_left _ hx : ∀ x, x ∈ u1042.1 → x ∈ u1075.1) b7 mt1045
  have et1078 : u1075.2 b7 = .inl (cy 0, 36, .inl (fun _ => zI 0)) := (hpu1075 b7 mt1045).trans et1045
  have mt1079 : b15 ∈ u1075.1 := (fun x hx => by rw [hu1075]; exact List.mem_append_left _ hx : ∀ x, x ∈ u1042.1 → x ∈ u1075.1) b15 mt1046
  have et1079 : u1075.2 b15 = .inl (cy 0, 36, .inl (fun _ => zI 0)) := (hpu1075 b15 mt1046).trans et1046
  have mt1080 : b35 ∈ u1075.1 := (fun x hx => by rw [hu1075]; exact List.mem_append_left _ hx : ∀ x, x ∈ u1042.1 → x ∈ u1075.1) b35 mt1047
  have et1080 : u1075.2 b35 = .inl (cy 0, 10, .inl (fun _ => zI 0)) := (hpu1075 b35 mt1047).trans et1047
  have mt1081 : b47 ∈ u1075.1 := (fun x hx => by rw [hu1075]; exact List.mem_append_left _ hx : ∀ x, x ∈ u1042.1 → x ∈ u1075.1) b47 mt1048
  have et1081 : u1075.2 b47 = .inl (cy 0, 10, .inl (fun _ => zI 0)) := (hpu1075 b47 mt1048).trans et1048
  have mt1082 : b61 ∈ u1075.1 := (fun x hx => by rw [hu1075]; exact List.mem_append_left _ hx : ∀ x, x ∈ u1042.1 → x ∈ u1075.1) b61 mt1049
  have et1082 : u1075.2 b61 = .inl (cy 0, 10, .inl (fun _ => zI 0)) := (hpu1075 b61 mt1049).trans et1049
  have mt1083 : b77 ∈ u1075.1 := (fun x hx => by rw [hu1075]; exact List.mem_append_left _ hx : ∀ x, x ∈ u1042.1 → x ∈ u1075.1) b77 mt1050
  have et1083 : u1075.2 b77 = .inl (cy 0, 10, .inl (fun _ => zI 0)) := (hpu1075 b77 mt1050).trans et1050
  have mt1084 : b95 ∈ u1075.1 := (fun x hx => by rw [hu1075]; exact List.mem_append_left _ hx : ∀ x, x ∈ u1042.1 → x ∈ u1075.1) b95 mt1051
  have et1084 : u1075.2 b95 = .inl (cy 0, 202, .inl (fun _ => zI 0)) := (hpu1075 b95 mt1051).trans et1051
  have mt1085 : b115 ∈ u1075.1 := (fun x hx => by rw [hu1075]; exact List.mem_append_left _ hx : ∀ x, x ∈ u1042.1 → x ∈ u1075.1) b115 mt1052
  have et1085 : u1075.2 b115 = .inl (cy 0, 202, .inl (fun _ => zI 0)) := (hpu1075 b115 mt1052).trans et1052
  have mt1086 : b137 ∈ u1075.1 := (fun x hx => by rw [hu1075]; exact List.mem_append_left _ hx : ∀ x, x ∈ u1042.1 → x ∈ u1075.1) b137 mt1053
  have et1086 : u1075.2 b137 = .inl (cy 0, 2, .inl (fun _ => zI 0)) := (hpu1075 b137 mt1053).trans et1053
  have mt1087 : b161 ∈ u1075.1 := (fun x hx => by rw [hu1075]; exact List.mem_append_left _ hx : ∀ x, x ∈ u1042.1 → x ∈ u1075.1) b161 mt1054
  have et1087 : u1075.2 b161 = .inl (cy 0, 2, .inl (fun _ => zI 0)) := (hpu1075 b161 mt1054).trans et1054
  have mt1088 : b200 ∈ u1075.1 := (fun x hx => by rw [hu1075]; exact List.mem_append_left _ hx : ∀ x, x ∈ u1042.1 → x ∈ u1075.1) b200 mt1055
  have et1088 : u1075.2 b200 = .inl (cy 0, 8, .inl (fun _ => zI 0)) := (hpu1075 b200 mt1055).trans et1055
  have mt1089 : b228 ∈ u1075.1 := (fun x hx => by rw [hu1075]; exact List.mem_append_left _ hx : ∀ x, x ∈ u1042.1 → x ∈ u1075.1) b228 mt1056
  have et1089 : u1075.2 b228 = .inl (cy 0, 8, .inl (fun _ => zI 0)) := (hpu1075 b228 mt1056).trans et1056
  have mt1090 : b258 ∈ u1075.1 := (fun x hx => by rw [hu1075]; exact List.mem_append_left _ hx : ∀ x, x ∈ u1042.1 → x ∈ u1075.1) b258 mt1057
  have et1090 : u1075.2 b258 = .inl (cy 0, 8, .inl (fun _ => zI 0)) := (hpu1075 b258 mt1057).trans et1057
  have mt1091 : b290 ∈ u1075.1 := (fun x hx => by rw [hu1075]; exact List.mem_append_left _ hx : ∀ x, x ∈ u1042.1 → x ∈ u1075.1) b290 mt1058
  have et1091 : u1075.2 b290 = .inl (cy 0, 8, .inl (fun _ => zI 0)) := (hpu1075 b290 mt1058).trans et1058
  have mt1092 : b324 ∈ u1075.1 := (fun x hx => by rw [hu1075]; exact List.mem_append_left _ hx : ∀ x, x ∈ u1042.1 → x ∈ u1075.1) b324 mt1059
  have et1092 : u1075.2 b324 = .inl (cy 0, 60, .inl (fun _ => zI 0)) := (hpu1075 b324 mt1059).trans et1059
  have mt1093 : b360 ∈ u1075.1 := (fun x hx => by rw [hu1075]; exact List.mem_append_left _ hx : ∀ x, x ∈ u1042.1 → x ∈ u1075.1) b360 mt1060
  have et1093 : u1075.2 b360 = .inl (cy 0, 6, .inl (fun _ => zI 0)) := (hpu1075 b360 mt1060).trans et1060
  have mt1094 : b398 ∈ u1075.1 := (fun x hx => by rw [hu1075]; exact List.mem_append_left _ hx : ∀ x, x ∈ u1042.1 → x ∈ u1075.1) b398 mt1061
  have et1094 : u1075.2 b398 = .inl (cy 0, 40, .inl (fun _ => zI 0)) := (hpu1075 b398 mt1061).trans et1061
  have mt1095 : b438 ∈ u1075.1 := (fun x hx => by rw [hu1075]; exact List.mem_append_left _ hx : ∀ x, x ∈ u1042.1 → x ∈ u1075.1) b438 mt1062
  have et1095 : u1075.2 b438 = .inl (cy 2, 16, .inl (fun _ => zI 0)) := (hpu1075 b438 mt1062).trans et1062
  have mt1096 : b480 ∈ u1075.1 := (fun x hx => by rw [hu1075]; exact List.mem_append_left _ hx : ∀ x, x ∈ u1042.1 → x ∈ u1075.1) b480 mt1063
  have et1096 : u1075.2 b480 = .inl (cy 0, 10, .inl (fun _ => zI 0)) := (hpu1075 b480 mt1063).trans et1063
  have mt1097 : b524 ∈ u1075.1 := (fun x hx => by rw [hu1075]; exact List.mem_append_left _ hx : ∀ x, x ∈ u1042.1 → x ∈ u1075.1) b524 mt1064
  have et1097 : u1075.2 b524 = .inl (cy 0, 10, .inl (fun _ => zI 0)) := (hpu1075 b524 mt1064).trans et1064
  have mt1098 : b570 ∈ u1075.1 := (fun x hx => by rw [hu1075]; exact List.mem_append_left _ hx : ∀ x, x ∈ u1042.1 → x ∈ u1075.1) b570 mt1065
  have et1098 : u1075.2 b570 = .inl (cy 0, 10, .inl (fun _ => zI 0)) := (hpu1075 b570 mt1065).trans et1065
  have mt1099 : b618 ∈ u1075.1 := (fun x hx => by rw [hu1075]; exact List.mem_append_left _ hx : ∀ x, x ∈ u1042.1 → x ∈ u1075.1) b618 mt1066
  have et1099 : u1075.2 b618 = .inl (cy 0, 16, .inl (fun _ => zI 0)) := (hpu1075 b618 mt1066).trans et1066
  have mt1100 : b668 ∈ u1075.1 := (fun x hx => by rw [hu1075]; exact List.mem_append_left _ hx : ∀ x, x ∈ u1042.1 → x ∈ u1075.1) b668 mt1067
  have et1100 : u1075.2 b668 = .inl (cy 2, 10, .inl (fun _ => zI 0)) := (hpu1075 b668 mt1067).trans et1067
  have mt1101 : b720 ∈ u1075.1 := (fun x hx => by rw [hu1075]; exact List.mem_append_left _ hx : ∀ x, x ∈ u1042.1 → x ∈ u1075.1) b720 mt1068
  have et1101 : u1075.2 b720 = .inl (cy 2, 16, .inl (fun _ => zI 0)) := (hpu1075 b720 mt1068).trans et1068
  have mt1102 : b774 ∈ u1075.1 := (fun x hx => by rw [hu1075]; exact List.mem_append_left _ hx : ∀ x, x ∈ u1042.1 → x ∈ u1075.1) b774 mt1069
  have et1102 : u1075.2 b774 = .inl (cy 0, 16, .inl (fun _ => zI 0)) := (hpu1075 b774 mt1069).trans et1069
  have mt1103 : b830 ∈ u1075.1 := (fun x hx => by rw [hu1075]; exact List.mem_append_left _ hx : ∀ x, x ∈ u1042.1 → x ∈ u1075.1) b830 mt1070
  have et1103 : u1075.2 b830 = .inl (cy 0, 16, .inl (fun _ => zI 0)) := (hpu1075 b830 mt1070).trans et1070
  have mt1104 : b888 ∈ u1075.1 := (fun x hx => by rw [hu1075]; exact List.mem_append_left _ hx : ∀ x, x ∈ u1042.1 → x ∈ u1075.1) b888 mt1071
  have et1104 : u1075.2 b888 = .inl (cy 0, 8, .inl (fun _ => zI 0)) := (hpu1075 b888 mt1071).trans et1071
  have mt1105 : b948 ∈ u1075.1 := (fun x hx => by rw [hu1075]; exact List.mem_append_left _ hx : ∀ x, x ∈ u1042.1 → x ∈ u1075.1) b948 mt1072
  have et1105 : u1075.2 b948 = .inl (cy 0, 8, .inl (fun _ => zI 0)) := (hpu1075 b948 mt1072).trans et1072
  have mt1106 : b1010 ∈ u1075.1 := (fun x hx => by rw [hu1075]; exact List.mem_append_left _ hx : ∀ x, x ∈ u1042.1 → x ∈ u1075.1) b1010 mt1073
  have et1106 : u1075.2 b1010 = .inl (cy 0, 8, .inl (fun _ => zI 0)) := (hpu1075 b1010 mt1073).trans et1073
  have mb1074 : b1074 ∈ u1075.1 := by rw [hu1075]; exact List.mem_append_right _ List.mem_cons_self
  obtain ⟨k9, hk9⟩ := p_get D u1075 mt1076
  refine va_putF (C := RX12) (T := TX12) (N := 42) (ci := 11) (ty := tyX12 39) hx hb hts (fun _ h => (List.mem_cons_of_mem _ (List.mem_append_right _ h))) tyX12 tyX12_ok nmX12 hown hI.1 hG.1 hG.2 hS k9 (hk9.trans (by rw [et1076])) rfl 39 (by decide) (hts (.fieldLink RX12 111 "StraitSwimModel" "heldWeight" "[I") (List.mem_cons_of_mem _ (List.mem_append_left _ (List.mem_append_right _ (List.mem_of_getElem? (i := 14) rfl))))) (fun _ h9 => h9) rfl hin2 rfl (tyX12_ok 39 (by decide)) rfl rfl (Nat.le_of_ble_eq_true rfl) dX12_init_266 (fun H locs hP hD hS => ?_)
  obtain ⟨u1107, hu1107, hEu1107, hpu1107, hG⟩ := p_set (e := .inr (11, (.int (zI 0) :: .ref b1 :: .ref b7 :: .ref b15 :: .int (zI 5) :: .int (zI 20) :: .int (zI 0) :: .ref b35 :: .ref b47 :: .ref b61 :: .ref b77 :: .ref b95 :: .ref b115 :: .ref b137 :: .ref b161 :: .int (zI ((-1))) :: .int (zI 0) :: .ref b200 :: .ref b228 :: .ref b258 :: .ref b290 :: .int (zI 0) :: .ref b324 :: .int (zI 0) :: .ref b360 :: .int (zI 0) :: .ref b398 :: .ref b438 :: .ref b480 :: .ref b524 :: .ref b570 :: .ref b618 :: .ref b668 :: .ref b720 :: .ref b774 :: .ref b830 :: .ref b888 :: .ref b948 :: .ref b1010 :: .ref b1074 :: .null :: .null :: []))) hG mt1076 hk9 hP hD
  have mt1108 : a ∈ u1107.1 := (fun x hx => by rw [hu1107]; exact hx : ∀ x, x ∈ u1075.1 → x ∈ u1107.1) a mt1076
  have mt1109 : b1 ∈ u1107.1 := (fun x hx => by rw [hu1107]; exact hx : ∀ x, x ∈ u1075.1 → x ∈ u1107.1) b1 mt1077
  have et1109 : u1107.2 b1 = .inl (cy 2, 288, .inl (fun _ => zI 0)) := (hpu1107 b1 (fun h => (fun h9 => da_b1 h9.symm) h)).trans et1077
  have mt1110 : b7 ∈ u1107.1 := (fun x hx => by rw [hu1107]; exact hx : ∀ x, x ∈ u1075.1 → x ∈ u1107.1) b7 mt1078
  have et1110 : u1107.2 b7 = .inl (cy 0, 36, .inl (fun _ => zI 0)) := (hpu1107 b7 (fun h => (fun h9 => da_b7 h9.symm) h)).trans et1078
  have mt1111 : b15 ∈ u1107.1 := (fun x hx => by rw [hu1107]; exact hx : ∀ x, x ∈ u1075.1 → x ∈ u1107.1) b15 mt1079
  have et1111 : u1107.2 b15 = .inl (cy 0, 36, .inl (fun _ => zI 0)) := (hpu1107 b15 (fun h => (fun h9 => da_b15 h9.symm) h)).trans et1079
  have mt1112 : b35 ∈ u1107.1 := (fun x hx => by rw [hu1107]; exact hx : ∀ x, x ∈ u1075.1 → x ∈ u1107.1) b35 mt1080
  have et1112 : u1107.2 b35 = .inl (cy 0, 10, .inl (fun _ => zI 0)) := (hpu1107 b35 (fun h => (fun h9 => da_b35 h9.symm) h)).trans et1080
  have mt1113 : b47 ∈ u1107.1 := (fun x hx => by rw [hu1107]; exact hx : ∀ x, x ∈ u1075.1 → x ∈ u1107.1) b47 mt1081
  have et1113 : u1107.2 b47 = .inl (cy 0, 10, .inl (fun _ => zI 0)) := (hpu1107 b47 (fun h => (fun h9 => da_b47 h9.symm) h)).trans et1081
  have mt1114 : b61 ∈ u1107.1 := (fun x hx => by rw [hu1107]; exact hx : ∀ x, x ∈ u1075.1 → x ∈ u1107.1) b61 mt1082
  have et1114 : u1107.2 b61 = .inl (cy 0, 10, .inl (fun _ => zI 0)) := (hpu1107 b61 (fun h => (fun h9 => da_b61 h9.symm) h)).trans et1082
  have mt1115 : b77 ∈ u1107.1 := (fun x hx => by rw [hu1107]; exact hx : ∀ x, x ∈ u1075.1 → x ∈ u1107.1) b77 mt1083
  have et1115 : u1107.2 b77 = .inl (cy 0, 10, .inl (fun _ => zI 0)) := (hpu1107 b77 (fun h => (fun h9 => da_b77 h9.symm) h)).trans et1083
  have mt1116 : b95 ∈ u1107.1 := (fun x hx => by rw [hu1107]; exact hx : ∀ x, x ∈ u1075.1 → x ∈ u1107.1) b95 mt1084
  have et1116 : u1107.2 b95 = .inl (cy 0, 202, .inl (fun _ => zI 0)) := (hpu1107 b95 (fun h => (fun h9 => da_b95 h9.symm) h)).trans et1084
  have mt1117 : b115 ∈ u1107.1 := (fun x hx => by rw [hu1107]; exact hx : ∀ x, x ∈ u1075.1 → x ∈ u1107.1) b115 mt1085
  have et1117 : u1107.2 b115 = .inl (cy 0, 202, .inl (fun _ => zI 0)) := (hpu1107 b115 (fun h => (fun h9 => da_b115 h9.symm) h)).trans et1085
  have mt1118 : b137 ∈ u1107.1 := (fun x hx => by rw [hu1107]; exact hx : ∀ x, x ∈ u1075.1 → x ∈ u1107.1) b137 mt1086
  have et1118 : u1107.2 b137 = .inl (cy 0, 2, .inl (fun _ => zI 0)) := (hpu1107 b137 (fun h => (fun h9 => da_b137 h9.symm) h)).trans et1086
  have mt1119 : b161 ∈ u1107.1 := (fun x hx => by rw [hu1107]; exact hx : ∀ x, x ∈ u1075.1 → x ∈ u1107.1) b161 mt1087
  have et1119 : u1107.2 b161 = .inl (cy 0, 2, .inl (fun _ => zI 0)) := (hpu1107 b161 (fun h => (fun h9 => da_b161 h9.symm) h)).trans et1087
  have mt1120 : b200 ∈ u1107.1 := (fun x hx => by rw [hu1107]; exact hx : ∀ x, x ∈ u1075.1 → x ∈ u1107.1) b200 mt1088
  have et1120 : u1107.2 b200 = .inl (cy 0, 8, .inl (fun _ => zI 0)) := (hpu1107 b200 (fun h => (fun h9 => da_b200 h9.symm) h)).trans et1088
  have mt1121 : b228 ∈ u1107.1 := (fun x hx => by rw [hu1107]; exact hx : ∀ x, x ∈ u1075.1 → x ∈ u1107.1) b228 mt1089
  have et1121 : u1107.2 b228 = .inl (cy 0, 8, .inl (fun _ => zI 0)) := (hpu1107 b228 (fun h => (fun h9 => da_b228 h9.symm) h)).trans et1089
  have mt1122 : b258 ∈ u1107.1 := (fun x hx => by rw [hu1107]; exact hx : ∀ x, x ∈ u1075.1 → x ∈ u1107.1) b258 mt1090
  have et1122 : u1107.2 b258 = .inl (cy 0, 8, .inl (fun _ => zI 0)) := (hpu1107 b258 (fun h => (fun h9 => da_b258 h9.symm) h)).trans et1090
  have mt1123 : b290 ∈ u1107.1 := (fun x hx => by rw [hu1107]; exact hx : ∀ x, x ∈ u1075.1 → x ∈ u1107.1) b290 mt1091
  have et1123 : u1107.2 b290 = .inl (cy 0, 8, .inl (fun _ => zI 0)) := (hpu1107 b290 (fun h => (fun h9 => da_b290 h9.symm) h)).trans et1091
  have mt1124 : b324 ∈ u1107.1 := (fun x hx => by rw [hu1107]; exact hx : ∀ x, x ∈ u1075.1 → x ∈ u1107.1) b324 mt1092
  have et1124 : u1107.2 b324 = .inl (cy 0, 60, .inl (fun _ => zI 0)) := (hpu1107 b324 (fun h => (fun h9 => da_b324 h9.symm) h)).trans et1092
  have mt1125 : b360 ∈ u1107.1 := (fun x hx => by rw [hu1107]; exact hx : ∀ x, x ∈ u1075.1 → x ∈ u1107.1) b360 mt1093
  have et1125 : u1107.2 b360 = .inl (cy 0, 6, .inl (fun _ => zI 0)) := (hpu1107 b360 (fun h => (fun h9 => da_b360 h9.symm) h)).trans et1093
  have mt1126 : b398 ∈ u1107.1 := (fun x hx => by rw [hu1107]; exact hx : ∀ x, x ∈ u1075.1 → x ∈ u1107.1) b398 mt1094
  have et1126 : u1107.2 b398 = .inl (cy 0, 40, .inl (fun _ => zI 0)) := (hpu1107 b398 (fun h => (fun h9 => da_b398 h9.symm) h)).trans et1094
  have mt1127 : b438 ∈ u1107.1 := (fun x hx => by rw [hu1107]; exact hx : ∀ x, x ∈ u1075.1 → x ∈ u1107.1) b438 mt1095
  have et1127 : u1107.2 b438 = .inl (cy 2, 16, .inl (fun _ => zI 0)) := (hpu1107 b438 (fun h => (fun h9 => da_b438 h9.symm) h)).trans et1095
  have mt1128 : b480 ∈ u1107.1 := (fun x hx => by rw [hu1107]; exact hx : ∀ x, x ∈ u1075.1 → x ∈ u1107.1) b480 mt1096
  have et1128 : u1107.2 b480 = .inl (cy 0, 10, .inl (fun _ => zI 0)) := (hpu1107 b480 (fun h => (fun h9 => da_b480 h9.symm) h)).trans et1096
  have mt1129 : b524 ∈ u1107.1 := (fun x hx => by rw [hu1107]; exact hx : ∀ x, x ∈ u1075.1 → x ∈ u1107.1) b524 mt1097
  have et1129 : u1107.2 b524 = .inl (cy 0, 10, .inl (fun _ => zI 0)) := (hpu1107 b524 (fun h => (fun h9 => da_b524 h9.symm) h)).trans et1097
  have mt1130 : b570 ∈ u1107.1 := (fun x hx => by rw [hu1107]; exact hx : ∀ x, x ∈ u1075.1 → x ∈ u1107.1) b570 mt1098
  have et1130 : u1107.2 b570 = .inl (cy 0, 10, .inl (fun _ => zI 0)) := (hpu1107 b570 (fun h => (fun h9 => da_b570 h9.symm) h)).trans et1098
  have mt1131 : b618 ∈ u1107.1 := (fun x hx => by rw [hu1107]; exact hx : ∀ x, x ∈ u1075.1 → x ∈ u1107.1) b618 mt1099
  have et1131 : u1107.2 b618 = .inl (cy 0, 16, .inl (fun _ => zI 0)) := (hpu1107 b618 (fun h => (fun h9 => da_b618 h9.symm) h)).trans et1099
  have mt1132 : b668 ∈ u1107.1 := (fun x hx => by rw [hu1107]; exact hx : ∀ x, x ∈ u1075.1 → x ∈ u1107.1) b668 mt1100
  have et1132 : u1107.2 b668 = .inl (cy 2, 10, .inl (fun _ => zI 0)) := (hpu1107 b668 (fun h => (fun h9 => da_b668 h9.symm) h)).trans et1100
  have mt1133 : b720 ∈ u1107.1 := (fun x hx => by rw [hu1107]; exact hx : ∀ x, x ∈ u1075.1 → x ∈ u1107.1) b720 mt1101
  have et1133 : u1107.2 b720 = .inl (cy 2, 16, .inl (fun _ => zI 0)) := (hpu1107 b720 (fun h => (fun h9 => da_b720 h9.symm) h)).trans et1101
  have mt1134 : b774 ∈ u1107.1 := (fun x hx => by rw [hu1107]; exact hx : ∀ x, x ∈ u1075.1 → x ∈ u1107.1) b774 mt1102
  have et1134 : u1107.2 b774 = .inl (cy 0, 16, .inl (fun _ => zI 0)) := (hpu1107 b774 (fun h => (fun h9 => da_b774 h9.symm) h)).trans et1102
  have mt1135 : b830 ∈ u1107.1 := (fun x hx => by rw [hu1107]; exact hx : ∀ x, x ∈ u1075.1 → x ∈ u1107.1) b830 mt1103
  have et1135 : u1107.2 b830 = .inl (cy 0, 16, .inl (fun _ => zI 0)) := (hpu1107 b830 (fun h => (fun h9 => da_b830 h9.symm) h)).trans et1103
  have mt1136 : b888 ∈ u1107.1 := (fun x hx => by rw [hu1107]; exact hx : ∀ x, x ∈ u1075.1 → x ∈ u1107.1) b888 mt1104
  have et1136 : u1107.2 b888 = .inl (cy 0, 8, .inl (fun _ => zI 0)) := (hpu1107 b888 (fun h => (fun h9 => da_b888 h9.symm) h)).trans et1104
  have mt1137 : b948 ∈ u1107.1 := (fun x hx => by rw [hu1107]; exact hx : ∀ x, x ∈ u1075.1 → x ∈ u1107.1) b948 mt1105
  have et1137 : u1107.2 b948 = .inl (cy 0, 8, .inl (fun _ => zI 0)) := (hpu1107 b948 (fun h => (fun h9 => da_b948 h9.symm) h)).trans et1105
  have mt1138 : b1010 ∈ u1107.1 := (fun x hx => by rw [hu1107]; exact hx : ∀ x, x ∈ u1075.1 → x ∈ u1107.1) b1010 mt1106
  have et1138 : u1107.2 b1010 = .inl (cy 0, 8, .inl (fun _ => zI 0)) := (hpu1107 b1010 (fun h => (fun h9 => da_b1010 h9.symm) h)).trans et1106
  have mt1139 : b1074 ∈ u1107.1 := (fun x hx => by rw [hu1107]; exact hx : ∀ x, x ∈ u1075.1 → x ∈ u1107.1) b1074 mb1074
  have et1139 : u1107.2 b1074 = .inl (cy 0, 8, .inl (fun _ => zI 0)) := (hpu1107 b1074 (fun h => (fun h9 => da_b1074 h9.symm) h)).trans hEb1074
  have hLu1107 : u1107.1 = (((((((((((((((((((((((((((((((u.1 ++ [b1]) ++ [b7]) ++ [b15]) ++ [b35]) ++ [b47]) ++ [b61]) ++ [b77]) ++ [b95]) ++ [b115]) ++ [b137]) ++ [b161]) ++ [b200]) ++ [b228]) ++ [b258]) ++ [b290]) ++ [b324]) ++ [b360]) ++ [b398]) ++ [b438]) ++ [b480]) ++ [b524]) ++ [b570]) ++ [b618]) ++ [b668]) ++ [b720]) ++ [b774]) ++ [b830]) ++ [b888]) ++ [b948]) ++ [b1010]) ++ [b1074]) := by rw [hu1107, hLu1075]
  have hMu1107 : ∀ x, x ∈ u.1 → x ∈ u1107.1 := fun x hx => by rw [hu1107]; exact hMu1075 x hx
  have hOu1107 : ∀ x, x ∈ u.1 → x ≠ a → u1107.2 x = u.2 x := fun x hx ne => (hpu1107 x ne).trans (hOu1075 x hx ne)
  refine lv_aload_n hx hb dX12_init_269 rfl (lv_at hl 0 rfl) ?_
  refine z_bipush hx hb dX12_init_270 (by decide) ?_
  refine p_newI (z := 8) (M := 8) hx hb (hts (.arrayClass .int) (List.mem_cons_of_mem _ (List.mem_append_left _ (List.mem_append_left _ (List.mem_of_getElem? (i := 5) rfl))))) hI hG hS (by omega) (by omega) (by omega) (Nat.le_of_ble_eq_true rfl) (Nat.le_of_ble_eq_true rfl) dX12_init_272 (fun b1140 u1141 H hu1141 hEb1140 hpu1141 hnb1140 hG hS => ?_)
  have hEb1140 : u1141.2 b1140 = .inl (cy 0, 8, .inl (fun _ => zI 0)) := hEb1140
  have fb1140 : b1140 ∉ (((((((((((((((((((((((((((((((u.1 ++ [b1]) ++ [b7]) ++ [b15]) ++ [b35]) ++ [b47]) ++ [b61]) ++ [b77]) ++ [b95]) ++ [b115]) ++ [b137]) ++ [b161]) ++ [b200]) ++ [b228]) ++ [b258]) ++ [b290]) ++ [b324]) ++ [b360]) ++ [b398]) ++ [b438]) ++ [b480]) ++ [b524]) ++ [b570]) ++ [b618]) ++ [b668]) ++ [b720]) ++ [b774]) ++ [b830]) ++ [b888]) ++ [b948]) ++ [b1010]) ++ [b1074]) := by rw [← hLu1107]; exact hnb1140
  have hLu1141 : u1141.1 = ((((((((((((((((((((((((((((((((u.1 ++ [b1]) ++ [b7]) ++ [b15]) ++ [b35]) ++ [b47]) ++ [b61]) ++ [b77]) ++ [b95]) ++ [b115]) ++ [b137]) ++ [b161]) ++ [b200]) ++ [b228]) ++ [b258]) ++ [b290]) ++ [b324]) ++ [b360]) ++ [b398]) ++ [b438]) ++ [b480]) ++ [b524]) ++ [b570]) ++ [b618]) ++ [b668]) ++ [b720]) ++ [b774]) ++ [b830]) ++ [b888]) ++ [b948]) ++ [b1010]) ++ [b1074]) ++ [b1140]) := by rw [hu1141, hLu1107]
  have hMu1141 : ∀ x, x ∈ u.1 → x ∈ u1141.1 := fun x hx => by rw [hu1141]; exact List.mem_append_left _ (hMu1107 x hx)
  have hOu1141 : ∀ x, x ∈ u.1 → x ≠ a → u1141.2 x = u.2 x := fun x hx ne => (hpu1141 x (hMu1107 x hx)).trans (hOu1107 x hx ne)
  have da_b1140 : a ≠ b1140 := fun h => hnb1140 (h ▸ mt1108)
  have db1_b1140 : b1 ≠ b1140 := fun h => hnb1140 (h ▸ mt1109)
  have db7_b1140 : b7 ≠ b1140 := fun h => hnb1140 (h ▸ mt1110)
  have db15_b1140 : b15 ≠ b1140 := fun h => hnb1140 (h ▸ mt1111)
  have db35_b1140 : b35 ≠ b1140 := fun h => hnb1140 (h ▸ mt1112)
  have db47_b1140 : b47 ≠ b1140 := fun h => hnb1140 (h ▸ mt1113)
  have db61_b1140 : b61 ≠ b1140 := fun h => hnb1140 (h ▸ mt1114)
  have db77_b1140 : b77 ≠ b1140 := fun h => hnb1140 (h ▸ mt1115)
  have db95_b1140 : b95 ≠ b1140 := fun h => hnb1140 (h ▸ mt1116)
  have db115_b1140 : b115 ≠ b1140 := fun h => hnb1140 (h ▸ mt1117)
  have db137_b1140 : b137 ≠ b1140 := fun h => hnb1140 (h ▸ mt1118)
  have db161_b1140 : b161 ≠ b1140 := fun h => hnb1140 (h ▸ mt1119)
  have db200_b1140 : b200 ≠ b1140 := fun h => hnb1140 (h ▸ mt1120)
  have db228_b1140 : b228 ≠ b1140 := fun h => hnb1140 (h ▸ mt1121)
  have db258_b1140 : b258 ≠ b1140 := fun h => hnb1140 (h ▸ mt1122)
  have db290_b1140 : b290 ≠ b1140 := fun h => hnb1140 (h ▸ mt1123)
  have db324_b1140 : b324 ≠ b1140 := fun h => hnb1140 (h ▸ mt1124)
  have db360_b1140 : b360 ≠ b1140 := fun h => hnb1140 (h ▸ mt1125)
  have db398_b1140 : b398 ≠ b1140 := fun h => hnb1140 (h ▸ mt1126)
  have db438_b1140 : b438 ≠ b1140 := fun h => hnb1140 (h ▸ mt1127)
  have db480_b1140 : b480 ≠ b1140 := fun h => hnb1140 (h ▸ mt1128)
  have db524_b1140 : b524 ≠ b1140 := fun h => hnb1140 (h ▸ mt1129)
  have db570_b1140 : b570 ≠ b1140 := fun h => hnb1140 (h ▸ mt1130)
  have db618_b1140 : b618 ≠ b1140 := fun h => hnb1140 (h ▸ mt1131)
  have db668_b1140 : b668 ≠ b1140 := fun h => hnb1140 (h ▸ mt1132)
  have db720_b1140 : b720 ≠ b1140 := fun h => hnb1140 (h ▸ mt1133)
  have db774_b1140 : b774 ≠ b1140 := fun h => hnb1140 (h ▸ mt1134)
  have db830_b1140 : b830 ≠ b1140 := fun h => hnb1140 (h ▸ mt1135)
  have db888_b1140 : b888 ≠ b1140 := fun h => hnb1140 (h ▸ mt1136)
  have db948_b1140 : b948 ≠ b1140 := fun h => hnb1140 (h ▸ mt1137)
  have db1010_b1140 : b1010 ≠ b1140 := fun h => hnb1140 (h ▸ mt1138)
  have db1074_b1140 : b1074 ≠ b1140 := fun h => hnb1140 (h ▸ mt1139)
  have mt1142 : a ∈ u1141.1 := (fun x hx => by rw [hu1141]; exact List.mem_append_left _ hx : ∀ x, x ∈ u1107.1 → x ∈ u1141.1) a mt1108
  have et1142 : u1141.2 a = .inr (11, (.int (zI 0) :: .ref b1 :: .ref b7 :: .ref b15 :: .int (zI 5) :: .int (zI 20) :: .int (zI 0) :: .ref b35 :: .ref b47 :: .ref b61 :: .ref b77 :: .ref b95 :: .ref b115 :: .ref b137 :: .ref b161 :: .int (zI ((-1))) :: .int (zI 0) :: .ref b200 :: .ref b228 :: .ref b258 :: .ref b290 :: .int (zI 0) :: .ref b324 :: .int (zI 0) :: .ref b360 :: .int (zI 0) :: .ref b398 :: .ref b438 :: .ref b480 :: .ref b524 :: .ref b570 :: .ref b618 :: .ref b668 :: .ref b720 :: .ref b774 :: .ref b830 :: .ref b888 :: .ref b948 :: .ref b1010 :: .ref b1074 :: .null :: .null :: [])) := (hpu1141 a mt1108).trans hEu1107
  have mt1143 : b1 ∈ u1141.1 := (fun x hx => by rw [hu1141]; exact List.mem_append_left _ hx : ∀ x, x ∈ u1107.1 → x ∈ u1141.1) b1 mt1109
  have et1143 : u1141.2 b1 = .inl (cy 2, 288, .inl (fun _ => zI 0)) := (hpu1141 b1 mt1109).trans et1109
  have mt1144 : b7 ∈ u1141.1 := (fun x hx => by rw [hu1141]; exact List.mem_append_left _ hx : ∀ x, x ∈ u1107.1 → x ∈ u1141.1) b7 mt1110
  have et1144 : u1141.2 b7 = .inl (cy 0, 36, .inl (fun _ => zI 0)) := (hpu1141 b7 mt1110).trans et1110
  have mt1145 : b15 ∈ u1141.1 := (fun x hx => by rw [hu1141]; exact List.mem_append_left _ hx : ∀ x, x ∈ u1107.1 → x ∈ u1141.1) b15 mt1111
  have et1145 : u1141.2 b15 = .inl (cy 0, 36, .inl (fun _ => zI 0)) := (hpu1141 b15 mt1111).trans et1111
  have mt1146 : b35 ∈ u1141.1 := (fun x hx => by rw [hu1141]; exact List.mem_append_left _ hx : ∀ x, x ∈ u1107.1 → x ∈ u1141.1) b35 mt1112
  have et1146 : u1141.2 b35 = .inl (cy 0, 10, .inl (fun _ => zI 0)) := (hpu1141 b35 mt1112).trans et1112
  have mt1147 : b47 ∈ u1141.1 := (fun x hx => by rw [hu1141]; exact List.mem_append_left _ hx : ∀ x, x ∈ u1107.1 → x ∈ u1141.1) b47 mt1113
  have et1147 : u1141.2 b47 = .inl (cy 0, 10, .inl (fun _ => zI 0)) := (hpu1141 b47 mt1113).trans et1113
  have mt1148 : b61 ∈ u1141.1 := (fun x hx => by rw [hu1141]; exact List.mem_append_left _ hx : ∀ x, x ∈ u1107.1 → x ∈ u1141.1) b61 mt1114
  have et1148 : u1141.2 b61 = .inl (cy 0, 10, .inl (fun _ => zI 0)) := (hpu1141 b61 mt1114).trans et1114
  have mt1149 : b77 ∈ u1141.1 := (fun x hx => by rw [hu1141]; exact List.mem_append_left _ hx : ∀ x, x ∈ u1107.1 → x ∈ u1141.1) b77 mt1115
  have et1149 : u1141.2 b77 = .inl (cy 0, 10, .inl (fun _ => zI 0)) := (hpu1141 b77 mt1115).trans et1115
  have mt1150 : b95 ∈ u1141.1 := (fun x hx => by rw [hu1141]; exact List.mem_append_left _ hx : ∀ x, x ∈ u1107.1 → x ∈ u1141.1) b95 mt1116
  have et1150 : u1141.2 b95 = .inl (cy 0, 202, .inl (fun _ => zI 0)) := (hpu1141 b95 mt1116).trans et1116
  have mt1151 : b115 ∈ u1141.1 := (fun x hx => by rw [hu1141]; exact List.mem_append_left _ hx : ∀ x, x ∈ u1107.1 → x ∈ u1141.1) b115 mt1117
  have et1151 : u1141.2 b115 = .inl (cy 0, 202, .inl (fun _ => zI 0)) := (hpu1141 b115 mt1117).trans et1117
  have mt1152 : b137 ∈ u1141.1 := (fun x hx => by rw [hu1141]; exact List.mem_append_left _ hx : ∀ x, x ∈ u1107.1 → x ∈ u1141.1) b137 mt1118
  have et1152 : u1141.2 b137 = .inl (cy 0, 2, .inl (fun _ => zI 0)) := (hpu1141 b137 mt1118).trans et1118
  have mt1153 : b161 ∈ u1141.1 := (fun x hx => by rw [hu1141]; exact List.mem_append_left _ hx : ∀ x, x ∈ u1107.1 → x ∈ u1141.1) b161 mt1119
  have et1153 : u1141.2 b161 = .inl (cy 0, 2, .inl (fun _ => zI 0)) := (hpu1141 b161 mt1119).trans et1119
  have mt1154 : b200 ∈ u1141.1 := (fun x hx => by rw [hu1141]; exact List.mem_append_left _ hx : ∀ x, x ∈ u1107.1 → x ∈ u1141.1) b200 mt1120
  have et1154 : u1141.2 b200 = .inl (cy 0, 8, .inl (fun _ => zI 0)) := (hpu1141 b200 mt1120).trans et1120
  have mt1155 : b228 ∈ u1141.1 := (fun x hx => by rw [hu1141]; exact List.mem_append_left _ hx : ∀ x, x ∈ u1107.1 → x ∈ u1141.1) b228 mt1121
  have et1155 : u1141.2 b228 = .inl (cy 0, 8, .inl (fun _ => zI 0)) := (hpu1141 b228 mt1121).trans et1121
  have mt1156 : b258 ∈ u1141.1 := (fun x hx => by rw [hu1141]; exact List.mem_append_left _ hx : ∀ x, x ∈ u1107.1 → x ∈ u1141.1) b258 mt1122
  have et1156 : u1141.2 b258 = .inl (cy 0, 8, .inl (fun _ => zI 0)) := (hpu1141 b258 mt1122).trans et1122
  have mt1157 : b290 ∈ u1141.1 := (fun x hx => by rw [hu1141]; exact List.mem_append_left _ hx : ∀ x, x ∈ u1107.1 → x ∈ u1141.1) b290 mt1123
  have et1157 : u1141.2 b290 = .inl (cy 0, 8, .inl (fun _ => zI 0)) := (hpu1141 b290 mt1123).trans et1123
  have mt1158 : b324 ∈ u1141.1 := (fun x hx => by rw [hu1141]; exact List.mem_append_left _ hx : ∀ x, x ∈ u1107.1 → x ∈ u1141.1) b324 mt1124
  have et1158 : u1141.2 b324 = .inl (cy 0, 60, .inl (fun _ => zI 0)) := (hpu1141 b324 mt1124).trans et1124
  have mt1159 : b360 ∈ u1141.1 := (fun x hx => by rw [hu1141]; exact List.mem_append_left _ hx : ∀ x, x ∈ u1107.1 → x ∈ u1141.1) b360 mt1125
  have et1159 : u1141.2 b360 = .inl (cy 0, 6, .inl (fun _ => zI 0)) := (hpu1141 b360 mt1125).trans et1125
  have mt1160 : b398 ∈ u1141.1 := (fun x hx => by rw [hu1141]; exact List.mem_append_left _ hx : ∀ x, x ∈ u1107.1 → x ∈ u1141.1) b398 mt1126
  have et1160 : u1141.2 b398 = .inl (cy 0, 40, .inl (fun _ => zI 0)) := (hpu1141 b398 mt1126).trans et1126
  have mt1161 : b438 ∈ u1141.1 := (fun x hx => by rw [hu1141]; exact List.mem_append_left _ hx : ∀ x, x ∈ u1107.1 → x ∈ u1141.1) b438 mt1127
  have et1161 : u1141.2 b438 = .inl (cy 2, 16, .inl (fun _ => zI 0)) := (hpu1141 b438 mt1127).trans et1127
  have mt1162 : b480 ∈ u1141.1 := (fun x hx => by rw [hu1141]; exact List.mem_append_left _ hx : ∀ x, x ∈ u1107.1 → x ∈ u1141.1) b480 mt1128
  have et1162 : u1141.2 b480 = .inl (cy 0, 10, .inl (fun _ => zI 0)) := (hpu1141 b480 mt1128).trans et1128
  have mt1163 : b524 ∈ u1141.1 := (fun x hx => by rw [hu1141]; exact List.mem_append_left _ hx : ∀ x, x ∈ u1107.1 → x ∈ u1141.1) b524 mt1129
  have et1163 : u1141.2 b524 = .inl (cy 0, 10, .inl (fun _ => zI 0)) := (hpu1141 b524 mt1129).trans et1129
  have mt1164 : b570 ∈ u1141.1 := (fun x hx => by rw [hu1141]; exact List.mem_append_left _ hx : ∀ x, x ∈ u1107.1 → x ∈ u1141.1) b570 mt1130
  have et1164 : u1141.2 b570 = .inl (cy 0, 10, .inl (fun _ => zI 0)) := (hpu1141 b570 mt1130).trans et1130
  have mt1165 : b618 ∈ u1141.1 := (fun x hx => by rw [hu1141]; exact List.mem_append_left _ hx : ∀ x, x ∈ u1107.1 → x ∈ u1141.1) b618 mt1131
  have et1165 : u1141.2 b618 = .inl (cy 0, 16, .inl (fun _ => zI 0)) := (hpu1141 b618 mt1131).trans et1131
  have mt1166 : b668 ∈ u1141.1 := (fun x hx => by rw [hu1141]; exact List.mem_append_left _ hx : ∀ x, x ∈ u1107.1 → x ∈ u1141.1) b668 mt1132
  have et1166 : u1141.2 b668 = .inl (cy 2, 10, .inl (fun _ => zI 0)) := (hpu1141 b668 mt1132).trans et1132
  have mt1167 : b720 ∈ u1141.1 := (fun x hx => by rw [hu1141]; exact List.mem_append_left _ hx : ∀ x, x ∈ u1107.1 → x ∈ u1141.1) b720 mt1133
  have et1167 : u1141.2 b720 = .inl (cy 2, 16, .inl (fun _ => zI 0)) := (hpu1141 b720 mt1133).trans et1133
  have mt1168 : b774 ∈ u1141.1 := (fun x hx => by rw [hu1141]; exact List.mem_append_left _ hx : ∀ x, x ∈ u1107.1 → x ∈ u1141.1) b774 mt1134
  have et1168 : u1141.2 b774 = .inl (cy 0, 16, .inl (fun _ => zI 0)) := (hpu1141 b774 mt1134).trans et1134
  have mt1169 : b830 ∈ u1141.1 := (fun x hx => by rw [hu1141]; exact List.mem_append_left _ hx : ∀ x, x ∈ u1107.1 → x ∈ u1141.1) b830 mt1135
  have et1169 : u1141.2 b830 = .inl (cy 0, 16, .inl (fun _ => zI 0)) := (hpu1141 b830 mt1135).trans et1135
  have mt1170 : b888 ∈ u1141.1 := (fun x hx => by rw [hu1141]; exact List.mem_append_left _ hx : ∀ x, x ∈ u1107.1 → x ∈ u1141.1) b888 mt1136
  have et1170 : u1141.2 b888 = .inl (cy 0, 8, .inl (fun _ => zI 0)) := (hpu1141 b888 mt1136).trans et1136
  have mt1171 : b948 ∈ u1141.1 := (fun x hx => by rw [hu1141]; exact List.mem_append_left _ hx : ∀ x, x ∈ u1107.1 → x ∈ u1141.1) b948 mt1137
  have et1171 : u1141.2 b948 = .inl (cy 0, 8, .inl (fun _ => zI 0)) := (hpu1141 b948 mt1137).trans et1137
  have mt1172 : b1010 ∈ u1141.1 := (fun x hx => by rw [hu1141]; exact List.mem_append_left _ hx : ∀ x, x ∈ u1107.1 → x ∈ u1141.1) b1010 mt1138
  have et1172 : u1141.2 b1010 = .inl (cy 0, 8, .inl (fun _ => zI 0)) := (hpu1141 b1010 mt1138).trans et1138
  have mt1173 : b1074 ∈ u1141.1 := (fun x hx => by rw [hu1141]; exact List.mem_append_left _ hx : ∀ x, x ∈ u1107.1 → x ∈ u1141.1) b1074 mt1139
  have et1173 : u1141.2 b1074 = .inl (cy 0, 8, .inl (fun _ => zI 0)) := (hpu1141 b1074 mt1139).trans et1139
  have mb1140 : b1140 ∈ u1141.1 := by rw [hu1141]; exact List.mem_append_right _ List.mem_cons_self
  obtain ⟨k9, hk9⟩ := p_get D u1141 mt1142
  refine va_putF (C := RX12) (T := TX12) (N := 42) (ci := 11) (ty := tyX12 40) hx hb hts (fun _ h => (List.mem_cons_of_mem _ (List.mem_append_right _ h))) tyX12 tyX12_ok nmX12 hown hI.1 hG.1 hG.2 hS k9 (hk9.trans (by rw [et1142])) rfl 40 (by decide) (hts (.fieldLink RX12 114 "StraitSwimModel" "rowSize" "[I") (List.mem_cons_of_mem _ (List.mem_append_left _ (List.mem_append_right _ (List.mem_of_getElem? (i := 15) rfl))))) (fun _ h9 => h9) rfl hin2 rfl (tyX12_ok 40 (by decide)) rfl rfl (Nat.le_of_ble_eq_true rfl) dX12_init_274 (fun H locs hP hD hS => ?_)
  obtain ⟨u1174, hu1174, hEu1174, hpu1174, hG⟩ := p_set (e := .inr (11, (.int (zI 0) :: .ref b1 :: .ref b7 :: .ref b15 :: .int (zI 5) :: .int (zI 20) :: .int (zI 0) :: .ref b35 :: .ref b47 :: .ref b61 :: .ref b77 :: .ref b95 :: .ref b115 :: .ref b137 :: .ref b161 :: .int (zI ((-1))) :: .int (zI 0) :: .ref b200 :: .ref b228 :: .ref b258 :: .ref b290 :: .int (zI 0) :: .ref b324 :: .int (zI 0) :: .ref b360 :: .int (zI 0) :: .ref b398 :: .ref b438 :: .ref b480 :: .ref b524 :: .ref b570 :: .ref b618 :: .ref b668 :: .ref b720 :: .ref b774 :: .ref b830 :: .ref b888 :: .ref b948 :: .ref b1010 :: .ref b1074 :: .ref b1140 :: .null :: []))) hG mt1142 hk9 hP hD
  have mt1175 : a ∈ u1174.1 := (fun x hx => by rw [hu1174]; exact hx : ∀ x, x ∈ u1141.1 → x ∈ u1174.1) a mt1142
  have mt1176 : b1 ∈ u1174.1 := (fun x hx => by rw [hu1174]; exact hx : ∀ x, x ∈ u1141.1 → x ∈ u1174.1) b1 mt1143
  have et1176 : u1174.2 b1 = .inl (cy 2, 288, .inl (fun _ => zI 0)) := (hpu1174 b1 (fun h => (fun h9 => da_b1 h9.symm) h)).trans et1143
  have mt1177 : b7 ∈ u1174.1 := (fun x hx => by rw [hu1174]; exact hx : ∀ x, x ∈ u1141.1 → x ∈ u1174.1) b7 mt1144
  have et1177 : u1174.2 b7 = .inl (cy 0, 36, .inl (fun _ => zI 0)) := (hpu1174 b7 (fun h => (fun h9 => da_b7 h9.symm) h)).trans et1144
  have mt1178 : b15 ∈ u1174.1 := (fun x hx => by rw [hu1174]; exact hx : ∀ x, x ∈ u1141.1 → x ∈ u1174.1) b15 mt1145
  have et1178 : u1174.2 b15 = .inl (cy 0, 36, .inl (fun _ => zI 0)) := (hpu1174 b15 (fun h => (fun h9 => da_b15 h9.symm) h)).trans et1145
  have mt1179 : b35 ∈ u1174.1 := (fun x hx => by rw [hu1174]; exact hx : ∀ x, x ∈ u1141.1 → x ∈ u1174.1) b35 mt1146
  have et1179 : u1174.2 b35 = .inl (cy 0, 10, .inl (fun _ => zI 0)) := (hpu1174 b35 (fun h => (fun h9 => da_b35 h9.symm) h)).trans et1146
  have mt1180 : b47 ∈ u1174.1 := (fun x hx => by rw [hu1174]; exact hx : ∀ x, x ∈ u1141.1 → x ∈ u1174.1) b47 mt1147
  have et1180 : u1174.2 b47 = .inl (cy 0, 10, .inl (fun _ => zI 0)) := (hpu1174 b47 (fun h => (fun h9 => da_b47 h9.symm) h)).trans et1147
  have mt1181 : b61 ∈ u1174.1 := (fun x hx => by rw [hu1174]; exact hx : ∀ x, x ∈ u1141.1 → x ∈ u1174.1) b61 mt1148
  have et1181 : u1174.2 b61 = .inl (cy 0, 10, .inl (fun _ => zI 0)) := (hpu1174 b61 (fun h => (fun h9 => da_b61 h9.symm) h)).trans et1148
  have mt1182 : b77 ∈ u1174.1 := (fun x hx => by rw [hu1174]; exact hx : ∀ x, x ∈ u1141.1 → x ∈ u1174.1) b77 mt1149
  have et1182 : u1174.2 b77 = .inl (cy 0, 10, .inl (fun _ => zI 0)) := (hpu1174 b77 (fun h => (fun h9 => da_b77 h9.symm) h)).trans et1149
  have mt1183 : b95 ∈ u1174.1 := (fun x hx => by rw [hu1174]; exact hx : ∀ x, x ∈ u1141.1 → x ∈ u1174.1) b95 mt1150
  have et1183 : u1174.2 b95 = .inl (cy 0, 202, .inl (fun _ => zI 0)) := (hpu1174 b95 (fun h => (fun h9 => da_b95 h9.symm) h)).trans et1150
  have mt1184 : b115 ∈ u1174.1 := (fun x hx => by rw [hu1174]; exact hx : ∀ x, x ∈ u1141.1 → x ∈ u1174.1) b115 mt1151
  have et1184 : u1174.2 b115 = .inl (cy 0, 202, .inl (fun _ => zI 0)) := (hpu1174 b115 (fun h => (fun h9 => da_b115 h9.symm) h)).trans et1151
  have mt1185 : b137 ∈ u1174.1 := (fun x hx => by rw [hu1174]; exact hx : ∀ x, x ∈ u1141.1 → x ∈ u1174.1) b137 mt1152
  have et1185 : u1174.2 b137 = .inl (cy 0, 2, .inl (fun _ => zI 0)) := (hpu1174 b137 (fun h => (fun h9 => da_b137 h9.symm) h)).trans et1152
  have mt1186 : b161 ∈ u1174.1 := (fun x hx => by rw [hu1174]; exact hx : ∀ x, x ∈ u1141.1 → x ∈ u1174.1) b161 mt1153
  have et1186 : u1174.2 b161 = .inl (cy 0, 2, .inl (fun _ => zI 0)) := (hpu1174 b161 (fun h => (fun h9 => da_b161 h9.symm) h)).trans et1153
  have mt1187 : b200 ∈ u1174.1 := (fun x hx => by rw [hu1174]; exact hx : ∀ x, x ∈ u1141.1 → x ∈ u1174.1) b200 mt1154
  have et1187 : u1174.2 b200 = .inl (cy 0, 8, .inl (fun _ => zI 0)) := (hpu1174 b200 (fun h => (fun h9 => da_b200 h9.symm) h)).trans et1154
  have mt1188 : b228 ∈ u1174.1 := (fun x hx => by rw [hu1174]; exact hx : ∀ x, x ∈ u1141.1 → x ∈ u1174.1) b228 mt1155
  have et1188 : u1174.2 b228 = .inl (cy 0, 8, .inl (fun _ => zI 0)) := (hpu1174 b228 (fun h => (fun h9 => da_b228 h9.symm) h)).trans et1155
  have mt1189 : b258 ∈ u1174.1 := (fun x hx => by rw [hu1174]; exact hx : ∀ x, x ∈ u1141.1 → x ∈ u1174.1) b258 mt1156
  have et1189 : u1174.2 b258 = .inl (cy 0, 8, .inl (fun _ => zI 0)) := (hpu1174 b258 (fun h => (fun h9 => da_b258 h9.symm) h)).trans et1156
  have mt1190 : b290 ∈ u1174.1 := (fun x hx => by rw [hu1174]; exact hx : ∀ x, x ∈ u1141.1 → x ∈ u1174.1) b290 mt1157
  have et1190 : u1174.2 b290 = .inl (cy 0, 8, .inl (fun _ => zI 0)) := (hpu1174 b290 (fun h => (fun h9 => da_b290 h9.symm) h)).trans et1157
  have mt1191 : b324 ∈ u1174.1 := (fun x hx => by rw [hu1174]; exact hx : ∀ x, x ∈ u1141.1 → x ∈ u1174.1) b324 mt1158
  have et1191 : u1174.2 b324 = .inl (cy 0, 60, .inl (fun _ => zI 0)) := (hpu1174 b324 (fun h => (fun h9 => da_b324 h9.symm) h)).trans et1158
  have mt1192 : b360 ∈ u1174.1 := (fun x hx => by rw [hu1174]; exact hx : ∀ x, x ∈ u1141.1 → x ∈ u1174.1) b360 mt1159
  have et1192 : u1174.2 b360 = .inl (cy 0, 6, .inl (fun _ => zI 0)) := (hpu1174 b360 (fun h => (fun h9 => da_b360 h9.symm) h)).trans et1159
  have mt1193 : b398 ∈ u1174.1 := (fun x hx => by rw [hu1174]; exact hx : ∀ x, x ∈ u1141.1 → x ∈ u1174.1) b398 mt1160
  have et1193 : u1174.2 b398 = .inl (cy 0, 40, .inl (fun _ => zI 0)) := (hpu1174 b398 (fun h => (fun h9 => da_b398 h9.symm) h)).trans et1160
  have mt1194 : b438 ∈ u1174.1 := (fun x hx => by rw [hu1174]; exact hx : ∀ x, x ∈ u1141.1 → x ∈ u1174.1) b438 mt1161
  have et1194 : u1174.2 b438 = .inl (cy 2, 16, .inl (fun _ => zI 0)) := (hpu1174 b438 (fun h => (fun h9 => da_b438 h9.symm) h)).trans et1161
  have mt1195 : b480 ∈ u1174.1 := (fun x hx => by rw [hu1174]; exact hx : ∀ x, x ∈ u1141.1 → x ∈ u1174.1) b480 mt1162
  have et1195 : u1174.2 b480 = .inl (cy 0, 10, .inl (fun _ => zI 0)) := (hpu1174 b480 (fun h => (fun h9 => da_b480 h9.symm) h)).trans et1162
  have mt1196 : b524 ∈ u1174.1 := (fun x hx => by rw [hu1174]; exact hx : ∀ x, x ∈ u1141.1 → x ∈ u1174.1) b524 mt1163
  have et1196 : u1174.2 b524 = .inl (cy 0, 10, .inl (fun _ => zI 0)) := (hpu1174 b524 (fun h => (fun h9 => da_b524 h9.symm) h)).trans et1163
  have mt1197 : b570 ∈ u1174.1 := (fun x hx => by rw [hu1174]; exact hx : ∀ x, x ∈ u1141.1 → x ∈ u1174.1) b570 mt1164
  have et1197 : u1174.2 b570 = .inl (cy 0, 10, .inl (fun _ => zI 0)) := (hpu1174 b570 (fun h => (fun h9 => da_b570 h9.symm) h)).trans et1164
  have mt1198 : b618 ∈ u1174.1 := (fun x hx => by rw [hu1174]; exact hx : ∀ x, x ∈ u1141.1 → x ∈ u1174.1) b618 mt1165
  have et1198 : u1174.2 b618 = .inl (cy 0, 16, .inl (fun _ => zI 0)) := (hpu1174 b618 (fun h => (fun h9 => da_b618 h9.symm) h)).trans et1165
  have mt1199 : b668 ∈ u1174.1 := (fun x hx => by rw [hu1174]; exact hx : ∀ x, x ∈ u1141.1 → x ∈ u1174.1) b668 mt1166
  have et1199 : u1174.2 b668 = .inl (cy 2, 10, .inl (fun _ => zI 0)) := (hpu1174 b668 (fun h => (fun h9 => da_b668 h9.symm) h)).trans et1166
  have mt1200 : b720 ∈ u1174.1 := (fun x hx => by rw [hu1174]; exact hx : ∀ x, x ∈ u1141.1 → x ∈ u1174.1) b720 mt1167
  have et1200 : u1174.2 b720 = .inl (cy 2, 16, .inl (fun _ => zI 0)) := (hpu1174 b720 (fun h => (fun h9 => da_b720 h9.symm) h)).trans et1167
  have mt1201 : b774 ∈ u1174.1 := (fun x hx => by rw [hu1174]; exact hx : ∀ x, x ∈ u1141.1 → x ∈ u1174.1) b774 mt1168
  have et1201 : u1174.2 b774 = .inl (cy 0, 16, .inl (fun _ => zI 0)) := (hpu1174 b774 (fun h => (fun h9 => da_b774 h9.symm) h)).trans et1168
  have mt1202 : b830 ∈ u1174.1 := (fun x hx => by rw [hu1174]; exact hx : ∀ x, x ∈ u1141.1 → x ∈ u1174.1) b830 mt1169
  have et1202 : u1174.2 b830 = .inl (cy 0, 16, .inl (fun _ => zI 0)) := (hpu1174 b830 (fun h => (fun h9 => da_b830 h9.symm) h)).trans et1169
  have mt1203 : b888 ∈ u1174.1 := (fun x hx => by rw [hu1174]; exact hx : ∀ x, x ∈ u1141.1 → x ∈ u1174.1) b888 mt1170
  have et1203 : u1174.2 b888 = .inl (cy 0, 8, .inl (fun _ => zI 0)) := (hpu1174 b888 (fun h => (fun h9 => da_b888 h9.symm) h)).trans et1170
  have mt1204 : b948 ∈ u1174.1 := (fun x hx => by rw [hu1174]; exact hx : ∀ x, x ∈ u1141.1 → x ∈ u1174.1) b948 mt1171
  have et1204 : u1174.2 b948 = .inl (cy 0, 8, .inl (fun _ => zI 0)) := (hpu1174 b948 (fun h => (fun h9 => da_b948 h9.symm) h)).trans et1171
  have mt1205 : b1010 ∈ u1174.1 := (fun x hx => by rw [hu1174]; exact hx : ∀ x, x ∈ u1141.1 → x ∈ u1174.1) b1010 mt1172
  have et1205 : u1174.2 b1010 = .inl (cy 0, 8, .inl (fun _ => zI 0)) := (hpu1174 b1010 (fun h => (fun h9 => da_b1010 h9.symm) h)).trans et1172
  have mt1206 : b1074 ∈ u1174.1 := (fun x hx => by rw [hu1174]; exact hx : ∀ x, x ∈ u1141.1 → x ∈ u1174.1) b1074 mt1173
  have et1206 : u1174.2 b1074 = .inl (cy 0, 8, .inl (fun _ => zI 0)) := (hpu1174 b1074 (fun h => (fun h9 => da_b1074 h9.symm) h)).trans et1173
  have mt1207 : b1140 ∈ u1174.1 := (fun x hx => by rw [hu1174]; exact hx : ∀ x, x ∈ u1141.1 → x ∈ u1174.1) b1140 mb1140
  have et1207 : u1174.2 b1140 = .inl (cy 0, 8, .inl (fun _ => zI 0)) := (hpu1174 b1140 (fun h => (fun h9 => da_b1140 h9.symm) h)).trans hEb1140
  have hLu1174 : u1174.1 = ((((((((((((((((((((((((((((((((u.1 ++ [b1]) ++ [b7]) ++ [b15]) ++ [b35]) ++ [b47]) ++ [b61]) ++ [b77]) ++ [b95]) ++ [b115]) ++ [b137]) ++ [b161]) ++ [b200]) ++ [b228]) ++ [b258]) ++ [b290]) ++ [b324]) ++ [b360]) ++ [b398]) ++ [b438]) ++ [b480]) ++ [b524]) ++ [b570]) ++ [b618]) ++ [b668]) ++ [b720]) ++ [b774]) ++ [b830]) ++ [b888]) ++ [b948]) ++ [b1010]) ++ [b1074]) ++ [b1140]) := by rw [hu1174, hLu1141]
  have hMu1174 : ∀ x, x ∈ u.1 → x ∈ u1174.1 := fun x hx => by rw [hu1174]; exact hMu1141 x hx
  have hOu1174 : ∀ x, x ∈ u.1 → x ≠ a → u1174.2 x = u.2 x := fun x hx ne => (hpu1174 x ne).trans (hOu1141 x hx ne)
  refine lv_aload_n hx hb dX12_init_277 rfl (lv_at hl 0 rfl) ?_
  refine z_sipush hx hb dX12_init_278 (by decide) ?_
  refine p_newI (z := 1616) (M := 1616) hx hb (hts (.arrayClass .int) (List.mem_cons_of_mem _ (List.mem_append_left _ (List.mem_append_left _ (List.mem_of_getElem? (i := 5) rfl))))) hI hG hS (by omega) (by omega) (by omega) (Nat.le_of_ble_eq_true rfl) (Nat.le_of_ble_eq_true rfl) dX12_init_281 (fun b1208 u1209 H hu1209 hEb1208 hpu1209 hnb1208 hG hS => ?_)
  have hEb1208 : u1209.2 b1208 = .inl (cy 0, 1616, .inl (fun _ => zI 0)) := hEb1208
  have fb1208 : b1208 ∉ ((((((((((((((((((((((((((((((((u.1 ++ [b1]) ++ [b7]) ++ [b15]) ++ [b35]) ++ [b47]) ++ [b61]) ++ [b77]) ++ [b95]) ++ [b115]) ++ [b137]) ++ [b161]) ++ [b200]) ++ [b228]) ++ [b258]) ++ [b290]) ++ [b324]) ++ [b360]) ++ [b398]) ++ [b438]) ++ [b480]) ++ [b524]) ++ [b570]) ++ [b618]) ++ [b668]) ++ [b720]) ++ [b774]) ++ [b830]) ++ [b888]) ++ [b948]) ++ [b1010]) ++ [b1074]) ++ [b1140]) := by rw [← hLu1174]; exact hnb1208
  have hLu1209 : u1209.1 = (((((((((((((((((((((((((((((((((u.1 ++ [b1]) ++ [b7]) ++ [b15]) ++ [b35]) ++ [b47]) ++ [b61]) ++ [b77]) ++ [b95]) ++ [b115]) ++ [b137]) ++ [b161]) ++ [b200]) ++ [b228]) ++ [b258]) ++ [b290]) ++ [b324]) ++ [b360]) ++ [b398]) ++ [b438]) ++ [b480]) ++ [b524]) ++ [b570]) ++ [b618]) ++ [b668]) ++ [b720]) ++ [b774]) ++ [b830]) ++ [b888]) ++ [b948]) ++ [b1010]) ++ [b1074]) ++ [b1140]) ++ [b1208]) := by rw [hu1209, hLu1174]
  have hMu1209 : ∀ x, x ∈ u.1 → x ∈ u1209.1 := fun x hx => by rw [hu1209]; exact List.mem_append_left _ (hMu1174 x hx)
  have hOu1209 : ∀ x, x ∈ u.1 → x ≠ a → u1209.2 x = u.2 x := fun x hx ne => (hpu1209 x (hMu1174 x hx)).trans (hOu1174 x hx ne)
  have da_b1208 : a ≠ b1208 := fun h => hnb1208 (h ▸ mt1175)
  have db1_b1208 : b1 ≠ b1208 := fun h => hnb1208 (h ▸ mt1176)
  have db7_b1208 : b7 ≠ b1208 := fun h => hnb1208 (h ▸ mt1177)
  have db15_b1208 : b15 ≠ b1208 := fun h => hnb1208 (h ▸ mt1178)
  have db35_b1208 : b35 ≠ b1208 := fun h => hnb1208 (h ▸ mt1179)
  have db47_b1208 : b47 ≠ b1208 := fun h => hnb1208 (h ▸ mt1180)
  have db61_b1208 : b61 ≠ b1208 := fun h => hnb1208 (h ▸ mt1181)
  have db77_b1208 : b77 ≠ b1208 := fun h => hnb1208 (h ▸ mt1182)
  have db95_b1208 : b95 ≠ b1208 := fun h => hnb1208 (h ▸ mt1183)
  have db115_b1208 : b115 ≠ b1208 := fun h => hnb1208 (h ▸ mt1184)
  have db137_b1208 : b137 ≠ b1208 := fun h => hnb1208 (h ▸ mt1185)
  have db161_b1208 : b161 ≠ b1208 := fun h => hnb1208 (h ▸ mt1186)
  have db200_b1208 : b200 ≠ b1208 := fun h => hnb1208 (h ▸ mt1187)
  have db228_b1208 : b228 ≠ b1208 := fun h => hnb1208 (h ▸ mt1188)
  have db258_b1208 : b258 ≠ b1208 := fun h => hnb1208 (h ▸ mt1189)
  have db290_b1208 : b290 ≠ b1208 := fun h => hnb1208 (h ▸ mt1190)
  have db324_b1208 : b324 ≠ b1208 := fun h => hnb1208 (h ▸ mt1191)
  have db360_b1208 : b360 ≠ b1208 := fun h => hnb1208 (h ▸ mt1192)
  have db398_b1208 : b398 ≠ b1208 := fun h => hnb1208 (h ▸ mt1193)
  have db438_b1208 : b438 ≠ b1208 := fun h => hnb1208 (h ▸ mt1194)
  have db480_b1208 : b480 ≠ b1208 := fun h => hnb1208 (h ▸ mt1195)
  have db524_b1208 : b524 ≠ b1208 := fun h => hnb1208 (h ▸ mt1196)
  have db570_b1208 : b570 ≠ b1208 := fun h => hnb1208 (h ▸ mt1197)
  have db618_b1208 : b618 ≠ b1208 := fun h => hnb1208 (h ▸ mt1198)
  have db668_b1208 : b668 ≠ b1208 := fun h => hnb1208 (h ▸ mt1199)
  have db720_b1208 : b720 ≠ b1208 := fun h => hnb1208 (h ▸ mt1200)
  have db774_b1208 : b774 ≠ b1208 := fun h => hnb1208 (h ▸ mt1201)
  have db830_b1208 : b830 ≠ b1208 := fun h => hnb1208 (h ▸ mt1202)
  have db888_b1208 : b888 ≠ b1208 := fun h => hnb1208 (h ▸ mt1203)
  have db948_b1208 : b948 ≠ b1208 := fun h => hnb1208 (h ▸ mt1204)
  have db1010_b1208 : b1010 ≠ b1208 := fun h => hnb1208 (h ▸ mt1205)
  have db1074_b1208 : b1074 ≠ b1208 := fun h => hnb1208 (h ▸ mt1206)
  have db1140_b1208 : b1140 ≠ b1208 := fun h => hnb1208 (h ▸ mt1207)
  have mt1210 : a ∈ u1209.1 := (fun x hx => by rw [hu1209]; exact List.mem_append_left _ hx : ∀ x, x ∈ u1174.1 → x ∈ u1209.1) a mt1175
  have et1210 : u1209.2 a = .inr (11, (.int (zI 0) :: .ref b1 :: .ref b7 :: .ref b15 :: .int (zI 5) :: .int (zI 20) :: .int (zI 0) :: .ref b35 :: .ref b47 :: .ref b61 :: .ref b77 :: .ref b95 :: .ref b115 :: .ref b137 :: .ref b161 :: .int (zI ((-1))) :: .int (zI 0) :: .ref b200 :: .ref b228 :: .ref b258 :: .ref b290 :: .int (zI 0) :: .ref b324 :: .int (zI 0) :: .ref b360 :: .int (zI 0) :: .ref b398 :: .ref b438 :: .ref b480 :: .ref b524 :: .ref b570 :: .ref b618 :: .ref b668 :: .ref b720 :: .ref b774 :: .ref b830 :: .ref b888 :: .ref b948 :: .ref b1010 :: .ref b1074 :: .ref b1140 :: .null :: [])) := (hpu1209 a mt1175).trans hEu1174
  have mt1211 : b1 ∈ u1209.1 := (fun x hx => by rw [hu1209]; exact List.mem_append_left _ hx : ∀ x, x ∈ u1174.1 → x ∈ u1209.1) b1 mt1176
  have et1211 : u1209.2 b1 = .inl (cy 2, 288, .inl (fun _ => zI 0)) := (hpu1209 b1 mt1176).trans et1176
  have mt1212 : b7 ∈ u1209.1 := (fun x hx => by rw [hu1209]; exact List.mem_append_left _ hx : ∀ x, x ∈ u1174.1 → x ∈ u1209.1) b7 mt1177
  have et1212 : u1209.2 b7 = .inl (cy 0, 36, .inl (fun _ => zI 0)) := (hpu1209 b7 mt1177).trans et1177
  have mt1213 : b15 ∈ u1209.1 := (fun x hx => by rw [hu1209]; exact List.mem_append_left _ hx : ∀ x, x ∈ u1174.1 → x ∈ u1209.1) b15 mt1178
  have et1213 : u1209.2 b15 = .inl (cy 0, 36, .inl (fun _ => zI 0)) := (hpu1209 b15 mt1178).trans et1178
  have mt1214 : b35 ∈ u1209.1 := (fun x hx => by rw [hu1209]; exact List.mem_append_left _ hx : ∀ x, x ∈ u1174.1 → x ∈ u1209.1) b35 mt1179
  have et1214 : u1209.2 b35 = .inl (cy 0, 10, .inl (fun _ => zI 0)) := (hpu1209 b35 mt1179).trans et1179
  have mt1215 : b47 ∈ u1209.1 := (fun x hx => by rw [hu1209]; exact List.mem_append_left _ hx : ∀ x, x ∈ u1174.1 → x ∈ u1209.1) b47 mt1180
  have et1215 : u1209.2 b47 = .inl (cy 0, 10, .inl (fun _ => zI 0)) := (hpu1209 b47 mt1180).trans et1180
  have mt1216 : b61 ∈ u1209.1 := (fun x hx => by rw [hu1209]; exact List.mem_append_left _ hx : ∀ x, x ∈ u1174.1 → x ∈ u1209.1) b61 mt1181
  have et1216 : u1209.2 b61 = .inl (cy 0, 10, .inl (fun _ => zI 0)) := (hpu1209 b61 mt1181).trans et1181
  have mt1217 : b77 ∈ u1209.1 := (fun x hx => by rw [hu1209]; exact List.mem_append_left _ hx : ∀ x, x ∈ u1174.1 → x ∈ u1209.1) b77 mt1182
  have et1217 : u1209.2 b77 = .inl (cy 0, 10, .inl (fun _ => zI 0)) := (hpu1209 b77 mt1182).trans et1182
  have mt1218 : b95 ∈ u1209.1 := (fun x hx => by rw [hu1209]; exact List.mem_append_left _ hx : ∀ x, x ∈ u1174.1 → x ∈ u1209.1) b95 mt1183
  have et1218 : u1209.2 b95 = .inl (cy 0, 202, .inl (fun _ => zI 0)) := (hpu1209 b95 mt1183).trans et1183
  have mt1219 : b115 ∈ u1209.1 := (fun x hx => by rw [hu1209]; exact List.mem_append_left _ hx : ∀ x, x ∈ u1174.1 → x ∈ u1209.1) b115 mt1184
  have et1219 : u1209.2 b115 = .inl (cy 0, 202, .inl (fun _ => zI 0)) := (hpu1209 b115 mt1184).trans et1184
  have mt1220 : b137 ∈ u1209.1 := (fun x hx => by rw [hu1209]; exact List.mem_append_left _ hx : ∀ x, x ∈ u1174.1 → x ∈ u1209.1) b137 mt1185
  have et1220 : u1209.2 b137 = .inl (cy 0, 2, .inl (fun _ => zI 0)) := (hpu1209 b137 mt1185).trans et1185
  have mt1221 : b161 ∈ u1209.1 := (fun x hx => by rw [hu1209]; exact List.mem_append_left _ hx : ∀ x, x ∈ u1174.1 → x ∈ u1209.1) b161 mt1186
  have et1221 : u1209.2 b161 = .inl (cy 0, 2, .inl (fun _ => zI 0)) := (hpu1209 b161 mt1186).trans et1186
  have mt1222 : b200 ∈ u1209.1 := (fun x hx => by rw [hu1209]; exact List.mem_append_left _ hx : ∀ x, x ∈ u1174.1 → x ∈ u1209.1) b200 mt1187
  have et1222 : u1209.2 b200 = .inl (cy 0, 8, .inl (fun _ => zI 0)) := (hpu1209 b200 mt1187).trans et1187
  have mt1223 : b228 ∈ u1209.1 := (fun x hx => by rw [hu1209]; exact List.mem_append_left _ hx : ∀ x, x ∈ u1174.1 → x ∈ u1209.1) b228 mt1188
  have et1223 : u1209.2 b228 = .inl (cy 0, 8, .inl (fun _ => zI 0)) := (hpu1209 b228 mt1188).trans et1188
  have mt1224 : b258 ∈ u1209.1 := (fun x hx => by rw [hu1209]; exact List.mem_append_left _ hx : ∀ x, x ∈ u1174.1 → x ∈ u1209.1) b258 mt1189
  have et1224 : u1209.2 b258 = .inl (cy 0, 8, .inl (fun _ => zI 0)) := (hpu1209 b258 mt1189).trans et1189
  have mt1225 : b290 ∈ u1209.1 := (fun x hx => by rw [hu1209]; exact List.mem_append_left _ hx : ∀ x, x ∈ u1174.1 → x ∈ u1209.1) b290 mt1190
  have et1225 : u1209.2 b290 = .inl (cy 0, 8, .inl (fun _ => zI 0)) := (hpu1209 b290 mt1190).trans et1190
  have mt1226 : b324 ∈ u1209.1 := (fun x hx => by rw [hu1209]; exact List.mem_append_left _ hx : ∀ x, x ∈ u1174.1 → x ∈ u1209.1) b324 mt1191
  have et1226 : u1209.2 b324 = .inl (cy 0, 60, .inl (fun _ => zI 0)) := (hpu1209 b324 mt1191).trans et1191
  have mt1227 : b360 ∈ u1209.1 := (fun x hx => by rw [hu1209]; exact List.mem_append_left _ hx : ∀ x, x ∈ u1174.1 → x ∈ u1209.1) b360 mt1192
  have et1227 : u1209.2 b360 = .inl (cy 0, 6, .inl (fun _ => zI 0)) := (hpu1209 b360 mt1192).trans et1192
  have mt1228 : b398 ∈ u1209.1 := (fun x hx => by rw [hu1209]; exact List.mem_append_left _ hx : ∀ x, x ∈ u1174.1 → x ∈ u1209.1) b398 mt1193
  have et1228 : u1209.2 b398 = .inl (cy 0, 40, .inl (fun _ => zI 0)) := (hpu1209 b398 mt1193).trans et1193
  have mt1229 : b438 ∈ u1209.1 := (fun x hx => by rw [hu1209]; exact List.mem_append_left _ hx : ∀ x, x ∈ u1174.1 → x ∈ u1209.1) b438 mt1194
  have et1229 : u1209.2 b438 = .inl (cy 2, 16, .inl (fun _ => zI 0)) := (hpu1209 b438 mt1194).trans et1194
  have mt1230 : b480 ∈ u1209.1 := (fun x hx => by rw [hu1209]; exact List.mem_append_left _ hx : ∀ x, x ∈ u1174.1 → x ∈ u1209.1) b480 mt1195
  have et1230 : u1209.2 b480 = .inl (cy 0, 10, .inl (fun _ => zI 0)) := (hpu1209 b480 mt1195).trans et1195
  have mt1231 : b524 ∈ u1209.1 := (fun x hx => by rw [hu1209]; exact List.mem_append_left _ hx : ∀ x, x ∈ u1174.1 → x ∈ u1209.1) b524 mt1196
  have et1231 : u1209.2 b524 = .inl (cy 0, 10, .inl (fun _ => zI 0)) := (hpu1209 b524 mt1196).trans et1196
  have mt1232 : b570 ∈ u1209.1 := (fun x hx => by rw [hu1209]; exact List.mem_append_left _ hx : ∀ x, x ∈ u1174.1 → x ∈ u1209.1) b570 mt1197
  have et1232 : u1209.2 b570 = .inl (cy 0, 10, .inl (fun _ => zI 0)) := (hpu1209 b570 mt1197).trans et1197
  have mt1233 : b618 ∈ u1209.1 := (fun x hx => by rw [hu1209]; exact List.mem_append_left _ hx : ∀ x, x ∈ u1174.1 → x ∈ u1209.1) b618 mt1198
  have et1233 : u1209.2 b618 = .inl (cy 0, 16, .inl (fun _ => zI 0)) := (hpu1209 b618 mt1198).trans et1198
  have mt1234 : b668 ∈ u1209.1 := (fun x hx => by rw [hu1209]; exact List.mem_append_left _ hx : ∀ x, x ∈ u1174.1 → x ∈ u1209.1) b668 mt1199
  have et1234 : u1209.2 b668 = .inl (cy 2, 10, .inl (fun _ => zI 0)) := (hpu1209 b668 mt1199).trans et1199
  have mt1235 : b720 ∈ u1209.1 := (fun x hx => by rw [hu1209]; exact List.mem_append_left _ hx : ∀ x, x ∈ u1174.1 → x ∈ u1209.1) b720 mt1200
  have et1235 : u1209.2 b720 = .inl (cy 2, 16, .inl (fun _ => zI 0)) := (hpu1209 b720 mt1200).trans et1200
  have mt1236 : b774 ∈ u1209.1 := (fun x hx => by rw [hu1209]; exact List.mem_append_left _ hx : ∀ x, x ∈ u1174.1 → x ∈ u1209.1) b774 mt1201
  have et1236 : u1209.2 b774 = .inl (cy 0, 16, .inl (fun _ => zI 0)) := (hpu1209 b774 mt1201).trans et1201
  have mt1237 : b830 ∈ u1209.1 := (fun x hx => by rw [hu1209]; exact List.mem_append_left _ hx : ∀ x, x ∈ u1174.1 → x ∈ u1209.1) b830 mt1202
  have et1237 : u1209.2 b830 = .inl (cy 0, 16, .inl (fun _ => zI 0)) := (hpu1209 b830 mt1202).trans et1202
  have mt1238 : b888 ∈ u1209.1 := (fun x hx => by rw [hu1209]; exact List.mem_append_left _ hx : ∀ x, x ∈ u1174.1 → x ∈ u1209.1) b888 mt1203
  have et1238 : u1209.2 b888 = .inl (cy 0, 8, .inl (fun _ => zI 0)) := (hpu1209 b888 mt1203).trans et1203
  have mt1239 : b948 ∈ u1209.1 := (fun x hx => by rw [hu1209]; exact List.mem_append_left _ hx : ∀ x, x ∈ u1174.1 → x ∈ u1209.1) b948 mt1204
  have et1239 : u1209.2 b948 = .inl (cy 0, 8, .inl (fun _ => zI 0)) := (hpu1209 b948 mt1204).trans et1204
  have mt1240 : b1010 ∈ u1209.1 := (fun x hx => by rw [hu1209]; exact List.mem_append_left _ hx : ∀ x, x ∈ u1174.1 → x ∈ u1209.1) b1010 mt1205
  have et1240 : u1209.2 b1010 = .inl (cy 0, 8, .inl (fun _ => zI 0)) := (hpu1209 b1010 mt1205).trans et1205
  have mt1241 : b1074 ∈ u1209.1 := (fun x hx => by rw [hu1209]; exact List.mem_append_left _ hx : ∀ x, x ∈ u1174.1 → x ∈ u1209.1) b1074 mt1206
  have et1241 : u1209.2 b1074 = .inl (cy 0, 8, .inl (fun _ => zI 0)) := (hpu1209 b1074 mt1206).trans et1206
  have mt1242 : b1140 ∈ u1209.1 := (fun x hx => by rw [hu1209]; exact List.mem_append_left _ hx : ∀ x, x ∈ u1174.1 → x ∈ u1209.1) b1140 mt1207
  have et1242 : u1209.2 b1140 = .inl (cy 0, 8, .inl (fun _ => zI 0)) := (hpu1209 b1140 mt1207).trans et1207
  have mb1208 : b1208 ∈ u1209.1 := by rw [hu1209]; exact List.mem_append_right _ List.mem_cons_self
  obtain ⟨k9, hk9⟩ := p_get D u1209 mt1210
  refine va_putF (C := RX12) (T := TX12) (N := 42) (ci := 11) (ty := tyX12 41) hx hb hts (fun _ h => (List.mem_cons_of_mem _ (List.mem_append_right _ h))) tyX12 tyX12_ok nmX12 hown hI.1 hG.1 hG.2 hS k9 (hk9.trans (by rw [et1210])) rfl 41 (by decide) (hts (.fieldLink RX12 117 "StraitSwimModel" "rows" "[I") (List.mem_cons_of_mem _ (List.mem_append_left _ (List.mem_append_right _ (List.mem_of_getElem? (i := 16) rfl))))) (fun _ h9 => h9) rfl hin2 rfl (tyX12_ok 41 (by decide)) rfl rfl (Nat.le_of_ble_eq_true rfl) dX12_init_283 (fun H locs hP hD hS => ?_)
  obtain ⟨u1243, hu1243, hEu1243, hpu1243, hG⟩ := p_set (e := .inr (11, (.int (zI 0) :: .ref b1 :: .ref b7 :: .ref b15 :: .int (zI 5) :: .int (zI 20) :: .int (zI 0) :: .ref b35 :: .ref b47 :: .ref b61 :: .ref b77 :: .ref b95 :: .ref b115 :: .ref b137 :: .ref b161 :: .int (zI ((-1))) :: .int (zI 0) :: .ref b200 :: .ref b228 :: .ref b258 :: .ref b290 :: .int (zI 0) :: .ref b324 :: .int (zI 0) :: .ref b360 :: .int (zI 0) :: .ref b398 :: .ref b438 :: .ref b480 :: .ref b524 :: .ref b570 :: .ref b618 :: .ref b668 :: .ref b720 :: .ref b774 :: .ref b830 :: .ref b888 :: .ref b948 :: .ref b1010 :: .ref b1074 :: .ref b1140 :: .ref b1208 :: []))) hG mt1210 hk9 hP hD
  have mt1244 : a ∈ u1243.1 := (fun x hx => by rw [hu1243]; exact hx : ∀ x, x ∈ u1209.1 → x ∈ u1243.1) a mt1210
  have mt1245 : b1 ∈ u1243.1 := (fun x hx => by rw [hu1243]; exact hx : ∀ x, x ∈ u1209.1 → x ∈ u1243.1) b1 mt1211
  have et1245 : u1243.2 b1 = .inl (cy 2, 288, .inl (fun _ => zI 0)) := (hpu1243 b1 (fun h => (fun h9 => da_b1 h9.symm) h)).trans et1211
  have mt1246 : b7 ∈ u1243.1 := (fun x hx => by rw [hu1243]; exact hx : ∀ x, x ∈ u1209.1 → x ∈ u1243.1) b7 mt1212
  have et1246 : u1243.2 b7 = .inl (cy 0, 36, .inl (fun _ => zI 0)) := (hpu1243 b7 (fun h => (fun h9 => da_b7 h9.symm) h)).trans et1212
  have mt1247 : b15 ∈ u1243.1 := (fun x hx => by rw [hu1243]; exact hx : ∀ x, x ∈ u1209.1 → x ∈ u1243.1) b15 mt1213
  have et1247 : u1243.2 b15 = .inl (cy 0, 36, .inl (fun _ => zI 0)) := (hpu1243 b15 (fun h => (fun h9 => da_b15 h9.symm) h)).trans et1213
  have mt1248 : b35 ∈ u1243.1 := (fun x hx => by rw [hu1243]; exact hx : ∀ x, x ∈ u1209.1 → x ∈ u1243.1) b35 mt1214
  have et1248 : u1243.2 b35 = .inl (cy 0, 10, .inl (fun _ => zI 0)) := (hpu1243 b35 (fun h => (fun h9 => da_b35 h9.symm) h)).trans et1214
  have mt1249 : b47 ∈ u1243.1 := (fun x hx => by rw [hu1243]; exact hx : ∀ x, x ∈ u1209.1 → x ∈ u1243.1) b47 mt1215
  have et1249 : u1243.2 b47 = .inl (cy 0, 10, .inl (fun _ => zI 0)) := (hpu1243 b47 (fun h => (fun h9 => da_b47 h9.symm) h)).trans et1215
  have mt1250 : b61 ∈ u1243.1 := (fun x hx => by rw [hu1243]; exact hx : ∀ x, x ∈ u1209.1 → x ∈ u1243.1) b61 mt1216
  have et1250 : u1243.2 b61 = .inl (cy 0, 10, .inl (fun _ => zI 0)) := (hpu1243 b61 (fun h => (fun h9 => da_b61 h9.symm) h)).trans et1216
  have mt1251 : b77 ∈ u1243.1 := (fun x hx => by rw [hu1243]; exact hx : ∀ x, x ∈ u1209.1 → x ∈ u1243.1) b77 mt1217
  have et1251 : u1243.2 b77 = .inl (cy 0, 10, .inl (fun _ => zI 0)) := (hpu1243 b77 (fun h => (fun h9 => da_b77 h9.symm) h)).trans et1217
  have mt1252 : b95 ∈ u1243.1 := (fun x hx => by rw [hu1243]; exact hx : ∀ x, x ∈ u1209.1 → x ∈ u1243.1) b95 mt1218
  have et1252 : u1243.2 b95 = .inl (cy 0, 202, .inl (fun _ => zI 0)) := (hpu1243 b95 (fun h => (fun h9 => da_b95 h9.symm) h)).trans et1218
  have mt1253 : b115 ∈ u1243.1 := (fun x hx => by rw [hu1243]; exact hx : ∀ x, x ∈ u1209.1 → x ∈ u1243.1) b115 mt1219
  have et1253 : u1243.2 b115 = .inl (cy 0, 202, .inl (fun _ => zI 0)) := (hpu1243 b115 (fun h => (fun h9 => da_b115 h9.symm) h)).trans et1219
  have mt1254 : b137 ∈ u1243.1 := (fun x hx => by rw [hu1243]; exact hx : ∀ x, x ∈ u1209.1 → x ∈ u1243.1) b137 mt1220
  have et1254 : u1243.2 b137 = .inl (cy 0, 2, .inl (fun _ => zI 0)) := (hpu1243 b137 (fun h => (fun h9 => da_b137 h9.symm) h)).trans et1220
  have mt1255 : b161 ∈ u1243.1 := (fun x hx => by rw [hu1243]; exact hx : ∀ x, x ∈ u1209.1 → x ∈ u1243.1) b161 mt1221
  have et1255 : u1243.2 b161 = .inl (cy 0, 2, .inl (fun _ => zI 0)) := (hpu1243 b161 (fun h => (fun h9 => da_b161 h9.symm) h)).trans et1221
  have mt1256 : b200 ∈ u1243.1 := (fun x hx => by rw [hu1243]; exact hx : ∀ x, x ∈ u1209.1 → x ∈ u1243.1) b200 mt1222
  have et1256 : u1243.2 b200 = .inl (cy 0, 8, .inl (fun _ => zI 0)) := (hpu1243 b200 (fun h => (fun h9 => da_b200 h9.symm) h)).trans et1222
  have mt1257 : b228 ∈ u1243.1 := (fun x hx => by rw [hu1243]; exact hx : ∀ x, x ∈ u1209.1 → x ∈ u1243.1) b228 mt1223
  have et1257 : u1243.2 b228 = .inl (cy 0, 8, .inl (fun _ => zI 0)) := (hpu1243 b228 (fun h => (fun h9 => da_b228 h9.symm) h)).trans et1223
  have mt1258 : b258 ∈ u1243.1 := (fun x hx => by rw [hu1243]; exact hx : ∀ x, x ∈ u1209.1 → x ∈ u1243.1) b258 mt1224
  have et1258 : u1243.2 b258 = .inl (cy 0, 8, .inl (fun _ => zI 0)) := (hpu1243 b258 (fun h => (fun h9 => da_b258 h9.symm) h)).trans et1224
  have mt1259 : b290 ∈ u1243.1 := (fun x hx => by rw [hu1243]; exact hx : ∀ x, x ∈ u1209.1 → x ∈ u1243.1) b290 mt1225
  have et1259 : u1243.2 b290 = .inl (cy 0, 8, .inl (fun _ => zI 0)) := (hpu1243 b290 (fun h => (fun h9 => da_b290 h9.symm) h)).trans et1225
  have mt1260 : b324 ∈ u1243.1 := (fun x hx => by rw [hu1243]; exact hx : ∀ x, x ∈ u1209.1 → x ∈ u1243.1) b324 mt1226
  have et1260 : u1243.2 b324 = .inl (cy 0, 60, .inl (fun _ => zI 0)) := (hpu1243 b324 (fun h => (fun h9 => da_b324 h9.symm) h)).trans et1226
  have mt1261 : b360 ∈ u1243.1 := (fun x hx => by rw [hu1243]; exact hx : ∀ x, x ∈ u1209.1 → x ∈ u1243.1) b360 mt1227
  have et1261 : u1243.2 b360 = .inl (cy 0, 6, .inl (fun _ => zI 0)) := (hpu1243 b360 (fun h => (fun h9 => da_b360 h9.symm) h)).trans et1227
  have mt1262 : b398 ∈ u1243.1 := (fun x hx => by rw [hu1243]; exact hx : ∀ x, x ∈ u1209.1 → x ∈ u1243.1) b398 mt1228
  have et1262 : u1243.2 b398 = .inl (cy 0, 40, .inl (fun _ => zI 0)) := (hpu1243 b398 (fun h => (fun h9 => da_b398 h9.symm) h)).trans et1228
  have mt1263 : b438 ∈ u1243.1 := (fun x hx => by rw [hu1243]; exact hx : ∀ x, x ∈ u1209.1 → x ∈ u1243.1) b438 mt1229
  have et1263 : u1243.2 b438 = .inl (cy 2, 16, .inl (fun _ => zI 0)) := (hpu1243 b438 (fun h => (fun h9 => da_b438 h9.symm) h)).trans et1229
  have mt1264 : b480 ∈ u1243.1 := (fun x hx => by rw [hu1243]; exact hx : ∀ x, x ∈ u1209.1 → x ∈ u1243.1) b480 mt1230
  have et1264 : u1243.2 b480 = .inl (cy 0, 10, .inl (fun _ => zI 0)) := (hpu1243 b480 (fun h => (fun h9 => da_b480 h9.symm) h)).trans et1230
  have mt1265 : b524 ∈ u1243.1 := (fun x hx => by rw [hu1243]; exact hx : ∀ x, x ∈ u1209.1 → x ∈ u1243.1) b524 mt1231
  have et1265 : u1243.2 b524 = .inl (cy 0, 10, .inl (fun _ => zI 0)) := (hpu1243 b524 (fun h => (fun h9 => da_b524 h9.symm) h)).trans et1231
  have mt1266 : b570 ∈ u1243.1 := (fun x hx => by rw [hu1243]; exact hx : ∀ x, x ∈ u1209.1 → x ∈ u1243.1) b570 mt1232
  have et1266 : u1243.2 b570 = .inl (cy 0, 10, .inl (fun _ => zI 0)) := (hpu1243 b570 (fun h => (fun h9 => da_b570 h9.symm) h)).trans et1232
  have mt1267 : b618 ∈ u1243.1 := (fun x hx => by rw [hu1243]; exact hx : ∀ x, x ∈ u1209.1 → x ∈ u1243.1) b618 mt1233
  have et1267 : u1243.2 b618 = .inl (cy 0, 16, .inl (fun _ => zI 0)) := (hpu1243 b618 (fun h => (fun h9 => da_b618 h9.symm) h)).trans et1233
  have mt1268 : b668 ∈ u1243.1 := (fun x hx => by rw [hu1243]; exact hx : ∀ x, x ∈ u1209.1 → x ∈ u1243.1) b668 mt1234
  have et1268 : u1243.2 b668 = .inl (cy 2, 10, .inl (fun _ => zI 0)) := (hpu1243 b668 (fun h => (fun h9 => da_b668 h9.symm) h)).trans et1234
  have mt1269 : b720 ∈ u1243.1 := (fun x hx => by rw [hu1243]; exact hx : ∀ x, x ∈ u1209.1 → x ∈ u1243.1) b720 mt1235
  have et1269 : u1243.2 b720 = .inl (cy 2, 16, .inl (fun _ => zI 0)) := (hpu1243 b720 (fun h => (fun h9 => da_b720 h9.symm) h)).trans et1235
  have mt1270 : b774 ∈ u1243.1 := (fun x hx => by rw [hu1243]; exact hx : ∀ x, x ∈ u1209.1 → x ∈ u1243.1) b774 mt1236
  have et1270 : u1243.2 b774 = .inl (cy 0, 16, .inl (fun _ => zI 0)) := (hpu1243 b774 (fun h => (fun h9 => da_b774 h9.symm) h)).trans et1236
  have mt1271 : b830 ∈ u1243.1 := (fun x hx => by rw [hu1243]; exact hx : ∀ x, x ∈ u1209.1 → x ∈ u1243.1) b830 mt1237
  have et1271 : u1243.2 b830 = .inl (cy 0, 16, .inl (fun _ => zI 0)) := (hpu1243 b830 (fun h => (fun h9 => da_b830 h9.symm) h)).trans et1237
  have mt1272 : b888 ∈ u1243.1 := (fun x hx => by rw [hu1243]; exact hx : ∀ x, x ∈ u1209.1 → x ∈ u1243.1) b888 mt1238
  have et1272 : u1243.2 b888 = .inl (cy 0, 8, .inl (fun _ => zI 0)) := (hpu1243 b888 (fun h => (fun h9 => da_b888 h9.symm) h)).trans et1238
  have mt1273 : b948 ∈ u1243.1 := (fun x hx => by rw [hu1243]; exact hx : ∀ x, x ∈ u1209.1 → x ∈ u1243.1) b948 mt1239
  have et1273 : u1243.2 b948 = .inl (cy 0, 8, .inl (fun _ => zI 0)) := (hpu1243 b948 (fun h => (fun h9 => da_b948 h9.symm) h)).trans et1239
  have mt1274 : b1010 ∈ u1243.1 := (fun x hx => by rw [hu1243]; exact hx : ∀ x, x ∈ u1209.1 → x ∈ u1243.1) b1010 mt1240
  have et1274 : u1243.2 b1010 = .inl (cy 0, 8, .inl (fun _ => zI 0)) := (hpu1243 b1010 (fun h => (fun h9 => da_b1010 h9.symm) h)).trans et1240
  have mt1275 : b1074 ∈ u1243.1 := (fun x hx => by rw [hu1243]; exact hx : ∀ x, x ∈ u1209.1 → x ∈ u1243.1) b1074 mt1241
  have et1275 : u1243.2 b1074 = .inl (cy 0, 8, .inl (fun _ => zI 0)) := (hpu1243 b1074 (fun h => (fun h9 => da_b1074 h9.symm) h)).trans et1241
  have mt1276 : b1140 ∈ u1243.1 := (fun x hx => by rw [hu1243]; exact hx : ∀ x, x ∈ u1209.1 → x ∈ u1243.1) b1140 mt1242
  have et1276 : u1243.2 b1140 = .inl (cy 0, 8, .inl (fun _ => zI 0)) := (hpu1243 b1140 (fun h => (fun h9 => da_b1140 h9.symm) h)).trans et1242
  have mt1277 : b1208 ∈ u1243.1 := (fun x hx => by rw [hu1243]; exact hx : ∀ x, x ∈ u1209.1 → x ∈ u1243.1) b1208 mb1208
  have et1277 : u1243.2 b1208 = .inl (cy 0, 1616, .inl (fun _ => zI 0)) := (hpu1243 b1208 (fun h => (fun h9 => da_b1208 h9.symm) h)).trans hEb1208
  have hLu1243 : u1243.1 = (((((((((((((((((((((((((((((((((u.1 ++ [b1]) ++ [b7]) ++ [b15]) ++ [b35]) ++ [b47]) ++ [b61]) ++ [b77]) ++ [b95]) ++ [b115]) ++ [b137]) ++ [b161]) ++ [b200]) ++ [b228]) ++ [b258]) ++ [b290]) ++ [b324]) ++ [b360]) ++ [b398]) ++ [b438]) ++ [b480]) ++ [b524]) ++ [b570]) ++ [b618]) ++ [b668]) ++ [b720]) ++ [b774]) ++ [b830]) ++ [b888]) ++ [b948]) ++ [b1010]) ++ [b1074]) ++ [b1140]) ++ [b1208]) := by rw [hu1243, hLu1209]
  have hMu1243 : ∀ x, x ∈ u.1 → x ∈ u1243.1 := fun x hx => by rw [hu1243]; exact hMu1209 x hx
  have hOu1243 : ∀ x, x ∈ u.1 → x ≠ a → u1243.2 x = u.2 x := fun x hx ne => (hpu1243 x ne).trans (hOu1209 x hx ne)
  refine W.widen (k := 33) (n := 2722) (Nat.le_of_ble_eq_true rfl) (Nat.le_of_ble_eq_true rfl) ?_
  exact W.vret hx hb hr (fun t9 ht9_ hW => ⟨⟨u1243, rfl, ⟨b1, b7, b15, b35, b47, b61, b77, b95, b115, b137, b161, b200, b228, b258, b290, b324, b360, b398, b438, b480, b524, b570, b618, b668, b720, b774, b830, b888, b948, b1010, b1074, b1140, b1208, hLu1243, ⟨fb1, fb7, fb15, fb35, fb47, fb61, fb77, fb95, fb115, fb137, fb161, fb200, fb228, fb258, fb290, fb324, fb360, fb398, fb438, fb480, fb524, fb570, fb618, fb668, fb720, fb774, fb830, fb888, fb948, fb1010, fb1074, fb1140, fb1208⟩, ⟨hEu1243, et1245, et1246, et1247, et1248, et1249, et1250, et1251, et1252, et1253, et1254, et1255, et1256, et1257, et1258, et1259, et1260, et1261, et1262, et1263, et1264, et1265, et1266, et1267, et1268, et1269, et1270, et1271, et1272, et1273, et1274, et1275, et1276, et1277⟩, hOu1243⟩, pB.mk' hG hI hS ht9_ hW⟩, hS.F ht9_⟩) hS.2.2 dX12_init_286
