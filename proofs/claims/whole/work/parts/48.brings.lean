set_option maxHeartbeats 4000000 in
set_option maxRecDepth 100000 in
theorem kX12_brings (l : Launch) (D : va_G) (cy : Nat → ClassId) (ad : Nat → Nat) (jf : Nat → Int64) (A : Nat → Prop) (u : gS) (p1 p2 p3 : Int) (j_1 : 0 ≤ p1 ∧ p1 ≤ 9) (j_p2 : -2147483648 ≤ p2 ∧ p2 < 2147483648) (j_3 : 0 ≤ p3 ∧ p3 ≤ 16) (i49 : ∀ j, j < 16 → u.2.1 49 j = 0 ∨ u.2.1 49 j = 1) (i50 : ∀ j, j < 10 → 0 ≤ u.2.1 50 j ∧ u.2.1 50 j ≤ 3) (i51 : ∀ j, j < 10 → 0 ≤ u.2.1 51 j ∧ u.2.1 51 j ≤ 4) (hgr : MGr (mCan u) p3.toNat (16 - p3.toNat) (mGone u p2) p1.toNat (u.2.1 53)) (hg1 : mGone u p2 p1.toNat = false) (hrow : ∀ e, e < 16 → -1 ≤ u.2.1 53 e ∧ u.2.1 53 e ≤ 9) : Met l yX12_brings wsX12_brings ({ frames := 1, cells := 0, slots := 0, locals := 23 }) (va_Pc [.ref (ad 8), .int (zI p1), .int (zI p2), .int (zI p3)] (gB D cy ad jf A u)) (va_Qi (fun (r : Int32) (v : gS) => ∃ b : Int, r = zI b ∧ ∃ H A B C, v = mNp u H A B C ∧ (∀ e, e < 16 → -1 ≤ H e ∧ H e ≤ 9) ∧ ((b = 1 ∧ MFd (mCan u) p3.toNat (16 - p3.toNat) (mGone u p2) p1.toNat (fun _ => False) (u.2.1 53) H) ∨ (b = 0 ∧ H = (u.2.1 53) ∧ ∃ Y, MCl (mCan u) p3.toNat (16 - p3.toNat) (u.2.1 53) Y ∧ ∀ f, mtIn p3.toNat (16 - p3.toNat) f → mCan u p1.toNat f = true → Y f))) (gB D cy ad jf A) A) 0 0 A := by
  refine Met.ofW (cc := cX12_brings) (maxL := 12) (ret := (some .boolean)) (by decide) rfl ?_
  intro p e s m args below meth c s₁ B hml hv
  obtain ⟨rfl, hG, hC⟩ := hv
  have hx := B.exec
  have hb := B.bytes
  have hr := B.returns
  have hts := atoms_spec (ws := wsX12_brings) B.pre
  have hown : s.vm.findClass RX12 = some m.cls := findClass_of_methodNamed B.named
  have hlocks := B.notSynchronized
  have hS : va_S A s.heap s.heap [] := va_S.rf
  have hl := lv_entry ([.ref (ad 8), .int (zI p1), .int (zI p2), .int (zI p3)]) (n := 12) (Nat.le_of_ble_eq_true rfl)
  rw [lg_entry_eq]
  generalize (lg_sl ([.ref (ad 8), .int (zI p1), .int (zI p2), .int (zI p3)]) ++ List.replicate (12 - (lg_sl ([.ref (ad 8), .int (zI p1), .int (zI p2), .int (zI p3)])).length) Slot.unset).toArray = ls at hl ⊢
  have hl : lv_has ls 12 [(0, .ref (ad 8)), (1, .int (zI p1)), (2, .int (zI p2)), (3, .int (zI p3))] := hl
  refine z_iconst hx hb dX12_brings_0 ?_
  refine lv_istore (lv' := [(4, .int (zI 0)), (0, .ref (ad 8)), (1, .int (zI p1)), (2, .int (zI p2)), (3, .int (zI p3))]) hx hb dX12_brings_1 hl (by decide) rfl (fun ls hl => ?_)
  have loop3 : ∀ (n : Nat) (t : Int) (w : gS) (H : Heap) (locs : List Loc) (ls : Array Slot), (16 - t).toNat < n → (0 ≤ t ∧ t ≤ 16) → (∃ f : Nat → Int, w = sF u 55 f ∧ ∀ j : Nat, (j : Int) < t → f j = 0) → gH D cy ad jf A w H → va_S A s.heap H locs → lv_has ls 12 [(4, .int (zI t)), (0, .ref (ad 8)), (1, .int (zI p1)), (2, .int (zI p2)), (3, .int (zI p3))] → W p l e (headSpec wsX12_brings ({ frames := 1, cells := 0, slots := 0, locals := 23 })).room s m ([.ref (ad 8), .int (zI p1), .int (zI p2), .int (zI p3)]).toArray below meth c H locs 0 0 (MQ below (va_Qi (fun (r : Int32) (v : gS) => ∃ b : Int, r = zI b ∧ ∃ H A B C, v = mNp u H A B C ∧ (∀ e, e < 16 → -1 ≤ H e ∧ H e ≤ 9) ∧ ((b = 1 ∧ MFd (mCan u) p3.toNat (16 - p3.toNat) (mGone u p2) p1.toNat (fun _ => False) (u.2.1 53) H) ∨ (b = 0 ∧ H = (u.2.1 53) ∧ ∃ Y, MCl (mCan u) p3.toNat (16 - p3.toNat) (u.2.1 53) Y ∧ ∀ f, mtIn p3.toNat (16 - p3.toNat) f → mCan u p1.toNat f = true → Y f))) (gB D cy ad jf A) A) ([.ref (ad 8), .int (zI p1), .int (zI p2), .int (zI p3)]).toArray s 0 0 A) (F0 m 3 ls []) := by
    intro n
    induction n with
    | zero => intro t w H locs ls hm3; exact absurd hm3 (Nat.not_lt_zero _)
    | succ n ih3 =>
      intro t w H locs ls hm3 ht hw hG hS hl
      obtain ⟨f, hw0, hf⟩ := hw
      refine lv_iload hx hb dX12_brings_3 (lv_at hl 0 rfl) ?_
      refine z_bipush hx hb dX12_brings_5 (by decide) ?_
      refine z_icmp_ge (tgt := 24) hx hb dX12_brings_7 (by decide) (by omega) (by omega) (by omega) (by omega) (fun c_1 => ?_) (fun c_1 => ?_)
      · refine z_iconst hx hb dX12_brings_24 ?_
        refine lv_istore (lv' := [(4, .int (zI 0)), (0, .ref (ad 8)), (1, .int (zI p1)), (2, .int (zI p2)), (3, .int (zI p3))]) hx hb dX12_brings_25 hl (by decide) rfl (fun ls hl => ?_)
        refine z_iconst hx hb dX12_brings_27 ?_
        refine lv_istore (lv' := [(5, .int (zI 0)), (4, .int (zI 0)), (0, .ref (ad 8)), (1, .int (zI p1)), (2, .int (zI p2)), (3, .int (zI p3))]) hx hb dX12_brings_28 hl (by decide) rfl (fun ls hl => ?_)
        refine lv_iload_n hx hb dX12_brings_30 rfl (lv_at hl 3 rfl) ?_
        refine lv_istore (lv' := [(6, .int (zI p1)), (5, .int (zI 0)), (4, .int (zI 0)), (0, .ref (ad 8)), (1, .int (zI p1)), (2, .int (zI p2)), (3, .int (zI p3))]) hx hb dX12_brings_31 hl (by decide) rfl (fun ls hl => ?_)
        have loop33 : ∀ (n : Nat) (q lk wh : Int) (x : gS) (H : Heap) (locs : List Loc) (ls : Array Slot), (17 - lk).toNat < n → (0 ≤ lk ∧ lk ≤ q ∧ q ≤ 16) → (∃ A9 B9 C9, x = mNp u (u.2.1 53) A9 B9 C9 ∧ (∀ e, e < 16 → A9 e = 0 ∨ A9 e = 1) ∧ BfQ (mCan u) p3.toNat (16 - p3.toNat) (mGone u p2) p1 (u.2.1 53) A9 B9 C9 q.toNat ∧ BfO (mCan u) p3.toNat (16 - p3.toNat) p1 (u.2.1 53) A9 C9 lk.toNat wh ∧ (0 ≤ wh ∧ wh ≤ 9) ∧ mGone u p2 wh.toNat = false) → gH D cy ad jf A x H → va_S A s.heap H locs → lv_has ls 12 [(6, .int (zI wh)), (5, .int (zI lk)), (4, .int (zI q)), (0, .ref (ad 8)), (1, .int (zI p1)), (2, .int (zI p2)), (3, .int (zI p3))] → W p l e (headSpec wsX12_brings ({ frames := 1, cells := 0, slots := 0, locals := 23 })).room s m ([.ref (ad 8), .int (zI p1), .int (zI p2), .int (zI p3)]).toArray below meth c H locs 0 0 (MQ below (va_Qi (fun (r : Int32) (v : gS) => ∃ b : Int, r = zI b ∧ ∃ H A B C, v = mNp u H A B C ∧ (∀ e, e < 16 → -1 ≤ H e ∧ H e ≤ 9) ∧ ((b = 1 ∧ MFd (mCan u) p3.toNat (16 - p3.toNat) (mGone u p2) p1.toNat (fun _ => False) (u.2.1 53) H) ∨ (b = 0 ∧ H = (u.2.1 53) ∧ ∃ Y, MCl (mCan u) p3.toNat (16 - p3.toNat) (u.2.1 53) Y ∧ ∀ f, mtIn p3.toNat (16 - p3.toNat) f → mCan u p1.toNat f = true → Y f))) (gB D cy ad jf A) A) ([.ref (ad 8), .int (zI p1), .int (zI p2), .int (zI p3)]).toArray s 0 0 A) (F0 m 33 ls []) := by
          intro n
          induction n with
          | zero => intro q lk wh x H locs ls hm33; exact absurd hm33 (Nat.not_lt_zero _)
          | succ n ih33 =>
            intro q lk wh x H locs ls hm33 ho1 hx0 hG hS hl
            obtain ⟨A9, B9, C9, hy0, h01, hbq, hbo, hwh, hgw⟩ := hx0
            refine lv_iload_n hx hb dX12_brings_33 rfl (lv_at hl 6 rfl) ?_
            refine lv_istore (lv' := [(7, .int (zI p3)), (6, .int (zI wh)), (5, .int (zI lk)), (4, .int (zI q)), (0, .ref (ad 8)), (1, .int (zI p1)), (2, .int (zI p2)), (3, .int (zI p3))]) hx hb dX12_brings_34 hl (by decide) rfl (fun ls hl => ?_)
            have loop36 : ∀ (n : Nat) (q2 t : Int) (y : gS) (H : Heap) (locs : List Loc) (ls : Array Slot), (16 - t).toNat < n → (p3 ≤ t ∧ t ≤ 16) → (lk ≤ q2 ∧ q2 ≤ 16) → (∃ A9 B9 C9, y = mNp u (u.2.1 53) A9 B9 C9 ∧ (∀ e, e < 16 → A9 e = 0 ∨ A9 e = 1) ∧ BfQ (mCan u) p3.toNat (16 - p3.toNat) (mGone u p2) p1 (u.2.1 53) A9 B9 C9 q2.toNat ∧ BfO (mCan u) p3.toNat (16 - p3.toNat) p1 (u.2.1 53) A9 C9 lk.toNat wh ∧ ∀ f, mtIn p3.toNat (16 - p3.toNat) f → f < t.toNat → mCan u wh.toNat f = true → A9 f = 1) → gH D cy ad jf A y H → va_S A s.heap H locs → lv_has ls 12 [(7, .int (zI t)), (6, .int (zI wh)), (5, .int (zI lk)), (4, .int (zI q2)), (0, .ref (ad 8)), (1, .int (zI p1)), (2, .int (zI p2)), (3, .int (zI p3))] → W p l e (headSpec wsX12_brings ({ frames := 1, cells := 0, slots := 0, locals := 23 })).room s m ([.ref (ad 8), .int (zI p1), .int (zI p2), .int (zI p3)]).toArray below meth c H locs 0 0 (MQ below (va_Qi (fun (r : Int32) (v : gS) => ∃ b : Int, r = zI b ∧ ∃ H A B C, v = mNp u H A B C ∧ (∀ e, e < 16 → -1 ≤ H e ∧ H e ≤ 9) ∧ ((b = 1 ∧ MFd (mCan u) p3.toNat (16 - p3.toNat) (mGone u p2) p1.toNat (fun _ => False) (u.2.1 53) H) ∨ (b = 0 ∧ H = (u.2.1 53) ∧ ∃ Y, MCl (mCan u) p3.toNat (16 - p3.toNat) (u.2.1 53) Y ∧ ∀ f, mtIn p3.toNat (16 - p3.toNat) f → mCan u p1.toNat f = true → Y f))) (gB D cy ad jf A) A) ([.ref (ad 8), .int (zI p1), .int (zI p2), .int (zI p3)]).toArray s 0 0 A) (F0 m 36 ls []) := by
              intro n
              induction n with
              | zero => intro q2 t y H locs ls hm36; exact absurd hm36 (Nat.not_lt_zero _)
              | succ n ih36 =>
                intro q2 t y H locs ls hm36 hi hq2 hyy hG hS hl
                clear hbq hbo h01 hy0
                obtain ⟨A9, B9, C9, hy0, h01, hbq, hbo, hpt⟩ := hyy
                have e55 : y.2.1 55 t.toNat = A9 t.toNat := by rw [hy0]; rfl
                have e51 : y.2.1 51 wh.toNat = u.2.1 51 wh.toNat := by rw [hy0]; rfl
                have e50 : y.2.1 50 wh.toNat = u.2.1 50 wh.toNat := by rw [hy0]; rfl
                have e49 : y.2.1 49 t.toNat = u.2.1 49 t.toNat := by rw [hy0]; rfl
                have e52 : bAnd (bShr (y.2.1 52 wh.toNat) t) 1 = bAnd (bShr (u.2.1 52 wh.toNat) t) 1 := by rw [hy0]; rfl
                have h55 : ∀ j, j < 16 → y.2.1 55 j = 0 ∨ y.2.1 55 j = 1 := by rw [hy0]; exact h01
                have i49 : ∀ j, j < 16 → y.2.1 49 j = 0 ∨ y.2.1 49 j = 1 := by rw [hy0]; exact i49
                have i50 : ∀ j, j < 10 → 0 ≤ y.2.1 50 j ∧ y.2.1 50 j ≤ 3 := by rw [hy0]; exact i50
                have i51 : ∀ j, j < 10 → 0 ≤ y.2.1 51 j ∧ y.2.1 51 j ≤ 4 := by rw [hy0]; exact i51
                refine lv_iload hx hb dX12_brings_36 (lv_at hl 0 rfl) ?_
                refine z_bipush hx hb dX12_brings_38 (by decide) ?_
                refine z_icmp_ge (tgt := 103) hx hb dX12_brings_40 (by decide) (by omega) (by omega) (by omega) (by omega) (fun c_2 => ?_) (fun c_2 => ?_)
                · have hbe : BfE (mCan u) p3.toNat (16 - p3.toNat) A9 wh := fun f hf hc => hpt f hf (by have := hf.2; omega) hc
                  refine lv_iload hx hb dX12_brings_103 (lv_at hl 2 rfl) ?_
                  refine lv_iload hx hb dX12_brings_105 (lv_at hl 3 rfl) ?_
                  refine z_icmp_ne (tgt := 112) hx hb dX12_brings_107 (by decide) (by omega) (by omega) (by omega) (by omega) (fun c_3 => ?_) (fun c_3 => ?_)
                  · have hcl := (hbq.1 lk.toNat (by omega)).1
                    have hcm := hcl.1.2
                    have e57 : y.2.1 57 lk.toNat = C9 lk.toNat := by rw [hy0]; rfl
                    refine lv_aload_n hx hb dX12_brings_112 rfl (lv_at hl 4 rfl) ?_
                    refine g_get (C := RX12) (T := TX12) (N := 42) (ci := 11) hx hb hts (fun _ h => (List.mem_cons_of_mem _ (List.mem_append_right _ h))) hown hC.1 hG 8 (by decide) rfl rfl 35 (by decide) (hts (.fieldLink RX12 99 "StraitSwimModel" "queue" "[I") (List.mem_cons_of_mem _ (List.mem_append_left _ (List.mem_of_getElem? (i := 2) rfl)))) (fun _ h9 => h9) rfl dX12_brings_113 ?_
                    refine lv_iload hx hb dX12_brings_116 (lv_at hl 2 rfl) ?_
                    refine g_iald (n := 16) hx hb hC.1 hG 57 (by decide) rfl (by omega) (by omega) (by decide) dX12_brings_118 ?_
                    obtain ⟨day, hday⟩ : ∃ z : Int, z = y.2.1 57 lk.toNat := ⟨_, rfl⟩
                    rw [← hday]
                    refine lv_istore (lv' := [(7, .int (zI day)), (6, .int (zI wh)), (5, .int (zI lk)), (4, .int (zI q2)), (0, .ref (ad 8)), (1, .int (zI p1)), (2, .int (zI p2)), (3, .int (zI p3))]) hx hb dX12_brings_119 hl (by decide) rfl (fun ls hl => ?_)
                    refine z_iinc (lv' := [(5, .int (zI (lk + 1))), (7, .int (zI day)), (6, .int (zI wh)), (4, .int (zI q2)), (0, .ref (ad 8)), (1, .int (zI p1)), (2, .int (zI p2)), (3, .int (zI p3))]) hx hb dX12_brings_121 hl (k := 2) rfl (by decide) rfl (fun ls hl => ?_)
                    have hday2 : 0 ≤ day ∧ day < 16 ∧ day = C9 lk.toNat := by omega
                    have e53 : y.2.1 53 = u.2.1 53 := by rw [hy0]; rfl
                    have hr53 : ∀ j, j < 16 → -1 ≤ y.2.1 53 j ∧ y.2.1 53 j ≤ 9 := by rw [e53]; exact hrow
                    refine lv_aload_n hx hb dX12_brings_124 rfl (lv_at hl 4 rfl) ?_
                    refine g_get (C := RX12) (T := TX12) (N := 42) (ci := 11) hx hb hts (fun _ h => (List.mem_cons_of_mem _ (List.mem_append_right _ h))) hown hC.1 hG 8 (by decide) rfl rfl 31 (by decide) (hts (.fieldLink RX12 87 "StraitSwimModel" "goer" "[I") (List.mem_cons_of_mem _ (List.mem_append_left _ (List.mem_of_getElem? (i := 3) rfl)))) (fun _ h9 => h9) rfl dX12_brings_125 ?_
                    refine lv_iload hx hb dX12_brings_128 (lv_at hl 1 rfl) ?_
                    refine g_iald (n := 16) hx hb hC.1 hG 53 (by decide) rfl (by omega) (by omega) (by decide) dX12_brings_130 ?_
                    have q_4 := hr53 day.toNat (by omega)
                    refine z_iconst hx hb dX12_brings_131 ?_
                    refine z_icmp_eq (tgt := 147) hx hb dX12_brings_132 (by decide) (by omega) (by omega) (by omega) (by omega) (fun c_5 => ?_) (fun c_5 => ?_)
                    · clear e55 e51 e50 e49 e52 hm36 hm33 hm3 e57
                      have hx9 : u.2.1 53 day.toNat = -1 := by rw [← e53]; exact c_5
                      have hxm : mtIn p3.toNat (16 - p3.toNat) day.toNat := by rw [hday2.2.2]; exact hcl.1
                      refine lv_iload hx hb dX12_brings_147 (lv_at hl 1 rfl) ?_
                      refine lv_istore (lv' := [(8, .int (zI day)), (5, .int (zI (lk + 1))), (7, .int (zI day)), (6, .int (zI wh)), (4, .int (zI q2)), (0, .ref (ad 8)), (1, .int (zI p1)), (2, .int (zI p2)), (3, .int (zI p3))]) hx hb dX12_brings_149 hl (by decide) rfl (fun ls hl => ?_)
                      have loop151 : ∀ (n : Nat) (av gi : Int) (zs : gS) (H : Heap) (locs : List Loc) (ls : Array Slot), (gi + 1).toNat < n → (-1 ≤ av ∧ av ≤ 15) → (∃ h8, zs = mNp u h8 A9 B9 C9 ∧ (∀ e, e < 16 → -1 ≤ h8 e ∧ h8 e ≤ 9) ∧ ((gi = -1 ∧ av = -1 ∧ MFd (mCan u) p3.toNat (16 - p3.toNat) (mGone u p2) p1.toNat (fun _ => False) (u.2.1 53) h8) ∨ (0 ≤ gi ∧ gi ≤ lk ∧ av = C9 gi.toNat ∧ BfJ (mCan u) p3.toNat (16 - p3.toNat) (mGone u p2) (u.2.1 53) h8 day.toNat av.toNat ∧ ∀ m, m ≤ gi.toNat → h8 (C9 m).toNat = u.2.1 53 (C9 m).toNat))) → gH D cy ad jf A zs H → va_S A s.heap H locs → lv_has ls 12 [(8, .int (zI av)), (5, .int (zI (lk + 1))), (7, .int (zI day)), (6, .int (zI wh)), (4, .int (zI q2)), (0, .ref (ad 8)), (1, .int (zI p1)), (2, .int (zI p2)), (3, .int (zI p3))] → W p l e (headSpec wsX12_brings ({ frames := 1, cells := 0, slots := 0, locals := 23 })).room s m ([.ref (ad 8), .int (zI p1), .int (zI p2), .int (zI p3)]).toArray below meth c H locs 0 0 (MQ below (va_Qi (fun (r : Int32) (v : gS) => ∃ b : Int, r = zI b ∧ ∃ H A B C, v = mNp u H A B C ∧ (∀ e, e < 16 → -1 ≤ H e ∧ H e ≤ 9) ∧ ((b = 1 ∧ MFd (mCan u) p3.toNat (16 - p3.toNat) (mGone u p2) p1.toNat (fun _ => False) (u.2.1 53) H) ∨ (b = 0 ∧ H = (u.2.1 53) ∧ ∃ Y, MCl (mCan u) p3.toNat (16 - p3.toNat) (u.2.1 53) Y ∧ ∀ f, mtIn p3.toNat (16 - p3.toNat) f → mCan u p1.toNat f = true → Y f))) (gB D cy ad jf A) A) ([.ref (ad 8), .int (zI p1), .int (zI p2), .int (zI p3)]).toArray s 0 0 A) (F0 m 151 ls []) := by
                        intro n
                        induction n with
                        | zero => intro av gi zs H locs ls hm151; exact absurd hm151 (Nat.not_lt_zero _)
                        | succ n ih151 =>
                          intro av gi zs H locs ls hm151 hav0 hzz hG hS hl
                          obtain ⟨h8, hz0, hz2, hz3⟩ := hzz
                          have hr53 : ∀ j, j < 16 → -1 ≤ zs.2.1 53 j ∧ zs.2.1 53 j ≤ 9 := by rw [hz0]; exact hz2
                          refine lv_iload hx hb dX12_brings_151 (lv_at hl 0 rfl) ?_
                          refine z_iconst hx hb dX12_brings_153 ?_
                          refine z_icmp_eq (tgt := 245) hx hb dX12_brings_154 (by decide) (by omega) (by omega) (by omega) (by omega) (fun c_6 => ?_) (fun c_6 => ?_)
                          · refine z_iconst hx hb dX12_brings_245 ?_
                            exact W.zret (ty := .boolean) (v := zI 1) hx hb hr (nar_b (by omega)) (fun t9 ht9_ hW => ⟨⟨zI 1, zs, rfl, (by rcases hz3 with ⟨_, _, hfd⟩ | ⟨h9, _, hav, _⟩; exact ⟨1, rfl, h8, A9, B9, C9, hz0, hz2, Or.inl ⟨rfl, hfd⟩⟩; exfalso; have := (hbq.1 gi.toNat (by omega)).1.2.1; omega), gB.mk' hG hC hS ht9_ hW⟩, hS.F ht9_⟩) hS.2.2 dX12_brings_246
                          · rcases hz3 with ⟨h9, h9b, _⟩ | ⟨hg0, hgl, hav, hbj, hun⟩
                            · exfalso; omega
                            ·
                              obtain ⟨hqa1, hqa2, hqa3, hqa4, -⟩ := hbq.1 gi.toNat (by omega)
                              rw [← hav] at hqa1 hqa2 hqa3 hqa4
                              have hqm := hqa1.1.2
                              have e56 : zs.2.1 56 av.toNat = B9 av.toNat := by rw [hz0]; rfl
                              refine lv_aload_n hx hb dX12_brings_157 rfl (lv_at hl 5 rfl) ?_
                              refine g_get (C := RX12) (T := TX12) (N := 42) (ci := 11) hx hb hts (fun _ h => (List.mem_cons_of_mem _ (List.mem_append_right _ h))) hown hC.1 hG 8 (by decide) rfl rfl 34 (by decide) (hts (.fieldLink RX12 96 "StraitSwimModel" "comesBy" "[I") (List.mem_cons_of_mem _ (List.mem_append_left _ (List.mem_of_getElem? (i := 1) rfl)))) (fun _ h9 => h9) rfl dX12_brings_158 ?_
                              refine lv_iload hx hb dX12_brings_161 (lv_at hl 0 rfl) ?_
                              refine g_iald (n := 16) hx hb hC.1 hG 56 (by decide) rfl (by omega) (by omega) (by decide) dX12_brings_163 ?_
                              obtain ⟨bb, hbb⟩ : ∃ z : Int, z = zs.2.1 56 av.toNat := ⟨_, rfl⟩
                              rw [← hbb]
                              refine lv_istore (lv' := [(9, .int (zI bb)), (8, .int (zI av)), (5, .int (zI (lk + 1))), (7, .int (zI day)), (6, .int (zI wh)), (4, .int (zI q2)), (0, .ref (ad 8)), (1, .int (zI p1)), (2, .int (zI p2)), (3, .int (zI p3))]) hx hb dX12_brings_164 hl (by decide) rfl (fun ls hl => ?_)
                              have hbb : bb = B9 av.toNat := by omega
                              rw [← hbb] at hqa2 hqa3 hqa4
                              by_cases hbs : bb = p1
                              · have hbs2 := hbs
                                refine z_iconst hx hb dX12_brings_166 ?_
                                refine lv_istore (lv' := [(10, .int (zI ((-1)))), (9, .int (zI bb)), (8, .int (zI av)), (5, .int (zI (lk + 1))), (7, .int (zI day)), (6, .int (zI wh)), (4, .int (zI q2)), (0, .ref (ad 8)), (1, .int (zI p1)), (2, .int (zI p2)), (3, .int (zI p3))]) hx hb dX12_brings_167 hl (by decide) rfl (fun ls hl => ?_)
                                refine lv_iload_n hx hb dX12_brings_169 rfl (lv_at hl 10 rfl) ?_
                                refine lv_istore (lv' := [(11, .int (zI p3)), (10, .int (zI ((-1)))), (9, .int (zI bb)), (8, .int (zI av)), (5, .int (zI (lk + 1))), (7, .int (zI day)), (6, .int (zI wh)), (4, .int (zI q2)), (0, .ref (ad 8)), (1, .int (zI p1)), (2, .int (zI p2)), (3, .int (zI p3))]) hx hb dX12_brings_170 hl (by decide) rfl (fun ls hl => ?_)
                                have loop172 : ∀ (n : Nat) (bf t2 : Int) (H : Heap) (locs : List Loc) (ls : Array Slot), (16 - t2).toNat < n → (p3 ≤ t2 ∧ t2 ≤ 16) → (-1 ≤ bf ∧ bf ≤ 15) → (bf = -1) → gH D cy ad jf A zs H → va_S A s.heap H locs → lv_has ls 12 [(11, .int (zI t2)), (10, .int (zI bf)), (9, .int (zI bb)), (8, .int (zI av)), (5, .int (zI (lk + 1))), (7, .int (zI day)), (6, .int (zI wh)), (4, .int (zI q2)), (0, .ref (ad 8)), (1, .int (zI p1)), (2, .int (zI p2)), (3, .int (zI p3))] → W p l e (headSpec wsX12_brings ({ frames := 1, cells := 0, slots := 0, locals := 23 })).room s m ([.ref (ad 8), .int (zI p1), .int (zI p2), .int (zI p3)]).toArray below meth c H locs 0 0 (MQ below (va_Qi (fun (r : Int32) (v : gS) => ∃ b : Int, r = zI b ∧ ∃ H A B C, v = mNp u H A B C ∧ (∀ e, e < 16 → -1 ≤ H e ∧ H e ≤ 9) ∧ ((b = 1 ∧ MFd (mCan u) p3.toNat (16 - p3.toNat) (mGone u p2) p1.toNat (fun _ => False) (u.2.1 53) H) ∨ (b = 0 ∧ H = (u.2.1 53) ∧ ∃ Y, MCl (mCan u) p3.toNat (16 - p3.toNat) (u.2.1 53) Y ∧ ∀ f, mtIn p3.toNat (16 - p3.toNat) f → mCan u p1.toNat f = true → Y f))) (gB D cy ad jf A) A) ([.ref (ad 8), .int (zI p1), .int (zI p2), .int (zI p3)]).toArray s 0 0 A) (F0 m 172 ls []) := by
                                  intro n
                                  induction n with
                                  | zero => intro bf t2  H locs ls hm172; exact absurd hm172 (Nat.not_lt_zero _)
                                  | succ n ih172 =>
                                    intro bf t2  H locs ls hm172 ht2 hbf0 hbf hG hS hl
                                    have f53 : zs.2.1 53 t2.toNat = h8 t2.toNat := by rw [hz0]; rfl
                                    refine lv_iload hx hb dX12_brings_172 (lv_at hl 0 rfl) ?_
                                    refine z_bipush hx hb dX12_brings_174 (by decide) ?_
                                    refine z_icmp_ge (tgt := 219) hx hb dX12_brings_176 (by decide) (by omega) (by omega) (by omega) (by omega) (fun c_7 => ?_) (fun c_7 => ?_)
                                    · refine lv_aload_n hx hb dX12_brings_219 rfl (lv_at hl 8 rfl) ?_
                                      refine g_get (C := RX12) (T := TX12) (N := 42) (ci := 11) hx hb hts (fun _ h => (List.mem_cons_of_mem _ (List.mem_append_right _ h))) hown hC.1 hG 8 (by decide) rfl rfl 31 (by decide) (hts (.fieldLink RX12 87 "StraitSwimModel" "goer" "[I") (List.mem_cons_of_mem _ (List.mem_append_left _ (List.mem_of_getElem? (i := 3) rfl)))) (fun _ h9 => h9) rfl dX12_brings_220 ?_
                                      refine lv_iload hx hb dX12_brings_223 (lv_at hl 3 rfl) ?_
                                      refine lv_iload hx hb dX12_brings_225 (lv_at hl 2 rfl) ?_
                                      refine g_iast (n := 16) hx hb hC.1 hG hS 53 (by decide) rfl rfl (by omega) (by omega) (by decide) dX12_brings_227 (fun u8 H locs hu8 hG hS => ?_)
                                      refine lv_iload hx hb dX12_brings_228 (lv_at hl 2 rfl) ?_
                                      refine lv_iload_n hx hb dX12_brings_230 rfl (lv_at hl 9 rfl) ?_
                                      refine z_icmp_ne (tgt := 238) hx hb dX12_brings_231 (by decide) (by omega) (by omega) (by omega) (by omega) (fun c_9 => ?_) (fun c_9 => ?_)
                                      · refine lv_iload hx hb dX12_brings_238 (lv_at hl 1 rfl) ?_
                                        refine lv_istore (lv' := [(8, .int (zI bf)), (11, .int (zI t2)), (10, .int (zI bf)), (9, .int (zI bb)), (5, .int (zI (lk + 1))), (7, .int (zI day)), (6, .int (zI wh)), (4, .int (zI q2)), (0, .ref (ad 8)), (1, .int (zI p1)), (2, .int (zI p2)), (3, .int (zI p3))]) hx hb dX12_brings_240 hl (by decide) rfl (fun ls hl => ?_)
                                        refine lv_goto (tgt := 151) hx hb dX12_brings_242 (by decide) ?_
                                        exact ih151 bf ((-1)) u8 _ _ _ (by omega) (by omega) (by exact ⟨va_up h8 av.toNat bb, (by subst hu8; subst hz0; rw [mNp_53]; rfl), row_up hz2 (by omega), Or.inl ⟨rfl, (by omega), (by rw [hbs]; have h := BfJ_end (s := p1.toNat) hbj (by omega) (fun e he => (gr_hij (T := fun _ => False) hgr).2 e he id) (by rw [← hbs]; exact hqa3) hg1; rw [show ((p1.toNat : Nat) : Int) = p1 by omega] at h; exact h)⟩⟩) hG hS (lv_sub hl [0, 4, 5, 6, 7, 8, 9, 10, 11] rfl)
                                      · refine z_iconst hx hb dX12_brings_234 ?_
                                        refine lv_goto (tgt := 240) hx hb dX12_brings_235 (by decide) ?_
                                        refine lv_istore (lv' := [(8, .int (zI ((-1)))), (11, .int (zI t2)), (10, .int (zI bf)), (9, .int (zI bb)), (5, .int (zI (lk + 1))), (7, .int (zI day)), (6, .int (zI wh)), (4, .int (zI q2)), (0, .ref (ad 8)), (1, .int (zI p1)), (2, .int (zI p2)), (3, .int (zI p3))]) hx hb dX12_brings_240 hl (by decide) rfl (fun ls hl => ?_)
                                        refine lv_goto (tgt := 151) hx hb dX12_brings_242 (by decide) ?_
                                        exact ih151 ((-1)) ((-1)) u8 _ _ _ (by omega) (by omega) (by exact ⟨va_up h8 av.toNat bb, (by subst hu8; subst hz0; rw [mNp_53]; rfl), row_up hz2 (by omega), Or.inl ⟨rfl, (by omega), (by rw [hbs]; have h := BfJ_end (s := p1.toNat) hbj (by omega) (fun e he => (gr_hij (T := fun _ => False) hgr).2 e he id) (by rw [← hbs]; exact hqa3) hg1; rw [show ((p1.toNat : Nat) : Int) = p1 by omega] at h; exact h)⟩⟩) hG hS (lv_sub hl [0, 4, 5, 6, 7, 8, 9, 10, 11] rfl)
                                    · refine lv_iload hx hb dX12_brings_179 (lv_at hl 2 rfl) ?_
                                      refine lv_iload_n hx hb dX12_brings_181 rfl (lv_at hl 9 rfl) ?_
                                      refine z_icmp_eq (tgt := 219) hx hb dX12_brings_182 (by decide) (by omega) (by omega) (by omega) (by omega) (fun c_10 => ?_) (fun c_10 => ?_)
                                      · refine lv_aload_n hx hb dX12_brings_219 rfl (lv_at hl 8 rfl) ?_
                                        refine g_get (C := RX12) (T := TX12) (N := 42) (ci := 11) hx hb hts (fun _ h => (List.mem_cons_of_mem _ (List.mem_append_right _ h))) hown hC.1 hG 8 (by decide) rfl rfl 31 (by decide) (hts (.fieldLink RX12 87 "StraitSwimModel" "goer" "[I") (List.mem_cons_of_mem _ (List.mem_append_left _ (List.mem_of_getElem? (i := 3) rfl)))) (fun _ h9 => h9) rfl dX12_brings_220 ?_
                                        refine lv_iload hx hb dX12_brings_223 (lv_at hl 3 rfl) ?_
                                        refine lv_iload hx hb dX12_brings_225 (lv_at hl 2 rfl) ?_
                                        refine g_iast (n := 16) hx hb hC.1 hG hS 53 (by decide) rfl rfl (by omega) (by omega) (by decide) dX12_brings_227 (fun u11 H locs hu11 hG hS => ?_)
                                        refine lv_iload hx hb dX12_brings_228 (lv_at hl 2 rfl) ?_
                                        refine lv_iload_n hx hb dX12_brings_230 rfl (lv_at hl 9 rfl) ?_
                                        refine z_icmp_ne (tgt := 238) hx hb dX12_brings_231 (by decide) (by omega) (by omega) (by omega) (by omega) (fun c_12 => ?_) (fun c_12 => ?_)
                                        · refine lv_iload hx hb dX12_brings_238 (lv_at hl 1 rfl) ?_
                                          refine lv_istore (lv' := [(8, .int (zI bf)), (11, .int (zI t2)), (10, .int (zI bf)), (9, .int (zI bb)), (5, .int (zI (lk + 1))), (7, .int (zI day)), (6, .int (zI wh)), (4, .int (zI q2)), (0, .ref (ad 8)), (1, .int (zI p1)), (2, .int (zI p2)), (3, .int (zI p3))]) hx hb dX12_brings_240 hl (by decide) rfl (fun ls hl => ?_)
                                          refine lv_goto (tgt := 151) hx hb dX12_brings_242 (by decide) ?_
                                          exact ih151 bf ((-1)) u11 _ _ _ (by omega) (by omega) (by exact ⟨va_up h8 av.toNat bb, (by subst hu11; subst hz0; rw [mNp_53]; rfl), row_up hz2 (by omega), Or.inl ⟨rfl, (by omega), (by rw [hbs]; have h := BfJ_end (s := p1.toNat) hbj (by omega) (fun e he => (gr_hij (T := fun _ => False) hgr).2 e he id) (by rw [← hbs]; exact hqa3) hg1; rw [show ((p1.toNat : Nat) : Int) = p1 by omega] at h; exact h)⟩⟩) hG hS (lv_sub hl [0, 4, 5, 6, 7, 8, 9, 10, 11] rfl)
                                        · refine z_iconst hx hb dX12_brings_234 ?_
                                          refine lv_goto (tgt := 240) hx hb dX12_brings_235 (by decide) ?_
                                          refine lv_istore (lv' := [(8, .int (zI ((-1)))), (11, .int (zI t2)), (10, .int (zI bf)), (9, .int (zI bb)), (5, .int (zI (lk + 1))), (7, .int (zI day)), (6, .int (zI wh)), (4, .int (zI q2)), (0, .ref (ad 8)), (1, .int (zI p1)), (2, .int (zI p2)), (3, .int (zI p3))]) hx hb dX12_brings_240 hl (by decide) rfl (fun ls hl => ?_)
                                          refine lv_goto (tgt := 151) hx hb dX12_brings_242 (by decide) ?_
                                          exact ih151 ((-1)) ((-1)) u11 _ _ _ (by omega) (by omega) (by exact ⟨va_up h8 av.toNat bb, (by subst hu11; subst hz0; rw [mNp_53]; rfl), row_up hz2 (by omega), Or.inl ⟨rfl, (by omega), (by rw [hbs]; have h := BfJ_end (s := p1.toNat) hbj (by omega) (fun e he => (gr_hij (T := fun _ => False) hgr).2 e he id) (by rw [← hbs]; exact hqa3) hg1; rw [show ((p1.toNat : Nat) : Int) = p1 by omega] at h; exact h)⟩⟩) hG hS (lv_sub hl [0, 4, 5, 6, 7, 8, 9, 10, 11] rfl)
                                      · refine lv_aload_n hx hb dX12_brings_185 rfl (lv_at hl 8 rfl) ?_
                                        refine g_get (C := RX12) (T := TX12) (N := 42) (ci := 11) hx hb hts (fun _ h => (List.mem_cons_of_mem _ (List.mem_append_right _ h))) hown hC.1 hG 8 (by decide) rfl rfl 31 (by decide) (hts (.fieldLink RX12 87 "StraitSwimModel" "goer" "[I") (List.mem_cons_of_mem _ (List.mem_append_left _ (List.mem_of_getElem? (i := 3) rfl)))) (fun _ h9 => h9) rfl dX12_brings_186 ?_
                                        refine lv_iload hx hb dX12_brings_189 (lv_at hl 0 rfl) ?_
                                        refine g_iald (n := 16) hx hb hC.1 hG 53 (by decide) rfl (by omega) (by omega) (by decide) dX12_brings_191 ?_
                                        have q_13 := hr53 t2.toNat (by omega)
                                        refine lv_iload hx hb dX12_brings_192 (lv_at hl 2 rfl) ?_
                                        refine z_icmp_ne (tgt := 209) hx hb dX12_brings_194 (by decide) (by omega) (by omega) (by omega) (by omega) (fun c_14 => ?_) (fun c_14 => ?_)
                                        · refine lv_iload hx hb dX12_brings_209 (lv_at hl 1 rfl) ?_
                                          refine lv_istore (lv' := [(10, .int (zI bf)), (11, .int (zI t2)), (9, .int (zI bb)), (8, .int (zI av)), (5, .int (zI (lk + 1))), (7, .int (zI day)), (6, .int (zI wh)), (4, .int (zI q2)), (0, .ref (ad 8)), (1, .int (zI p1)), (2, .int (zI p2)), (3, .int (zI p3))]) hx hb dX12_brings_211 hl (by decide) rfl (fun ls hl => ?_)
                                          refine z_iinc (lv' := [(11, .int (zI (t2 + 1))), (10, .int (zI bf)), (9, .int (zI bb)), (8, .int (zI av)), (5, .int (zI (lk + 1))), (7, .int (zI day)), (6, .int (zI wh)), (4, .int (zI q2)), (0, .ref (ad 8)), (1, .int (zI p1)), (2, .int (zI p2)), (3, .int (zI p3))]) hx hb dX12_brings_213 hl (k := 1) rfl (by decide) rfl (fun ls hl => ?_)
                                          refine lv_goto (tgt := 172) hx hb dX12_brings_216 (by decide) ?_
                                          exact ih172 bf (t2 + 1) _ _ _ (by omega) (by omega) (by omega) (by omega) hG hS (lv_sub hl [0, 1, 2, 3, 4, 5, 6, 7, 8, 9, 10, 11] rfl)
                                        · refine lv_iload hx hb dX12_brings_197 (lv_at hl 0 rfl) ?_
                                          refine lv_iload hx hb dX12_brings_199 (lv_at hl 3 rfl) ?_
                                          refine z_icmp_eq (tgt := 209) hx hb dX12_brings_201 (by decide) (by omega) (by omega) (by omega) (by omega) (fun c_15 => ?_) (fun c_15 => ?_)
                                          · refine lv_iload hx hb dX12_brings_209 (lv_at hl 1 rfl) ?_
                                            refine lv_istore (lv' := [(10, .int (zI bf)), (11, .int (zI t2)), (9, .int (zI bb)), (8, .int (zI av)), (5, .int (zI (lk + 1))), (7, .int (zI day)), (6, .int (zI wh)), (4, .int (zI q2)), (0, .ref (ad 8)), (1, .int (zI p1)), (2, .int (zI p2)), (3, .int (zI p3))]) hx hb dX12_brings_211 hl (by decide) rfl (fun ls hl => ?_)
                                            refine z_iinc (lv' := [(11, .int (zI (t2 + 1))), (10, .int (zI bf)), (9, .int (zI bb)), (8, .int (zI av)), (5, .int (zI (lk + 1))), (7, .int (zI day)), (6, .int (zI wh)), (4, .int (zI q2)), (0, .ref (ad 8)), (1, .int (zI p1)), (2, .int (zI p2)), (3, .int (zI p3))]) hx hb dX12_brings_213 hl (k := 1) rfl (by decide) rfl (fun ls hl => ?_)
                                            refine lv_goto (tgt := 172) hx hb dX12_brings_216 (by decide) ?_
                                            exact ih172 bf (t2 + 1) _ _ _ (by omega) (by omega) (by omega) (by omega) hG hS (lv_sub hl [0, 1, 2, 3, 4, 5, 6, 7, 8, 9, 10, 11] rfl)
                                          · refine lv_iload hx hb dX12_brings_204 (lv_at hl 0 rfl) ?_
                                            refine lv_goto (tgt := 211) hx hb dX12_brings_206 (by decide) ?_
                                            refine lv_istore (lv' := [(10, .int (zI t2)), (11, .int (zI t2)), (9, .int (zI bb)), (8, .int (zI av)), (5, .int (zI (lk + 1))), (7, .int (zI day)), (6, .int (zI wh)), (4, .int (zI q2)), (0, .ref (ad 8)), (1, .int (zI p1)), (2, .int (zI p2)), (3, .int (zI p3))]) hx hb dX12_brings_211 hl (by decide) rfl (fun ls hl => ?_)
                                            refine z_iinc (lv' := [(11, .int (zI (t2 + 1))), (10, .int (zI t2)), (9, .int (zI bb)), (8, .int (zI av)), (5, .int (zI (lk + 1))), (7, .int (zI day)), (6, .int (zI wh)), (4, .int (zI q2)), (0, .ref (ad 8)), (1, .int (zI p1)), (2, .int (zI p2)), (3, .int (zI p3))]) hx hb dX12_brings_213 hl (k := 1) rfl (by decide) rfl (fun ls hl => ?_)
                                            refine lv_goto (tgt := 172) hx hb dX12_brings_216 (by decide) ?_
                                            exact ih172 t2 (t2 + 1) _ _ _ (by omega) (by omega) (by omega) (by omega) hG hS (lv_sub hl [0, 1, 2, 3, 4, 5, 6, 7, 8, 9, 10, 11] rfl)
                                exact loop172 _ ((-1)) p3 _ _ _ (Nat.lt_succ_self _) (by omega) (by omega) (by rfl) hG hS (lv_sub hl [0, 1, 2, 3, 4, 5, 6, 7, 8, 9, 10, 11] rfl)
                              · obtain ⟨j, hj, hjH⟩ : ∃ j, j < gi.toNat ∧ u.2.1 53 (C9 j).toNat = bb := (by have h5 := (hbq.1 gi.toNat (by omega)).2.2.2.2; rw [← hav, ← hbb] at h5; rcases h5 with h | h; exact absurd h hbs; exact h)
                                have hqj := (hbq.1 j (by omega)).1
                                have hqjm := hqj.1.2
                                have hqjl := hqj.1.1
                                have hja : C9 j ≠ av := fun h => by have := hbq.2.1 j gi.toNat (by omega) (by omega) (by rw [h, hav]); omega
                                have hjh : h8 (C9 j).toNat = bb := by rw [hun j (by omega)]; exact hjH
                                have huq : ∀ e, mtIn p3.toNat (16 - p3.toNat) e → e ≠ av.toNat → h8 e = bb → e = (C9 j).toNat := fun e he hne h => hbj.2.1 e _ he hqj.1 hne (by omega) (by rw [h, hjh]) (by omega)
                                refine z_iconst hx hb dX12_brings_166 ?_
                                refine lv_istore (lv' := [(10, .int (zI ((-1)))), (9, .int (zI bb)), (8, .int (zI av)), (5, .int (zI (lk + 1))), (7, .int (zI day)), (6, .int (zI wh)), (4, .int (zI q2)), (0, .ref (ad 8)), (1, .int (zI p1)), (2, .int (zI p2)), (3, .int (zI p3))]) hx hb dX12_brings_167 hl (by decide) rfl (fun ls hl => ?_)
                                refine lv_iload_n hx hb dX12_brings_169 rfl (lv_at hl 10 rfl) ?_
                                refine lv_istore (lv' := [(11, .int (zI p3)), (10, .int (zI ((-1)))), (9, .int (zI bb)), (8, .int (zI av)), (5, .int (zI (lk + 1))), (7, .int (zI day)), (6, .int (zI wh)), (4, .int (zI q2)), (0, .ref (ad 8)), (1, .int (zI p1)), (2, .int (zI p2)), (3, .int (zI p3))]) hx hb dX12_brings_170 hl (by decide) rfl (fun ls hl => ?_)
                                have loop172 : ∀ (n : Nat) (bf t2 : Int) (H : Heap) (locs : List Loc) (ls : Array Slot), (16 - t2).toNat < n → (p3 ≤ t2 ∧ t2 ≤ 16) → (-1 ≤ bf ∧ bf ≤ 15) → ((C9 j < t2 → bf = C9 j) ∧ (t2 ≤ C9 j → bf = -1)) → gH D cy ad jf A zs H → va_S A s.heap H locs → lv_has ls 12 [(11, .int (zI t2)), (10, .int (zI bf)), (9, .int (zI bb)), (8, .int (zI av)), (5, .int (zI (lk + 1))), (7, .int (zI day)), (6, .int (zI wh)), (4, .int (zI q2)), (0, .ref (ad 8)), (1, .int (zI p1)), (2, .int (zI p2)), (3, .int (zI p3))] → W p l e (headSpec wsX12_brings ({ frames := 1, cells := 0, slots := 0, locals := 23 })).room s m ([.ref (ad 8), .int (zI p1), .int (zI p2), .int (zI p3)]).toArray below meth c H locs 0 0 (MQ below (va_Qi (fun (r : Int32) (v : gS) => ∃ b : Int, r = zI b ∧ ∃ H A B C, v = mNp u H A B C ∧ (∀ e, e < 16 → -1 ≤ H e ∧ H e ≤ 9) ∧ ((b = 1 ∧ MFd (mCan u) p3.toNat (16 - p3.toNat) (mGone u p2) p1.toNat (fun _ => False) (u.2.1 53) H) ∨ (b = 0 ∧ H = (u.2.1 53) ∧ ∃ Y, MCl (mCan u) p3.toNat (16 - p3.toNat) (u.2.1 53) Y ∧ ∀ f, mtIn p3.toNat (16 - p3.toNat) f → mCan u p1.toNat f = true → Y f))) (gB D cy ad jf A) A) ([.ref (ad 8), .int (zI p1), .int (zI p2), .int (zI p3)]).toArray s 0 0 A) (F0 m 172 ls []) := by
                                  intro n
                                  induction n with
                                  | zero => intro bf t2  H locs ls hm172; exact absurd hm172 (Nat.not_lt_zero _)
                                  | succ n ih172 =>
                                    intro bf t2  H locs ls hm172 ht2 hbf0 hbf hG hS hl
                                    have f53 : zs.2.1 53 t2.toNat = h8 t2.toNat := by rw [hz0]; rfl
                                    refine lv_iload hx hb dX12_brings_172 (lv_at hl 0 rfl) ?_
                                    refine z_bipush hx hb dX12_brings_174 (by decide) ?_
                                    refine z_icmp_ge (tgt := 219) hx hb dX12_brings_176 (by decide) (by omega) (by omega) (by omega) (by omega) (fun c_16 => ?_) (fun c_16 => ?_)
                                    · refine lv_aload_n hx hb dX12_brings_219 rfl (lv_at hl 8 rfl) ?_
                                      refine g_get (C := RX12) (T := TX12) (N := 42) (ci := 11) hx hb hts (fun _ h => (List.mem_cons_of_mem _ (List.mem_append_right _ h))) hown hC.1 hG 8 (by decide) rfl rfl 31 (by decide) (hts (.fieldLink RX12 87 "StraitSwimModel" "goer" "[I") (List.mem_cons_of_mem _ (List.mem_append_left _ (List.mem_of_getElem? (i := 3) rfl)))) (fun _ h9 => h9) rfl dX12_brings_220 ?_
                                      refine lv_iload hx hb dX12_brings_223 (lv_at hl 3 rfl) ?_
                                      refine lv_iload hx hb dX12_brings_225 (lv_at hl 2 rfl) ?_
                                      refine g_iast (n := 16) hx hb hC.1 hG hS 53 (by decide) rfl rfl (by omega) (by omega) (by decide) dX12_brings_227 (fun u17 H locs hu17 hG hS => ?_)
                                      refine lv_iload hx hb dX12_brings_228 (lv_at hl 2 rfl) ?_
                                      refine lv_iload_n hx hb dX12_brings_230 rfl (lv_at hl 9 rfl) ?_
                                      refine z_icmp_ne (tgt := 238) hx hb dX12_brings_231 (by decide) (by omega) (by omega) (by omega) (by omega) (fun c_18 => ?_) (fun c_18 => ?_)
                                      · refine lv_iload hx hb dX12_brings_238 (lv_at hl 1 rfl) ?_
                                        refine lv_istore (lv' := [(8, .int (zI bf)), (11, .int (zI t2)), (10, .int (zI bf)), (9, .int (zI bb)), (5, .int (zI (lk + 1))), (7, .int (zI day)), (6, .int (zI wh)), (4, .int (zI q2)), (0, .ref (ad 8)), (1, .int (zI p1)), (2, .int (zI p2)), (3, .int (zI p3))]) hx hb dX12_brings_240 hl (by decide) rfl (fun ls hl => ?_)
                                        refine lv_goto (tgt := 151) hx hb dX12_brings_242 (by decide) ?_
                                        exact ih151 bf ((j : Int)) u17 _ _ _ (by omega) (by omega) (by first | (exfalso; omega) | (have hbf2 : bf = C9 j := (by omega); exact ⟨va_up h8 av.toNat bb, (by subst hu17; subst hz0; rw [mNp_53]; rfl), row_up hz2 (by omega), Or.inr ⟨by omega, by omega, (by rw [hbf2]; rfl), (by rw [hbf2]; exact BfJ_step hbj hqj.1 (by omega) hjH hjh (by omega) hqa3 hqa4), (fun m hm => by rw [up_n _ _ (fun h => by have h1 := (hbq.1 m (by omega)).1; have h2 := hbq.2.1 m gi.toNat (by omega) (by omega) (by omega); omega)]; exact hun m (by omega))⟩⟩)) hG hS (lv_sub hl [0, 4, 5, 6, 7, 8, 9, 10, 11] rfl)
                                      · refine z_iconst hx hb dX12_brings_234 ?_
                                        refine lv_goto (tgt := 240) hx hb dX12_brings_235 (by decide) ?_
                                        refine lv_istore (lv' := [(8, .int (zI ((-1)))), (11, .int (zI t2)), (10, .int (zI bf)), (9, .int (zI bb)), (5, .int (zI (lk + 1))), (7, .int (zI day)), (6, .int (zI wh)), (4, .int (zI q2)), (0, .ref (ad 8)), (1, .int (zI p1)), (2, .int (zI p2)), (3, .int (zI p3))]) hx hb dX12_brings_240 hl (by decide) rfl (fun ls hl => ?_)
                                        refine lv_goto (tgt := 151) hx hb dX12_brings_242 (by decide) ?_
                                        exact ih151 ((-1)) ((j : Int)) u17 _ _ _ (by omega) (by omega) (by first | (exfalso; omega) | (have hbf2 : bf = C9 j := (by omega); exact ⟨va_up h8 av.toNat bb, (by subst hu17; subst hz0; rw [mNp_53]; rfl), row_up hz2 (by omega), Or.inr ⟨by omega, by omega, (by rw [hbf2]; rfl), (by rw [hbf2]; exact BfJ_step hbj hqj.1 (by omega) hjH hjh (by omega) hqa3 hqa4), (fun m hm => by rw [up_n _ _ (fun h => by have h1 := (hbq.1 m (by omega)).1; have h2 := hbq.2.1 m gi.toNat (by omega) (by omega) (by omega); omega)]; exact hun m (by omega))⟩⟩)) hG hS (lv_sub hl [0, 4, 5, 6, 7, 8, 9, 10, 11] rfl)
                                    · refine lv_iload hx hb dX12_brings_179 (lv_at hl 2 rfl) ?_
                                      refine lv_iload_n hx hb dX12_brings_181 rfl (lv_at hl 9 rfl) ?_
                                      refine z_icmp_eq (tgt := 219) hx hb dX12_brings_182 (by decide) (by omega) (by omega) (by omega) (by omega) (fun c_19 => ?_) (fun c_19 => ?_)
                                      · refine lv_aload_n hx hb dX12_brings_219 rfl (lv_at hl 8 rfl) ?_
                                        refine g_get (C := RX12) (T := TX12) (N := 42) (ci := 11) hx hb hts (fun _ h => (List.mem_cons_of_mem _ (List.mem_append_right _ h))) hown hC.1 hG 8 (by decide) rfl rfl 31 (by decide) (hts (.fieldLink RX12 87 "StraitSwimModel" "goer" "[I") (List.mem_cons_of_mem _ (List.mem_append_left _ (List.mem_of_getElem? (i := 3) rfl)))) (fun _ h9 => h9) rfl dX12_brings_220 ?_
                                        refine lv_iload hx hb dX12_brings_223 (lv_at hl 3 rfl) ?_
                                        refine lv_iload hx hb dX12_brings_225 (lv_at hl 2 rfl) ?_
                                        refine g_iast (n := 16) hx hb hC.1 hG hS 53 (by decide) rfl rfl (by omega) (by omega) (by decide) dX12_brings_227 (fun u20 H locs hu20 hG hS => ?_)
                                        refine lv_iload hx hb dX12_brings_228 (lv_at hl 2 rfl) ?_
                                        refine lv_iload_n hx hb dX12_brings_230 rfl (lv_at hl 9 rfl) ?_
                                        refine z_icmp_ne (tgt := 238) hx hb dX12_brings_231 (by decide) (by omega) (by omega) (by omega) (by omega) (fun c_21 => ?_) (fun c_21 => ?_)
                                        · refine lv_iload hx hb dX12_brings_238 (lv_at hl 1 rfl) ?_
                                          refine lv_istore (lv' := [(8, .int (zI bf)), (11, .int (zI t2)), (10, .int (zI bf)), (9, .int (zI bb)), (5, .int (zI (lk + 1))), (7, .int (zI day)), (6, .int (zI wh)), (4, .int (zI q2)), (0, .ref (ad 8)), (1, .int (zI p1)), (2, .int (zI p2)), (3, .int (zI p3))]) hx hb dX12_brings_240 hl (by decide) rfl (fun ls hl => ?_)
                                          refine lv_goto (tgt := 151) hx hb dX12_brings_242 (by decide) ?_
                                          exact ih151 bf ((j : Int)) u20 _ _ _ (by omega) (by omega) (by first | (exfalso; omega) | (have hbf2 : bf = C9 j := (by omega); exact ⟨va_up h8 av.toNat bb, (by subst hu20; subst hz0; rw [mNp_53]; rfl), row_up hz2 (by omega), Or.inr ⟨by omega, by omega, (by rw [hbf2]; rfl), (by rw [hbf2]; exact BfJ_step hbj hqj.1 (by omega) hjH hjh (by omega) hqa3 hqa4), (fun m hm => by rw [up_n _ _ (fun h => by have h1 := (hbq.1 m (by omega)).1; have h2 := hbq.2.1 m gi.toNat (by omega) (by omega) (by omega); omega)]; exact hun m (by omega))⟩⟩)) hG hS (lv_sub hl [0, 4, 5, 6, 7, 8, 9, 10, 11] rfl)
                                        · refine z_iconst hx hb dX12_brings_234 ?_
                                          refine lv_goto (tgt := 240) hx hb dX12_brings_235 (by decide) ?_
                                          refine lv_istore (lv' := [(8, .int (zI ((-1)))), (11, .int (zI t2)), (10, .int (zI bf)), (9, .int (zI bb)), (5, .int (zI (lk + 1))), (7, .int (zI day)), (6, .int (zI wh)), (4, .int (zI q2)), (0, .ref (ad 8)), (1, .int (zI p1)), (2, .int (zI p2)), (3, .int (zI p3))]) hx hb dX12_brings_240 hl (by decide) rfl (fun ls hl => ?_)
                                          refine lv_goto (tgt := 151) hx hb dX12_brings_242 (by decide) ?_
                                          exact ih151 ((-1)) ((j : Int)) u20 _ _ _ (by omega) (by omega) (by first | (exfalso; omega) | (have hbf2 : bf = C9 j := (by omega); exact ⟨va_up h8 av.toNat bb, (by subst hu20; subst hz0; rw [mNp_53]; rfl), row_up hz2 (by omega), Or.inr ⟨by omega, by omega, (by rw [hbf2]; rfl), (by rw [hbf2]; exact BfJ_step hbj hqj.1 (by omega) hjH hjh (by omega) hqa3 hqa4), (fun m hm => by rw [up_n _ _ (fun h => by have h1 := (hbq.1 m (by omega)).1; have h2 := hbq.2.1 m gi.toNat (by omega) (by omega) (by omega); omega)]; exact hun m (by omega))⟩⟩)) hG hS (lv_sub hl [0, 4, 5, 6, 7, 8, 9, 10, 11] rfl)
                                      · refine lv_aload_n hx hb dX12_brings_185 rfl (lv_at hl 8 rfl) ?_
                                        refine g_get (C := RX12) (T := TX12) (N := 42) (ci := 11) hx hb hts (fun _ h => (List.mem_cons_of_mem _ (List.mem_append_right _ h))) hown hC.1 hG 8 (by decide) rfl rfl 31 (by decide) (hts (.fieldLink RX12 87 "StraitSwimModel" "goer" "[I") (List.mem_cons_of_mem _ (List.mem_append_left _ (List.mem_of_getElem? (i := 3) rfl)))) (fun _ h9 => h9) rfl dX12_brings_186 ?_
                                        refine lv_iload hx hb dX12_brings_189 (lv_at hl 0 rfl) ?_
                                        refine g_iald (n := 16) hx hb hC.1 hG 53 (by decide) rfl (by omega) (by omega) (by decide) dX12_brings_191 ?_
                                        have q_22 := hr53 t2.toNat (by omega)
                                        refine lv_iload hx hb dX12_brings_192 (lv_at hl 2 rfl) ?_
                                        refine z_icmp_ne (tgt := 209) hx hb dX12_brings_194 (by decide) (by omega) (by omega) (by omega) (by omega) (fun c_23 => ?_) (fun c_23 => ?_)
                                        · refine lv_iload hx hb dX12_brings_209 (lv_at hl 1 rfl) ?_
                                          refine lv_istore (lv' := [(10, .int (zI bf)), (11, .int (zI t2)), (9, .int (zI bb)), (8, .int (zI av)), (5, .int (zI (lk + 1))), (7, .int (zI day)), (6, .int (zI wh)), (4, .int (zI q2)), (0, .ref (ad 8)), (1, .int (zI p1)), (2, .int (zI p2)), (3, .int (zI p3))]) hx hb dX12_brings_211 hl (by decide) rfl (fun ls hl => ?_)
                                          refine z_iinc (lv' := [(11, .int (zI (t2 + 1))), (10, .int (zI bf)), (9, .int (zI bb)), (8, .int (zI av)), (5, .int (zI (lk + 1))), (7, .int (zI day)), (6, .int (zI wh)), (4, .int (zI q2)), (0, .ref (ad 8)), (1, .int (zI p1)), (2, .int (zI p2)), (3, .int (zI p3))]) hx hb dX12_brings_213 hl (k := 1) rfl (by decide) rfl (fun ls hl => ?_)
                                          refine lv_goto (tgt := 172) hx hb dX12_brings_216 (by decide) ?_
                                          exact ih172 bf (t2 + 1) _ _ _ (by omega) (by omega) (by omega) (by have h1 : t2 ≠ C9 j := (fun h => by have h2 : zs.2.1 53 t2.toNat = bb := (by rw [f53, h]; exact hjh); omega); omega) hG hS (lv_sub hl [0, 1, 2, 3, 4, 5, 6, 7, 8, 9, 10, 11] rfl)
                                        · refine lv_iload hx hb dX12_brings_197 (lv_at hl 0 rfl) ?_
                                          refine lv_iload hx hb dX12_brings_199 (lv_at hl 3 rfl) ?_
                                          refine z_icmp_eq (tgt := 209) hx hb dX12_brings_201 (by decide) (by omega) (by omega) (by omega) (by omega) (fun c_24 => ?_) (fun c_24 => ?_)
                                          · refine lv_iload hx hb dX12_brings_209 (lv_at hl 1 rfl) ?_
                                            refine lv_istore (lv' := [(10, .int (zI bf)), (11, .int (zI t2)), (9, .int (zI bb)), (8, .int (zI av)), (5, .int (zI (lk + 1))), (7, .int (zI day)), (6, .int (zI wh)), (4, .int (zI q2)), (0, .ref (ad 8)), (1, .int (zI p1)), (2, .int (zI p2)), (3, .int (zI p3))]) hx hb dX12_brings_211 hl (by decide) rfl (fun ls hl => ?_)
                                            refine z_iinc (lv' := [(11, .int (zI (t2 + 1))), (10, .int (zI bf)), (9, .int (zI bb)), (8, .int (zI av)), (5, .int (zI (lk + 1))), (7, .int (zI day)), (6, .int (zI wh)), (4, .int (zI q2)), (0, .ref (ad 8)), (1, .int (zI p1)), (2, .int (zI p2)), (3, .int (zI p3))]) hx hb dX12_brings_213 hl (k := 1) rfl (by decide) rfl (fun ls hl => ?_)
                                            refine lv_goto (tgt := 172) hx hb dX12_brings_216 (by decide) ?_
                                            exact ih172 bf (t2 + 1) _ _ _ (by omega) (by omega) (by omega) (by omega) hG hS (lv_sub hl [0, 1, 2, 3, 4, 5, 6, 7, 8, 9, 10, 11] rfl)
                                          · refine lv_iload hx hb dX12_brings_204 (lv_at hl 0 rfl) ?_
                                            refine lv_goto (tgt := 211) hx hb dX12_brings_206 (by decide) ?_
                                            refine lv_istore (lv' := [(10, .int (zI t2)), (11, .int (zI t2)), (9, .int (zI bb)), (8, .int (zI av)), (5, .int (zI (lk + 1))), (7, .int (zI day)), (6, .int (zI wh)), (4, .int (zI q2)), (0, .ref (ad 8)), (1, .int (zI p1)), (2, .int (zI p2)), (3, .int (zI p3))]) hx hb dX12_brings_211 hl (by decide) rfl (fun ls hl => ?_)
                                            refine z_iinc (lv' := [(11, .int (zI (t2 + 1))), (10, .int (zI t2)), (9, .int (zI bb)), (8, .int (zI av)), (5, .int (zI (lk + 1))), (7, .int (zI day)), (6, .int (zI wh)), (4, .int (zI q2)), (0, .ref (ad 8)), (1, .int (zI p1)), (2, .int (zI p2)), (3, .int (zI p3))]) hx hb dX12_brings_213 hl (k := 1) rfl (by decide) rfl (fun ls hl => ?_)
                                            refine lv_goto (tgt := 172) hx hb dX12_brings_216 (by decide) ?_
                                            exact ih172 t2 (t2 + 1) _ _ _ (by omega) (by omega) (by omega) (by have h1 := huq t2.toNat ⟨by omega, by omega⟩ (by omega) (by rw [← f53]; assumption); omega) hG hS (lv_sub hl [0, 1, 2, 3, 4, 5, 6, 7, 8, 9, 10, 11] rfl)
                                exact loop172 _ ((-1)) p3 _ _ _ (Nat.lt_succ_self _) (by omega) (by omega) (by omega) hG hS (lv_sub hl [0, 1, 2, 3, 4, 5, 6, 7, 8, 9, 10, 11] rfl)
                      exact loop151 _ day lk y _ _ _ (Nat.lt_succ_self _) (by omega) (by exact ⟨(u.2.1 53), hy0, hrow, Or.inr ⟨by omega, by omega, by omega, BfJ_0 hgr hxm hx9, (fun m _ => rfl)⟩⟩) hG hS (lv_sub hl [0, 1, 2, 3, 4, 5, 6, 7, 8] rfl)
                    · refine lv_aload_n hx hb dX12_brings_135 rfl (lv_at hl 4 rfl) ?_
                      refine g_get (C := RX12) (T := TX12) (N := 42) (ci := 11) hx hb hts (fun _ h => (List.mem_cons_of_mem _ (List.mem_append_right _ h))) hown hC.1 hG 8 (by decide) rfl rfl 31 (by decide) (hts (.fieldLink RX12 87 "StraitSwimModel" "goer" "[I") (List.mem_cons_of_mem _ (List.mem_append_left _ (List.mem_of_getElem? (i := 3) rfl)))) (fun _ h9 => h9) rfl dX12_brings_136 ?_
                      refine lv_iload hx hb dX12_brings_139 (lv_at hl 1 rfl) ?_
                      refine g_iald (n := 16) hx hb hC.1 hG 53 (by decide) rfl (by omega) (by omega) (by decide) dX12_brings_141 ?_
                      have q_25 := hr53 day.toNat (by omega)
                      refine lv_istore (lv' := [(6, .int (zI (y.2.1 53 day.toNat))), (5, .int (zI (lk + 1))), (7, .int (zI day)), (4, .int (zI q2)), (0, .ref (ad 8)), (1, .int (zI p1)), (2, .int (zI p2)), (3, .int (zI p3))]) hx hb dX12_brings_142 hl (by decide) rfl (fun ls hl => ?_)
                      refine lv_goto (tgt := 33) hx hb dX12_brings_144 (by decide) ?_
                      exact ih33 q2 (lk + 1) (y.2.1 53 day.toNat) y _ _ _ (by omega) (by omega) (by have h53 : 0 ≤ u.2.1 53 (C9 lk.toNat).toNat := (by have h1 := c_5; have h2 := hrow (C9 lk.toNat).toNat (by omega); rw [e53, hday2.2.2] at h1; omega); exact ⟨A9, B9, C9, hy0, h01, hbq, (by rw [show (lk + 1).toNat = lk.toNat + 1 by omega, e53, hday2.2.2]; exact BfO_next hbo hbe h53), (by have h2 := hrow (C9 lk.toNat).toNat (by omega); rw [e53, hday2.2.2]; omega), (by rw [e53, hday2.2.2]; exact gr_hgo hgr _ hcl.1 h53)⟩) hG hS (lv_sub hl [0, 1, 3, 4, 5, 6, 7] rfl)
                  · refine z_iconst hx hb dX12_brings_110 ?_
                    exact W.zret (ty := .boolean) (v := zI 0) hx hb hr (nar_b (by omega)) (fun t9 ht9_ hW => ⟨⟨zI 0, y, rfl, (by exact ⟨0, rfl, (u.2.1 53), A9, B9, C9, hy0, hrow, Or.inr ⟨rfl, rfl, fun e => A9 e = 1, (by have h := Bf_no (wh := wh) hbq (by rw [show q2.toNat = lk.toNat by omega]; exact hbo) hbe; exact h)⟩⟩), gB.mk' hG hC hS ht9_ hW⟩, hS.F ht9_⟩) hS.2.2 dX12_brings_111
                · refine lv_aload_n hx hb dX12_brings_43 rfl (lv_at hl 4 rfl) ?_
                  refine g_get (C := RX12) (T := TX12) (N := 42) (ci := 11) hx hb hts (fun _ h => (List.mem_cons_of_mem _ (List.mem_append_right _ h))) hown hC.1 hG 8 (by decide) rfl rfl 33 (by decide) (hts (.fieldLink RX12 93 "StraitSwimModel" "triedDay" "[Z") (List.mem_cons_of_mem _ (List.mem_append_left _ (List.mem_of_getElem? (i := 0) rfl)))) (fun _ h9 => h9) rfl dX12_brings_44 ?_
                  refine lv_iload hx hb dX12_brings_47 (lv_at hl 0 rfl) ?_
                  refine g_zald (n := 16) hx hb hC.1 hG 55 (by decide) rfl (by omega) (by omega) (by decide) dX12_brings_49 ?_
                  have q_26 := h55 t.toNat (by omega)
                  refine z_if_ne (tgt := 97) hx hb dX12_brings_50 (by decide) (by omega) (by omega) (fun c_27 => ?_) (fun c_27 => ?_)
                  · refine z_iinc (lv' := [(7, .int (zI (t + 1))), (6, .int (zI wh)), (5, .int (zI lk)), (4, .int (zI q2)), (0, .ref (ad 8)), (1, .int (zI p1)), (2, .int (zI p2)), (3, .int (zI p3))]) hx hb dX12_brings_97 hl (k := 0) rfl (by decide) rfl (fun ls hl => ?_)
                    refine lv_goto (tgt := 36) hx hb dX12_brings_100 (by decide) ?_
                    exact ih36 q2 (t + 1) y _ _ _ (by omega) (by omega) (by omega) (by exact ⟨A9, B9, C9, hy0, h01, hbq, hbo, (by rw [show (t + 1).toNat = t.toNat + 1 by omega]; exact part_sk hpt (fun _ => by have := h01 t.toNat (by omega); omega))⟩) hG hS (lv_sub hl [0, 1, 2, 3, 4, 5, 6, 7] rfl)
                  · refine lv_aload_n hx hb dX12_brings_53 rfl (lv_at hl 4 rfl) ?_
                    refine lv_iload hx hb dX12_brings_54 (lv_at hl 1 rfl) ?_
                    refine lv_iload hx hb dX12_brings_56 (lv_at hl 0 rfl) ?_
                    refine lv_iload_n hx hb dX12_brings_58 rfl (lv_at hl 6 rfl) ?_
                    refine g_calli (va_runV (As := [.int (zI wh), .int (zI t), .int (zI p2)]) (rest := []) ⟨hx, hb, hml, hown, hts⟩ (kX12_mayGo l D cy ad jf A y wh t p2 (by omega) (by omega) (by omega) i49 i50 i51) (cwV 3 hts gX12_brings_X12_mayGo rfl rfl rfl (by decide +kernel) ⟨by decide, by decide⟩) (g_preV (C := RX12) hG hC hS 8 (by decide) rfl rfl) rfl rfl hl.1 rfl (lv_room (Nat.le_of_ble_eq_true rfl)) dX12_brings_59 ⟨Nat.le_of_ble_eq_true rfl, Nat.le_of_ble_eq_true rfl⟩) hS (fun r28 u29 H locs p_30 hG hS => ?_)
                    obtain ⟨⟨b31, rfl, q_32⟩, he_⟩ := p_30
                    rw [he_] at hG; clear he_
                    have hbb31 : 0 ≤ b31 ∧ b31 ≤ 1 := by rcases q_32 with ⟨h, _⟩ | ⟨h, _⟩ <;> omega
                    refine z_if_ne (tgt := 68) hx hb dX12_brings_62 (by decide) (by omega) (by omega) (fun c_33 => ?_) (fun c_33 => ?_)
                    · have hcw : mCan u wh.toNat t.toNat = true := (mCan_i u (by omega) (by omega)).mpr (by omega)
                      have hadd := BfQ_add (e := t.toNat) (wh := wh) hbq ⟨by omega, by omega⟩ (by omega) (by omega) hcw hgw (BfO_wh hbo (by omega))
                      have hq16 := BfQ_q hadd (by omega)
                      refine lv_aload_n hx hb dX12_brings_68 rfl (lv_at hl 4 rfl) ?_
                      refine g_get (C := RX12) (T := TX12) (N := 42) (ci := 11) hx hb hts (fun _ h => (List.mem_cons_of_mem _ (List.mem_append_right _ h))) hown hC.1 hG 8 (by decide) rfl rfl 33 (by decide) (hts (.fieldLink RX12 93 "StraitSwimModel" "triedDay" "[Z") (List.mem_cons_of_mem _ (List.mem_append_left _ (List.mem_of_getElem? (i := 0) rfl)))) (fun _ h9 => h9) rfl dX12_brings_69 ?_
                      refine lv_iload hx hb dX12_brings_72 (lv_at hl 0 rfl) ?_
                      refine z_iconst hx hb dX12_brings_74 ?_
                      refine g_zast (n := 16) hx hb hC.1 hG hS 55 (by decide) (by omega) rfl rfl (by omega) (by omega) (by decide) dX12_brings_75 (fun u34 H locs hu34 hG hS => ?_)
                      refine lv_aload_n hx hb dX12_brings_76 rfl (lv_at hl 4 rfl) ?_
                      refine g_get (C := RX12) (T := TX12) (N := 42) (ci := 11) hx hb hts (fun _ h => (List.mem_cons_of_mem _ (List.mem_append_right _ h))) hown hC.1 hG 8 (by decide) rfl rfl 34 (by decide) (hts (.fieldLink RX12 96 "StraitSwimModel" "comesBy" "[I") (List.mem_cons_of_mem _ (List.mem_append_left _ (List.mem_of_getElem? (i := 1) rfl)))) (fun _ h9 => h9) rfl dX12_brings_77 ?_
                      refine lv_iload hx hb dX12_brings_80 (lv_at hl 0 rfl) ?_
                      refine lv_iload hx hb dX12_brings_82 (lv_at hl 1 rfl) ?_
                      refine g_iast (n := 16) hx hb hC.1 hG hS 56 (by decide) rfl rfl (by omega) (by omega) (by decide) dX12_brings_84 (fun u35 H locs hu35 hG hS => ?_)
                      refine lv_aload_n hx hb dX12_brings_85 rfl (lv_at hl 4 rfl) ?_
                      refine g_get (C := RX12) (T := TX12) (N := 42) (ci := 11) hx hb hts (fun _ h => (List.mem_cons_of_mem _ (List.mem_append_right _ h))) hown hC.1 hG 8 (by decide) rfl rfl 35 (by decide) (hts (.fieldLink RX12 99 "StraitSwimModel" "queue" "[I") (List.mem_cons_of_mem _ (List.mem_append_left _ (List.mem_of_getElem? (i := 2) rfl)))) (fun _ h9 => h9) rfl dX12_brings_86 ?_
                      refine lv_iload hx hb dX12_brings_89 (lv_at hl 3 rfl) ?_
                      refine lv_iload hx hb dX12_brings_91 (lv_at hl 0 rfl) ?_
                      refine g_iast (n := 16) hx hb hC.1 hG hS 57 (by decide) rfl rfl (by omega) (by omega) (by decide) dX12_brings_93 (fun u36 H locs hu36 hG hS => ?_)
                      refine z_iinc (lv' := [(4, .int (zI (q2 + 1))), (7, .int (zI t)), (6, .int (zI wh)), (5, .int (zI lk)), (0, .ref (ad 8)), (1, .int (zI p1)), (2, .int (zI p2)), (3, .int (zI p3))]) hx hb dX12_brings_94 hl (k := 3) rfl (by decide) rfl (fun ls hl => ?_)
                      refine z_iinc (lv' := [(7, .int (zI (t + 1))), (4, .int (zI (q2 + 1))), (6, .int (zI wh)), (5, .int (zI lk)), (0, .ref (ad 8)), (1, .int (zI p1)), (2, .int (zI p2)), (3, .int (zI p3))]) hx hb dX12_brings_97 hl (k := 1) rfl (by decide) rfl (fun ls hl => ?_)
                      refine lv_goto (tgt := 36) hx hb dX12_brings_100 (by decide) ?_
                      exact ih36 (q2 + 1) (t + 1) u36 _ _ _ (by omega) (by omega) (by omega) (by exact ⟨va_up A9 t.toNat 1, va_up B9 t.toNat wh, va_up C9 q2.toNat ((t.toNat : Nat) : Int), (by rw [show ((t.toNat : Nat) : Int) = t by omega]; subst hu36; subst hu35; subst hu34; subst hy0; rw [mNp_55, mNp_56, mNp_57]; rfl), z01_up h01, (by rw [show (q2 + 1).toNat = q2.toNat + 1 by omega]; exact hadd), BfO_add hbo (by omega), (by rw [show (t + 1).toNat = t.toNat + 1 by omega]; exact part_up hpt)⟩) hG hS (lv_sub hl [0, 2, 3, 1, 4, 5, 6, 7] rfl)
                    · refine lv_goto (tgt := 97) hx hb dX12_brings_65 (by decide) ?_
                      refine z_iinc (lv' := [(7, .int (zI (t + 1))), (6, .int (zI wh)), (5, .int (zI lk)), (4, .int (zI q2)), (0, .ref (ad 8)), (1, .int (zI p1)), (2, .int (zI p2)), (3, .int (zI p3))]) hx hb dX12_brings_97 hl (k := 0) rfl (by decide) rfl (fun ls hl => ?_)
                      refine lv_goto (tgt := 36) hx hb dX12_brings_100 (by decide) ?_
                      exact ih36 q2 (t + 1) y _ _ _ (by omega) (by omega) (by omega) (by exact ⟨A9, B9, C9, hy0, h01, hbq, hbo, (by rw [show (t + 1).toNat = t.toNat + 1 by omega]; exact part_sk hpt (fun hc => by have h1 := (mCan_i u (by omega) (by omega)).mp hc; have h2 := (mGone_i u p2 wh.toNat).mp hgw; exfalso; omega))⟩) hG hS (lv_sub hl [0, 1, 2, 3, 4, 5, 6, 7] rfl)
            exact loop36 _ q p3 x _ _ _ (Nat.lt_succ_self _) (by omega) (by omega) (by exact ⟨A9, B9, C9, hy0, h01, hbq, hbo, (fun f hf h _ => by have := hf.1; exfalso; omega)⟩) hG hS (lv_sub hl [0, 1, 2, 3, 4, 5, 6, 7] rfl)
        exact loop33 _ 0 0 p1 w _ _ _ (Nat.lt_succ_self _) (by omega) (by exact ⟨f, _, _, hw0.trans (mNp_1 u f), (fun e he => Or.inl (hf e (by omega))), BfQ_0 (fun e he => hf e (by have := he.2; omega)), ⟨(fun i hi => absurd hi (Nat.not_lt_zero i)), Or.inl ⟨rfl, rfl⟩⟩, (by omega), hg1⟩) hG hS (lv_sub hl [0, 1, 2, 3, 4, 5, 6] rfl)
      · refine lv_aload_n hx hb dX12_brings_10 rfl (lv_at hl 1 rfl) ?_
        refine g_get (C := RX12) (T := TX12) (N := 42) (ci := 11) hx hb hts (fun _ h => (List.mem_cons_of_mem _ (List.mem_append_right _ h))) hown hC.1 hG 8 (by decide) rfl rfl 33 (by decide) (hts (.fieldLink RX12 93 "StraitSwimModel" "triedDay" "[Z") (List.mem_cons_of_mem _ (List.mem_append_left _ (List.mem_of_getElem? (i := 0) rfl)))) (fun _ h9 => h9) rfl dX12_brings_11 ?_
        refine lv_iload hx hb dX12_brings_14 (lv_at hl 0 rfl) ?_
        refine z_iconst hx hb dX12_brings_16 ?_
        refine g_zast (n := 16) hx hb hC.1 hG hS 55 (by decide) (by omega) rfl rfl (by omega) (by omega) (by decide) dX12_brings_17 (fun u37 H locs hu37 hG hS => ?_)
        refine z_iinc (lv' := [(4, .int (zI (t + 1))), (0, .ref (ad 8)), (1, .int (zI p1)), (2, .int (zI p2)), (3, .int (zI p3))]) hx hb dX12_brings_18 hl (k := 0) rfl (by decide) rfl (fun ls hl => ?_)
        refine lv_goto (tgt := 3) hx hb dX12_brings_21 (by decide) ?_
        exact ih3 (t + 1) u37 _ _ _ (by omega) (by omega) (by subst hu37; subst hw0; exact ⟨_, (by simp only [sF, up_up]; rfl), fill_st ht.1 (fun j hj => by rw [up_s]; exact hf j hj)⟩) hG hS (lv_sub hl [0, 1, 2, 3, 4] rfl)
  exact loop3 _ 0 u _ _ _ (Nat.lt_succ_self _) (by omega) (by exact ⟨u.2.1 55, (by simp only [sF]; rw [up_self]), (fun j hj => by exfalso; omega)⟩) hG hS (lv_sub hl [0, 1, 2, 3, 4] rfl)
