theorem spCnt_acc (F : Nat → Int) (m : Int) : ∀ (n : Nat) (c k : Int), spCnt F m n c k = k + spCnt F m n c 0
  | 0, c, k => by
    unfold spCnt
    omega
  | n + 1, c, k => by
    have e1 := spCnt_acc F m n (c + 1) (k + 0)
    have e2 := spCnt_acc F m n (c + 1) (k + 1)
    have e3 := spCnt_acc F m n (c + 1) (0 + 0)
    have e4 := spCnt_acc F m n (c + 1) (0 + 1)
    unfold spCnt
    by_cases h1 : c < m
    · rw [if_pos h1, if_pos h1]
      by_cases h2 : F c.toNat = 0
      · rw [if_pos h2, if_pos h2]
        omega
      · rw [if_neg h2, if_neg h2]
        omega
    · rw [if_neg h1, if_neg h1]
      omega
theorem spCnt_hi {F G : Nat → Int} {m : Int} : ∀ (n : Nat) (c k : Int), (∀ j : Nat, c ≤ (j : Int) → (j : Int) < m → F j = G j) → 0 ≤ c → spCnt F m n c k = spCnt G m n c k
  | 0, c, k, _, _ => rfl
  | n + 1, c, k, h, h0 => by
    unfold spCnt
    by_cases h1 : c < m
    · rw [if_pos h1, if_pos h1, h c.toNat (by omega) (by omega)]
      rw [spCnt_hi n (c + 1) (k + 0) (fun j a b => h j (by omega) b) (by omega), spCnt_hi n (c + 1) (k + 1) (fun j a b => h j (by omega) b) (by omega)]
    · rw [if_neg h1, if_neg h1]
theorem spCnt_up {F : Nat → Int} {m b : Int} {i : Nat} (hm : (i : Int) < m) : ∀ (n : Nat) (c k : Int), 0 ≤ c → c ≤ (i : Int) → (i : Int) < c + (n : Int) → spCnt (va_up F i b) m n c k = spCnt F m n c k + (if b = 0 then 0 else 1) - (if F i = 0 then 0 else 1)
  | 0, c, k, h0, h1, h2 => by omega
  | n + 1, c, k, h0, h1, h2 => by
    unfold spCnt
    rw [if_pos (show c < m by omega), if_pos (show c < m by omega)]
    by_cases hc : c.toNat = i
    · rw [hc, up_s]
      have e : ∀ q, spCnt (va_up F i b) m n (c + 1) q = spCnt F m n (c + 1) q := fun q => spCnt_hi n (c + 1) q (fun j a1 a2 => up_n _ _ (by omega)) (by omega)
      rw [e, e]
      have a1 := spCnt_acc F m n (c + 1) (k + 0)
      have a2 := spCnt_acc F m n (c + 1) (k + 1)
      by_cases hb : b = 0
      · rw [if_pos hb, if_pos hb]
        by_cases hF : F i = 0
        · rw [if_pos hF, if_pos hF]
          omega
        · rw [if_neg hF, if_neg hF]
          omega
      · rw [if_neg hb, if_neg hb]
        by_cases hF : F i = 0
        · rw [if_pos hF, if_pos hF]
          omega
        · rw [if_neg hF, if_neg hF]
          omega
    · rw [up_n _ _ hc]
      by_cases hF : F c.toNat = 0
      · rw [if_pos hF, if_pos hF]
        exact spCnt_up hm n (c + 1) (k + 0) (by omega) (by omega) (by omega)
      · rw [if_neg hF, if_neg hF]
        exact spCnt_up hm n (c + 1) (k + 1) (by omega) (by omega) (by omega)
theorem land_eq {row to b : Int} (hb : b = 0 ∨ b = 1) (hr : 0 ≤ row ∧ row ≤ 11) (ht : to ≤ 23) : ∀ (n : Nat) (c k : Int) (w m : gS), 0 ≤ c → (∀ j, j < 288 → w.2.1 9 j = m.2.1 31 j) → (∀ j, j < 288 → m.2.1 31 j = 0 ∨ m.2.1 31 j = 1) → ∃ X Y : Nat → Int, cRaiseL row to b n c k w = ((mLandL row to b n c k m).1, sF w 9 X) ∧ (mLandL row to b n c k m).2 = sF m 31 Y ∧ (∀ j, j < 288 → X j = Y j) ∧ (∀ j, j < 288 → Y j = 0 ∨ Y j = 1) ∧ spCnt Y 288 289 0 0 = spCnt (m.2.1 31) 288 289 0 0 + (if b = 0 then -((mLandL row to b n c k m).1 - k) else (mLandL row to b n c k m).1 - k)
  | 0, c, k, w, m, _, h1, h2 => ⟨w.2.1 9, m.2.1 31, by rw [sF_self]; rfl, by rw [sF_self]; rfl, h1, h2, by
      show _ = _ + (if b = 0 then -(k - k) else k - k)
      split <;> omega⟩
  | n + 1, c, k, w, m, h0, h1, h2 => by
    by_cases hc : c ≤ to
    · have ei : (row * 24 + c).toNat = (24 * row + c).toNat := by omega
      have hi : (24 * row + c).toNat < 288 := by omega
      have hcnt := spCnt_up (F := m.2.1 31) (m := 288) (b := b) (i := (24 * row + c).toNat) (by omega) 289 0 0 (by omega) (by omega) (by omega)
      have hup : ∀ j, j < 288 → va_up (m.2.1 31) (24 * row + c).toNat b j = 0 ∨ va_up (m.2.1 31) (24 * row + c).toNat b j = 1 := up_b h2 hb
      have e9 := h1 _ hi
      by_cases he : m.2.1 31 (24 * row + c).toNat = b
      · have ec : cRaiseL row to b (n + 1) c k w = cRaiseL row to b n (c + 1) k w := by
          show (if c ≤ to then _ else _) = _
          rw [if_pos hc, if_pos (by rw [ei, e9]; exact he)]
        have em : mLandL row to b (n + 1) c k m = mLandL row to b n (c + 1) k (sF m 31 (va_up (m.2.1 31) (24 * row + c).toNat b)) := by
          show (if c ≤ to then _ else _) = _
          rw [if_pos hc, if_pos he, Int.add_zero]
        obtain ⟨X, Y, a1, a2, a3, a4, a5⟩ := land_eq hb hr ht n (c + 1) k w (sF m 31 (va_up (m.2.1 31) (24 * row + c).toNat b)) (by omega) (fun j hj => by
          show _ = va_up (m.2.1 31) (24 * row + c).toNat b j
          rw [up_at he]
          exact h1 j hj) hup
        rw [ec, em]
        refine ⟨X, Y, a1, a2.trans ?_, a3, a4, a5.trans ?_⟩
        · simp only [sF, up_up]
        · show spCnt (va_up (m.2.1 31) (24 * row + c).toNat b) 288 289 0 0 + _ = _
          rw [up_at he]
      · have ec : cRaiseL row to b (n + 1) c k w = cRaiseL row to b n (c + 1) (k + 1) (sF w 9 (va_up (w.2.1 9) (24 * row + c).toNat b)) := by
          show (if c ≤ to then _ else _) = _
          rw [if_pos hc, if_neg (by rw [ei, e9]; exact he), ei]
        have em : mLandL row to b (n + 1) c k m = mLandL row to b n (c + 1) (k + 1) (sF m 31 (va_up (m.2.1 31) (24 * row + c).toNat b)) := by
          show (if c ≤ to then _ else _) = _
          rw [if_pos hc, if_neg he]
        obtain ⟨X, Y, a1, a2, a3, a4, a5⟩ := land_eq hb hr ht n (c + 1) (k + 1) (sF w 9 (va_up (w.2.1 9) (24 * row + c).toNat b)) (sF m 31 (va_up (m.2.1 31) (24 * row + c).toNat b)) (by omega) (fun j hj => by
          show va_up (w.2.1 9) (24 * row + c).toNat b j = va_up (m.2.1 31) (24 * row + c).toNat b j
          unfold va_up
          split
          · rfl
          · exact h1 j hj) hup
        rw [ec, em]
        refine ⟨X, Y, a1.trans ?_, a2.trans ?_, a3, a4, a5.trans ?_⟩
        · simp only [sF, up_up]
        · simp only [sF, up_up]
        · show spCnt (va_up (m.2.1 31) (24 * row + c).toNat b) 288 289 0 0 + _ = _
          have h3 := h2 _ hi
          rw [hcnt]
          by_cases hb0 : b = 0
          · rw [if_pos hb0, if_pos hb0, if_pos hb0, if_neg (by omega)]
            omega
          · rw [if_neg hb0, if_neg hb0, if_neg hb0, if_pos (by omega)]
            omega
    · have ec : cRaiseL row to b (n + 1) c k w = (k, w) := if_neg hc
      have em : mLandL row to b (n + 1) c k m = (k, m) := if_neg hc
      rw [ec, em]
      exact ⟨w.2.1 9, m.2.1 31, by rw [sF_self], by rw [sF_self], h1, h2, by
        show _ = _ + (if b = 0 then -(k - k) else k - k)
        split <;> omega⟩
theorem re_land {cy : Nat → ClassId} {u : gS} (h : Rel cy u) (p1 p2 p3 p4 : Int) (hb : p4 = 0 ∨ p4 = 1) : sM u (cLand u p1 p2 p3 p4).2 ∧ (cLand u p1 p2 p3 p4).1 = (mLand (cLand u p1 p2 p3 p4).2 p1 p2 p3 p4).1 ∧ Rel cy (mLand (cLand u p1 p2 p3 p4).2 p1 p2 p3 p4).2 := by
  by_cases hv : (0 ≤ p1 ∧ p1 ≤ 11) ∧ (0 ≤ p2 ∧ p2 ≤ 23) ∧ (p2 ≤ p3 ∧ p3 ≤ 23)
  · have c0 : cLand u p1 p2 p3 p4 = cRaise u p1 p2 p3 p4 := if_pos hv
    obtain ⟨X0, Y0, a1, -⟩ := land_eq hb hv.1 hv.2.2.2 25 p2 0 u u (by omega) h.f9 h.m.b31
    obtain ⟨z, hz⟩ : ∃ z : Int, z = (if p4 = 0 then (cRaiseL p1 p3 p4 25 p2 0 u).2.1 4 + -(cRaiseL p1 p3 p4 25 p2 0 u).1 else (cRaiseL p1 p3 p4 25 p2 0 u).2.1 4 + (cRaiseL p1 p3 p4 25 p2 0 u).1) := ⟨_, rfl⟩
    have hv2 : cRaise u p1 p2 p3 p4 = ((cRaiseL p1 p3 p4 25 p2 0 u).1, sI (cRaiseL p1 p3 p4 25 p2 0 u).2 4 z) := by
      rw [hz]
      rfl
    obtain ⟨v, hv3⟩ : ∃ v : gS, v = sI (cRaiseL p1 p3 p4 25 p2 0 u).2 4 z := ⟨_, rfl⟩
    have v31 : v.2.1 31 = u.2.1 31 := by
      subst hv3
      exact congrArg (fun q : Int × gS => (sI q.2 4 z).2.1 31) a1
    obtain ⟨X, Y, b1, b2, b3, b4, b5⟩ := land_eq hb hv.1 hv.2.2.2 25 p2 0 u v (by omega) (by rw [v31]; exact h.f9) (by rw [v31]; exact h.m.b31)
    have m0 : mLand v p1 p2 p3 p4 = mLandL p1 p3 p4 25 p2 0 v := if_pos hv
    have v0 : v = sI (sF u 9 X) 4 z := by
      rw [hv3]
      exact congrArg (fun q : Int × gS => sI q.2 4 z) b1
    have z0 : z = if p4 = 0 then u.1 4 + -(mLandL p1 p3 p4 25 p2 0 v).1 else u.1 4 + (mLandL p1 p3 p4 25 p2 0 v).1 := by
      rw [hz]
      exact congrArg (fun q : Int × gS => if p4 = 0 then q.2.1 4 + -q.1 else q.2.1 4 + q.1) b1
    have e5 : z = spCnt Y 288 289 0 0 := by
      have e4 := h.e4
      rw [v31] at b5
      rw [z0, b5]
      by_cases h0 : p4 = 0
      · rw [if_pos h0, if_pos h0]
        omega
      · rw [if_neg h0, if_neg h0]
        omega
    have r0 : (cRaiseL p1 p3 p4 25 p2 0 u).1 = (mLandL p1 p3 p4 25 p2 0 v).1 := by rw [b1]
    rw [c0, hv2]
    show sM u (sI (cRaiseL p1 p3 p4 25 p2 0 u).2 4 z) ∧ (cRaiseL p1 p3 p4 25 p2 0 u).1 = (mLand (sI (cRaiseL p1 p3 p4 25 p2 0 u).2 4 z) p1 p2 p3 p4).1 ∧ Rel cy (mLand (sI (cRaiseL p1 p3 p4 25 p2 0 u).2 4 z) p1 p2 p3 p4).2
    rw [← hv3, m0]
    refine ⟨by rw [v0]; exact ((sM.rf u).f (by decide) X).i (by decide) z, r0, ?_⟩
    rw [b2, v0]
    exact ⟨⟨h.m.i21, h.m.i22, h.m.i23, h.m.i24, h.m.i25, h.m.i26, h.m.i27, h.m.i28, b4, h.m.i32, h.m.i33, h.m.i34, h.m.i35, h.m.i36, h.m.i37, h.m.i38, h.m.i39, h.m.i40, h.m.i41, h.m.i42, h.m.i43, h.m.i44, h.m.i45, h.m.i46, h.m.i47, h.m.i48, h.m.b49, h.m.i50, h.m.i51, h.m.i53, h.m.b54, h.m.z51, h.m.i58, h.m.i59, h.m.i60, h.m.i61, h.m.i62⟩, h.e0, h.e1, h.e2, h.e3, e5, h.c6, h.rd1, h.rd2, b3, h.f10, h.f11, h.c13, h.c14, h.lat, h.tal, h.c22, h.c23, h.c24, h.c18, h.b25, h.c26, h.c27, h.n, h.sw, h.sh, h.dS, h.sl, h.dB⟩
  · have c0 : cLand u p1 p2 p3 p4 = (-1, u) := if_neg hv
    have m0 : mLand u p1 p2 p3 p4 = (-1, u) := if_neg hv
    rw [c0]
    show sM u u ∧ (-1 : Int) = (mLand u p1 p2 p3 p4).1 ∧ Rel cy (mLand u p1 p2 p3 p4).2
    rw [m0]
    exact ⟨sM.rf u, rfl, h⟩
theorem re_isLand {cy : Nat → ClassId} {u : gS} (h : Rel cy u) (x y : Int) : spIsLand (u.2.1 9) x y = spIsLand (u.2.1 31) x y := by
  unfold spIsLand
  by_cases hv : (0 ≤ x ∧ x ≤ 239) ∧ (0 ≤ y ∧ y ≤ 119)
  · rw [if_pos hv, if_pos hv]
    exact h.f9 _ (by omega)
  · rw [if_neg hv, if_neg hv]
theorem re_tide {cy : Nat → ClassId} {u : gS} (h : Rel cy u) (p1 p2 p3 p4 : Int) : sM u (cTide u p1 p2 p3 p4).2 ∧ (cTide u p1 p2 p3 p4).1 = (mTide (cTide u p1 p2 p3 p4).2 p1 p2 p3 p4).1 ∧ Rel cy (mTide (cTide u p1 p2 p3 p4).2 p1 p2 p3 p4).2 := by
  by_cases hv : (0 ≤ p1 ∧ p1 ≤ 2) ∧ (0 ≤ p2 ∧ p2 ≤ 11) ∧ (-9 ≤ p3 ∧ p3 ≤ 9) ∧ (-9 ≤ p4 ∧ p4 ≤ 9)
  · have c0 : cTide u p1 p2 p3 p4 = cTurn u (p1 * 12 + p2) p3 p4 := if_pos hv
    have ei : p1 * 12 + p2 = 12 * p1 + p2 := by omega
    have hi : (12 * p1 + p2).toNat < 36 := by omega
    rw [c0, ei]
    have m0 : mTide (cTurn u (12 * p1 + p2) p3 p4).2 p1 p2 p3 p4 = (if u.2.1 32 (12 * p1 + p2).toNat = p3 ∧ u.2.1 33 (12 * p1 + p2).toNat = p4 then 0 else 1, sF (sF (sF (sF u 10 (va_up (u.2.1 10) (12 * p1 + p2).toNat p3)) 11 (va_up (u.2.1 11) (12 * p1 + p2).toNat p4)) 32 (va_up (u.2.1 32) (12 * p1 + p2).toNat p3)) 33 (va_up (u.2.1 33) (12 * p1 + p2).toNat p4)) := if_pos hv
    rw [m0]
    refine ⟨((sM.rf u).f (by decide) _).f (by decide) _, ?_, ?_⟩
    · show (if u.2.1 10 (12 * p1 + p2).toNat = p3 ∧ u.2.1 11 (12 * p1 + p2).toNat = p4 then (0 : Int) else 1) = _
      rw [h.f10 _ hi, h.f11 _ hi]
    · exact ⟨⟨h.m.i21, h.m.i22, h.m.i23, h.m.i24, h.m.i25, h.m.i26, h.m.i27, h.m.i28, h.m.b31, up_r h.m.i32 hv.2.2.1.1 hv.2.2.1.2, up_r h.m.i33 hv.2.2.2.1 hv.2.2.2.2, h.m.i34, h.m.i35, h.m.i36, h.m.i37, h.m.i38, h.m.i39, h.m.i40, h.m.i41, h.m.i42, h.m.i43, h.m.i44, h.m.i45, h.m.i46, h.m.i47, h.m.i48, h.m.b49, h.m.i50, h.m.i51, h.m.i53, h.m.b54, h.m.z51, h.m.i58, h.m.i59, h.m.i60, h.m.i61, h.m.i62⟩, h.e0, h.e1, h.e2, h.e3, h.e4, h.c6, h.rd1, h.rd2, h.f9, fun j hj => (by show va_up (u.2.1 10) _ p3 j = va_up (u.2.1 32) _ p3 j; unfold va_up; split <;> first | rfl | exact h.f10 j hj), fun j hj => (by show va_up (u.2.1 11) _ p4 j = va_up (u.2.1 33) _ p4 j; unfold va_up; split <;> first | rfl | exact h.f11 j hj), h.c13, h.c14, h.lat, h.tal, h.c22, h.c23, h.c24, h.c18, h.b25, h.c26, h.c27, h.n, h.sw, h.sh, h.dS, h.sl, h.dB⟩
  · have c0 : cTide u p1 p2 p3 p4 = (-1, u) := if_neg hv
    have m0 : mTide u p1 p2 p3 p4 = (-1, u) := if_neg hv
    rw [c0]
    show sM u u ∧ (-1 : Int) = (mTide u p1 p2 p3 p4).1 ∧ Rel cy (mTide u p1 p2 p3 p4).2
    rw [m0]
    exact ⟨sM.rf u, rfl, h⟩
theorem re_set {cy : Nat → ClassId} {u : gS} (h : Rel cy u) (p1 p2 : Int) : sM u (cSet u p1 p2).2 ∧ (cSet u p1 p2).1 = (mSet (cSet u p1 p2).2 p1 p2).1 ∧ Rel cy (mSet (cSet u p1 p2).2 p1 p2).2 := by
  by_cases hv : p1 = 0 ∧ 0 ≤ p2 ∧ p2 ≤ 20
  · have c0 : cSet u p1 p2 = (u.1 1, sI u 1 p2) := if_pos hv
    have m0 : mSet (sI u 1 p2) p1 p2 = (u.1 21, sI (sI u 1 p2) 21 p2) := if_pos hv
    rw [c0]
    show sM u (sI u 1 p2) ∧ u.1 1 = (mSet (sI u 1 p2) p1 p2).1 ∧ Rel cy (mSet (sI u 1 p2) p1 p2).2
    rw [m0]
    exact ⟨(sM.rf u).i (by decide) _, h.e1, ⟨⟨hv.2, h.m.i22, h.m.i23, h.m.i24, h.m.i25, h.m.i26, h.m.i27, h.m.i28, h.m.b31, h.m.i32, h.m.i33, h.m.i34, h.m.i35, h.m.i36, h.m.i37, h.m.i38, h.m.i39, h.m.i40, h.m.i41, h.m.i42, h.m.i43, h.m.i44, h.m.i45, h.m.i46, h.m.i47, h.m.i48, h.m.b49, h.m.i50, h.m.i51, h.m.i53, h.m.b54, h.m.z51, h.m.i58, h.m.i59, h.m.i60, h.m.i61, h.m.i62⟩, h.e0, rfl, h.e2, h.e3, h.e4, h.c6, h.rd1, h.rd2, h.f9, h.f10, h.f11, h.c13, h.c14, h.lat, h.tal, h.c22, h.c23, h.c24, h.c18, h.b25, h.c26, h.c27, h.n, h.sw, h.sh, h.dS, h.sl, h.dB⟩⟩
  · by_cases hv2 : p1 = 1 ∧ 1 ≤ p2 ∧ p2 ≤ 60
    · have c0 : cSet u p1 p2 = (u.1 2, sI u 2 p2) := (if_neg hv).trans (if_pos hv2)
      have m0 : mSet (sI u 2 p2) p1 p2 = (u.1 22, sI (sI u 2 p2) 22 p2) := (if_neg hv).trans (if_pos hv2)
      rw [c0]
      show sM u (sI u 2 p2) ∧ u.1 2 = (mSet (sI u 2 p2) p1 p2).1 ∧ Rel cy (mSet (sI u 2 p2) p1 p2).2
      rw [m0]
      exact ⟨(sM.rf u).i (by decide) _, h.e2, ⟨⟨h.m.i21, hv2.2, h.m.i23, h.m.i24, h.m.i25, h.m.i26, h.m.i27, h.m.i28, h.m.b31, h.m.i32, h.m.i33, h.m.i34, h.m.i35, h.m.i36, h.m.i37, h.m.i38, h.m.i39, h.m.i40, h.m.i41, h.m.i42, h.m.i43, h.m.i44, h.m.i45, h.m.i46, h.m.i47, h.m.i48, h.m.b49, h.m.i50, h.m.i51, h.m.i53, h.m.b54, h.m.z51, h.m.i58, h.m.i59, h.m.i60, h.m.i61, h.m.i62⟩, h.e0, h.e1, rfl, h.e3, h.e4, h.c6, h.rd1, h.rd2, h.f9, h.f10, h.f11, h.c13, h.c14, h.lat, h.tal, h.c22, h.c23, h.c24, h.c18, h.b25, h.c26, h.c27, h.n, h.sw, h.sh, h.dS, h.sl, h.dB⟩⟩
    · have c0 : cSet u p1 p2 = (-1, u) := (if_neg hv).trans (if_neg hv2)
      have m0 : mSet u p1 p2 = (-1, u) := (if_neg hv).trans (if_neg hv2)
      rw [c0]
      show sM u u ∧ (-1 : Int) = (mSet u p1 p2).1 ∧ Rel cy (mSet u p1 p2).2
      rw [m0]
      exact ⟨sM.rf u, rfl, h⟩
theorem re_pace {cy : Nat → ClassId} {u : gS} (h : Rel cy u) (s t w : Int) : cPace u (u.2.1 34) (u.2.1 35) (u.2.1 37) s t w = mPace u s t w := by
  unfold cPace mPace
  rw [h.e0, h.e1]
theorem re_count {cy : Nat → ClassId} {u : gS} (h : Rel cy u) (w : Int) : cCount u w = mCount u w := by
  have hb : jBit (u.1 18) = spCnt (u.2.1 49) 16 17 0 0 := by
    have h18 := h.c18
    obtain ⟨N, hN⟩ : ∃ N : Nat, u.1 18 = (N : Int) := ⟨(u.1 18).toNat, by omega⟩
    rw [hN]
    refine cnt_bits (by omega) (fun d hd => ?_)
    have h1 := h.n.1 d hd
    rw [hN, tb_nat (by omega)] at h1
    have h2 := h.m.b49 d hd
    have h3 : N / 2 ^ d % 2 = 0 ∨ N / 2 ^ d % 2 = 1 := by omega
    rcases h3 with h3 | h3
    · rw [h3] at h1 ⊢
      rcases h2 with h2 | h2
      · exact h2
      · rw [h2] at h1
        exact absurd h1 (by decide)
    · rw [h3] at h1 ⊢
      rcases h2 with h2 | h2
      · rw [h2] at h1
        exact absurd h1 (by decide)
      · exact h2
  unfold cCount mCount
  rw [h.e0, h.e4, h.e3, h.tal.1.1, h.tal.2.2.1, hb]
theorem re_weight {cy : Nat → ClassId} {u : gS} {SP LI FD : Nat → Int} (hw : ∀ d, d < 8 → u.2.1 58 d = 1 → cHeft (u.2.1 60 d) (SP d) (LI d) (FD d) = u.2.1 61 d) (p : Int) : cWeight (u.2.1 58) (u.2.1 60) SP LI FD p = mWeight u p := by
  unfold cWeight mWeight mNoSw
  by_cases hv : 0 ≤ p ∧ p ≤ 7
  · rw [if_pos hv, if_pos hv]
    by_cases h0 : u.2.1 58 p.toNat = 0
    · rw [if_pos h0, if_pos h0, if_pos (by omega)]
    · rw [if_neg h0, if_neg h0]
      by_cases h1 : u.2.1 58 p.toNat = 1
      · rw [if_pos h1, if_pos h1, if_neg (by omega)]
        exact hw _ (by omega) h1
      · rw [if_neg h1, if_neg h1, if_pos (by omega)]
  · rw [if_neg hv, if_neg hv, if_pos (by omega)]
theorem re_toss (u : gS) (p : Int) : cToss (u.2.1 58) (u.2.1 60) (u.2.1 59) p = mToss u p := by
  unfold cToss mToss mNoSw
  by_cases hv : 0 ≤ p ∧ p ≤ 7
  · rw [if_pos hv, if_pos hv]
    by_cases h0 : u.2.1 58 p.toNat = 0
    · rw [if_pos h0, if_pos h0, if_pos (by omega)]
    · rw [if_neg h0, if_neg h0]
      by_cases h1 : u.2.1 58 p.toNat = 1
      · rw [if_pos h1, if_pos h1, if_neg (show ¬ (0 : Int) < 0 by decide)]
      · rw [if_neg h1, if_neg h1, if_pos (by omega)]
  · rw [if_neg hv, if_neg hv, if_pos (by omega)]
theorem re_swimmer {cy : Nat → ClassId} {u : gS} (h : Rel cy u) {p1 p2 p3 : Int} {r : Int32} {v : gS} (hc : if (0 ≤ p1 ∧ p1 ≤ 3) ∧ (1 ≤ p2 ∧ p2 ≤ 20) ∧ (1 ≤ p3 ∧ p3 ≤ 400) then (if u.1 0 = 10 then r = zI (-2) ∧ v = u else r = zI (u.1 0) ∧ ∃ q, q ∉ u.2.2.2.1 ∧ v = cSwN u q p1 p2 p3) else r = zI (-1) ∧ v = u) : sM u v ∧ r = zI (mSwimmer v p1 p2 p3).1 ∧ Rel cy (mSwimmer v p1 p2 p3).2 := by
  have e0 := h.e0
  have i23 := h.m.i23
  by_cases hv : (0 ≤ p1 ∧ p1 ≤ 3) ∧ (1 ≤ p2 ∧ p2 ≤ 20) ∧ (1 ≤ p3 ∧ p3 ≤ 400)
  · rw [if_pos hv] at hc
    by_cases h10 : u.1 0 = 10
    · rw [if_pos h10] at hc
      obtain ⟨hr, hvu⟩ := hc
      subst hr
      subst hvu
      have m0 : mSwimmer v p1 p2 p3 = (-2, v) := (if_pos hv).trans (if_pos (by omega))
      rw [m0]
      exact ⟨sM.rf v, rfl, h⟩
    · rw [if_neg h10] at hc
      obtain ⟨hr, q, hq, hvu⟩ := hc
      subst hr
      subst hvu
      have h23 : ¬ u.1 23 = 10 := by omega
      have m0 : mSwimmer (cSwN u q p1 p2 p3) p1 p2 p3 = (u.1 23, (sI (sF (sF (sF (sF (sF (cSwN u q p1 p2 p3) 34 (va_up (u.2.1 34) (u.1 23).toNat p1)) 35 (va_up (u.2.1 35) (u.1 23).toNat p2)) 36 (va_up (u.2.1 36) (u.1 23).toNat p3)) 37 (va_up (u.2.1 37) (u.1 23).toNat 0)) 51 (va_up (u.2.1 51) (u.1 23).toNat 0)) 23 (u.1 23 + 1))) := (if_pos hv).trans (if_neg h23)
      rw [m0]
      have hp : pE u (sI (sF (sF (sF (sF (sF (cSwN u q p1 p2 p3) 34 (va_up (u.2.1 34) (u.1 23).toNat p1)) 35 (va_up (u.2.1 35) (u.1 23).toNat p2)) 36 (va_up (u.2.1 36) (u.1 23).toNat p3)) 37 (va_up (u.2.1 37) (u.1 23).toNat 0)) 51 (va_up (u.2.1 51) (u.1 23).toNat 0)) 23 (u.1 23 + 1)) := pE_push hq rfl rfl
      have e51 : va_up (u.2.1 51) (u.1 23).toNat 0 = u.2.1 51 := up_at (h.m.z51 _ (by omega) (by omega))
      refine ⟨⟨fun i hi => (up_n (f := u.1) (k := 0) (v := u.1 0 + 1) (j := i) (by omega)), fun _ _ => rfl⟩, by rw [e0], ?_⟩
      exact ⟨⟨h.m.i21, h.m.i22, ⟨(by show 0 ≤ u.1 23 + 1; omega), (by show u.1 23 + 1 ≤ 10; omega)⟩, h.m.i24, h.m.i25, h.m.i26, h.m.i27, h.m.i28, h.m.b31, h.m.i32, h.m.i33, up_r h.m.i34 hv.1.1 hv.1.2, up_r h.m.i35 (by omega) hv.2.1.2, up_r h.m.i36 (by omega) hv.2.2.2, up_r h.m.i37 (by omega) (by omega), h.m.i38, h.m.i39, h.m.i40, h.m.i41, h.m.i42, h.m.i43, h.m.i44, h.m.i45, h.m.i46, h.m.i47, h.m.i48, h.m.b49, h.m.i50, up_r h.m.i51 (by omega) (by omega), h.m.i53, h.m.b54, fun j h1 h2 => (by show va_up (u.2.1 51) (u.1 23).toNat 0 j = 0; rw [e51]; exact h.m.z51 j (by have h1 : u.1 23 + 1 ≤ (j : Int) := h1; omega) h2), h.m.i58, h.m.i59, h.m.i60, h.m.i61, h.m.i62⟩, (by show u.1 0 + 1 = u.1 23 + 1; omega), h.e1, h.e2, h.e3, h.e4, h.c6, h.rd1, h.rd2, h.f9, h.f10, h.f11, h.c13, h.c14, h.lat, h.tal, h.c22, h.c23, h.c24, h.c18, h.b25, h.c26, h.c27, (by
        obtain ⟨n1, n2, n3⟩ := h.n
        refine ⟨n1, fun s hs => ?_, fun s hs => ?_⟩
        · show u.2.1 25 s = 1 ↔ 0 < va_up (u.2.1 51) (u.1 23).toNat 0 s
          rw [e51]
          exact n2 s hs
        · show u.2.1 26 s = u.2.1 50 s ∧ u.2.1 27 s = va_up (u.2.1 51) (u.1 23).toNat 0 s ∧ u.2.1 28 s = u.2.1 52 s
          rw [e51]
          exact n3 s hs), fun j hj => (by
        have hj : (j : Int) < u.1 0 + 1 := hj
        by_cases hj0 : (j : Int) < u.1 0
        · obtain ⟨a, ha⟩ := h.sw j hj0
          have hne : j ≠ (u.1 23).toNat := by omega
          have hx : swAt (sI (sF (sF (sF (sF (sF (cSwN u q p1 p2 p3) 34 (va_up (u.2.1 34) (u.1 23).toNat p1)) 35 (va_up (u.2.1 35) (u.1 23).toNat p2)) 36 (va_up (u.2.1 36) (u.1 23).toNat p3)) 37 (va_up (u.2.1 37) (u.1 23).toNat 0)) 51 (va_up (u.2.1 51) (u.1 23).toNat 0)) 23 (u.1 23 + 1)) j a (u.2.1 34 j) (u.2.1 35 j) (u.2.1 36 j) (u.2.1 37 j) := ha.ext (up_n (f := u.2.2.1 12) (k := (u.1 0).toNat) (v := some q) (j := j) (by omega)) (hp a ha.2.1)
          refine ⟨a, ?_⟩
          show swAt (sI (sF (sF (sF (sF (sF (cSwN u q p1 p2 p3) 34 (va_up (u.2.1 34) (u.1 23).toNat p1)) 35 (va_up (u.2.1 35) (u.1 23).toNat p2)) 36 (va_up (u.2.1 36) (u.1 23).toNat p3)) 37 (va_up (u.2.1 37) (u.1 23).toNat 0)) 51 (va_up (u.2.1 51) (u.1 23).toNat 0)) 23 (u.1 23 + 1)) j a (va_up (u.2.1 34) (u.1 23).toNat p1 j) (va_up (u.2.1 35) (u.1 23).toNat p2 j) (va_up (u.2.1 36) (u.1 23).toNat p3 j) (va_up (u.2.1 37) (u.1 23).toNat 0 j)
          rw [up_n (u.2.1 34) p1 hne, up_n (u.2.1 35) p2 hne, up_n (u.2.1 36) p3 hne, up_n (u.2.1 37) 0 hne]
          exact hx
        · have ej : j = (u.1 0).toNat := by omega
          have en : (u.1 23).toNat = j := by omega
          have ec : (j : Int) = u.1 0 := by omega
          refine ⟨q, ?_⟩
          show swAt (sI (sF (sF (sF (sF (sF (cSwN u q p1 p2 p3) 34 (va_up (u.2.1 34) (u.1 23).toNat p1)) 35 (va_up (u.2.1 35) (u.1 23).toNat p2)) 36 (va_up (u.2.1 36) (u.1 23).toNat p3)) 37 (va_up (u.2.1 37) (u.1 23).toNat 0)) 51 (va_up (u.2.1 51) (u.1 23).toNat 0)) 23 (u.1 23 + 1)) j q (va_up (u.2.1 34) (u.1 23).toNat p1 j) (va_up (u.2.1 35) (u.1 23).toNat p2 j) (va_up (u.2.1 36) (u.1 23).toNat p3 j) (va_up (u.2.1 37) (u.1 23).toNat 0 j)
          rw [show va_up (u.2.1 34) (u.1 23).toNat p1 j = p1 by rw [en, up_s], show va_up (u.2.1 35) (u.1 23).toNat p2 j = p2 by rw [en, up_s], show va_up (u.2.1 36) (u.1 23).toNat p3 j = p3 by rw [en, up_s], show va_up (u.2.1 37) (u.1 23).toNat 0 j = 0 by rw [en, up_s]]
          refine ⟨?_, List.mem_append_right _ List.mem_cons_self, ?_, hv.1, ⟨by omega, by omega⟩, ⟨by omega, by omega⟩, ⟨by omega, by omega⟩⟩
          · show va_up (u.2.2.1 12) (u.1 0).toNat (some q) j = some q
            rw [← ej, up_s]
          · show va_up u.2.2.2.2 q (.inr (kc p1, [.int (zI (u.1 0)), .int (zI p2), .int (zI p3), .int (zI 0)])) q = .inr (kc p1, [.int (zI (j : Int)), .int (zI p2), .int (zI p3), .int (zI 0)])
            rw [up_s, ec]), fun j hj => (by obtain ⟨a, ha⟩ := h.sh j hj; exact ⟨a, ha.ext rfl (hp a ha.2.1)⟩), fun j d a hj hd h1 h2 => (by
        have hj : (j : Int) < u.1 0 + 1 := hj
        have h2 : u.2.2.1 30 d = some a := h2
        have h1 : va_up (u.2.2.1 12) (u.1 0).toNat (some q) j = some a := h1
        by_cases hj0 : (j : Int) < u.1 0
        · rw [up_n _ _ (show j ≠ (u.1 0).toNat by omega)] at h1
          exact h.dS j d a hj0 hd h1 h2
        · rw [show j = (u.1 0).toNat by omega, up_s] at h1
          cases h1
          exact hq ((h.sl d hd).mem h2)), fun d hd => (h.sl d hd).ext rfl hp rfl rfl rfl rfl rfl (fun _ _ => rfl), h.dB.ext h.sl rfl hp⟩
  · rw [if_neg hv] at hc
    obtain ⟨hr, hvu⟩ := hc
    subst hr
    subst hvu
    have m0 : mSwimmer v p1 p2 p3 = (-1, v) := if_neg hv
    rw [m0]
    exact ⟨sM.rf v, rfl, h⟩
theorem kc_6 (k : Int) : kc k ≠ 6 := by
  unfold kc
  (repeat' split) <;> decide
theorem re_feed {cy : Nat → ClassId} {u : gS} (h : Rel cy u) {p1 p2 : Int} {r : Int32} {v : gS} (hc : if (0 ≤ p1 ∧ p1 ≤ u.1 0 - 1) ∧ (0 ≤ p2 ∧ p2 ≤ 40) then r = zI (u.2.1 37 p1.toNat) ∧ ∃ a, u.2.2.1 12 p1.toNat = some a ∧ v = sP u u.2.2.2.1 (va_up u.2.2.2.2 a (.inr (kc (u.2.1 34 p1.toNat), [.int (zI (p1.toNat : Int)), .int (zI (u.2.1 35 p1.toNat)), .int (zI (u.2.1 36 p1.toNat)), .int (zI p2)]))) else r = zI (-1) ∧ v = u) : sM u v ∧ r = zI (mFeed v p1 p2).1 ∧ Rel cy (mFeed v p1 p2).2 := by
  have e0 := h.e0
  have i23 := h.m.i23
  by_cases hv : (0 ≤ p1 ∧ p1 ≤ u.1 0 - 1) ∧ (0 ≤ p2 ∧ p2 ≤ 40)
  · rw [if_pos hv] at hc
    obtain ⟨hr, a, ha, hvu⟩ := hc
    subst hr
    subst hvu
    have hv' : (0 ≤ p1 ∧ p1 ≤ u.1 23 - 1) ∧ (0 ≤ p2 ∧ p2 ≤ 40) := by rw [← e0]; exact hv
    have m0 : mFeed (sP u u.2.2.2.1 (va_up u.2.2.2.2 a (.inr (kc (u.2.1 34 p1.toNat), [.int (zI (p1.toNat : Int)), .int (zI (u.2.1 35 p1.toNat)), .int (zI (u.2.1 36 p1.toNat)), .int (zI p2)])))) p1 p2 = (u.2.1 37 p1.toNat, (sF (sP u u.2.2.2.1 (va_up u.2.2.2.2 a (.inr (kc (u.2.1 34 p1.toNat), [.int (zI (p1.toNat : Int)), .int (zI (u.2.1 35 p1.toNat)), .int (zI (u.2.1 36 p1.toNat)), .int (zI p2)])))) 37 (va_up (u.2.1 37) p1.toNat p2))) := if_pos hv'
    rw [m0]
    have hjp : ((p1.toNat : Nat) : Int) < u.1 0 := by omega
    obtain ⟨a1, hs⟩ := h.sw p1.toNat hjp
    have ea : a1 = a := Option.some.inj (hs.1.symm.trans ha)
    subst ea
    have hoth : ∀ x, x ≠ a1 → x ∈ u.2.2.2.1 → x ∈ (sF (sP u u.2.2.2.1 (va_up u.2.2.2.2 a1 (.inr (kc (u.2.1 34 p1.toNat), [.int (zI (p1.toNat : Int)), .int (zI (u.2.1 35 p1.toNat)), .int (zI (u.2.1 36 p1.toNat)), .int (zI p2)])))) 37 (va_up (u.2.1 37) p1.toNat p2)).2.2.2.1 ∧ (sF (sP u u.2.2.2.1 (va_up u.2.2.2.2 a1 (.inr (kc (u.2.1 34 p1.toNat), [.int (zI (p1.toNat : Int)), .int (zI (u.2.1 35 p1.toNat)), .int (zI (u.2.1 36 p1.toNat)), .int (zI p2)])))) 37 (va_up (u.2.1 37) p1.toNat p2)).2.2.2.2 x = u.2.2.2.2 x := fun x hx hm => ⟨hm, up_n u.2.2.2.2 _ hx⟩
    refine ⟨⟨fun _ _ => rfl, fun _ _ => rfl⟩, rfl, ?_⟩
    exact ⟨⟨h.m.i21, h.m.i22, h.m.i23, h.m.i24, h.m.i25, h.m.i26, h.m.i27, h.m.i28, h.m.b31, h.m.i32, h.m.i33, h.m.i34, h.m.i35, h.m.i36, up_r h.m.i37 hv.2.1 hv.2.2, h.m.i38, h.m.i39, h.m.i40, h.m.i41, h.m.i42, h.m.i43, h.m.i44, h.m.i45, h.m.i46, h.m.i47, h.m.i48, h.m.b49, h.m.i50, h.m.i51, h.m.i53, h.m.b54, h.m.z51, h.m.i58, h.m.i59, h.m.i60, h.m.i61, h.m.i62⟩, h.e0, h.e1, h.e2, h.e3, h.e4, h.c6, h.rd1, h.rd2, h.f9, h.f10, h.f11, h.c13, h.c14, h.lat, h.tal, h.c22, h.c23, h.c24, h.c18, h.b25, h.c26, h.c27, h.n, fun j hj => (by
      have hj : (j : Int) < u.1 0 := hj
      obtain ⟨b, hb⟩ := h.sw j hj
      by_cases hjp2 : j = p1.toNat
      · subst hjp2
        have eb : b = a1 := Option.some.inj (hb.1.symm.trans ha)
        subst eb
        refine ⟨b, ha, hb.2.1, ?_, hb.2.2.2.1, hb.2.2.2.2.1, hb.2.2.2.2.2.1, ?_⟩
        · show va_up u.2.2.2.2 b (.inr (kc (u.2.1 34 p1.toNat), [.int (zI (p1.toNat : Int)), .int (zI (u.2.1 35 p1.toNat)), .int (zI (u.2.1 36 p1.toNat)), .int (zI p2)])) b = .inr (kc (u.2.1 34 p1.toNat), [.int (zI (p1.toNat : Int)), .int (zI (u.2.1 35 p1.toNat)), .int (zI (u.2.1 36 p1.toNat)), .int (zI (va_up (u.2.1 37) p1.toNat p2 p1.toNat))])
          rw [up_s, up_s]
        · show 0 ≤ va_up (u.2.1 37) p1.toNat p2 p1.toNat ∧ va_up (u.2.1 37) p1.toNat p2 p1.toNat ≤ 40
          rw [up_s]
          exact hv.2
      · have hbne : b ≠ a1 := fun e => by
          rw [e] at hb
          have e2 := hb.2.2.1.symm.trans hs.2.2.1
          simp only [Sum.inr.injEq, Prod.mk.injEq, List.cons.injEq, Value.int.injEq] at e2
          have e3 := (zI_eq (by omega) (by omega) (by omega) (by omega)).mp e2.2.1
          omega
        have hx : swAt (sF (sP u u.2.2.2.1 (va_up u.2.2.2.2 a1 (.inr (kc (u.2.1 34 p1.toNat), [.int (zI (p1.toNat : Int)), .int (zI (u.2.1 35 p1.toNat)), .int (zI (u.2.1 36 p1.toNat)), .int (zI p2)])))) 37 (va_up (u.2.1 37) p1.toNat p2)) j b (u.2.1 34 j) (u.2.1 35 j) (u.2.1 36 j) (u.2.1 37 j) := hb.ext rfl (hoth b hbne hb.2.1)
        refine ⟨b, ?_⟩
        show swAt (sF (sP u u.2.2.2.1 (va_up u.2.2.2.2 a1 (.inr (kc (u.2.1 34 p1.toNat), [.int (zI (p1.toNat : Int)), .int (zI (u.2.1 35 p1.toNat)), .int (zI (u.2.1 36 p1.toNat)), .int (zI p2)])))) 37 (va_up (u.2.1 37) p1.toNat p2)) j b (u.2.1 34 j) (u.2.1 35 j) (u.2.1 36 j) (va_up (u.2.1 37) p1.toNat p2 j)
        rw [up_n (u.2.1 37) p2 hjp2]
        exact hx), fun j hj => (by
      obtain ⟨b, hb⟩ := h.sh j hj
      refine ⟨b, hb.ext rfl (hoth b (fun e => ?_) hb.2.1)⟩
      rw [e] at hb
      have e2 := hb.2.2.1.symm.trans hs.2.2.1
      simp only [Sum.inr.injEq, Prod.mk.injEq] at e2
      exact kc_6 _ e2.1.symm), h.dS, fun d hd => (by
      obtain ⟨sp, li, fd, b, g, s1, s2, s3⟩ := h.sl d hd
      refine ⟨sp, li, fd, b, g, ?_, s2, s3⟩
      exact s1.ext rfl (fun x hx hm => hoth x (fun e => h.dS p1.toNat d x hjp hd (by rw [e]; exact ha) hx) hm) (fun x hx hE4 hm hEb => hoth b (fun e => by rw [e, hs.2.2.1] at hEb; cases hEb) hm)), fun d e hd he hne x x' k k' b h1 h2 h3 h4 => (by
      have g1 : x ≠ a1 := fun e9 => h.dS p1.toNat d x hjp hd (by rw [e9]; exact ha) h1
      have g2 : x' ≠ a1 := fun e9 => h.dS p1.toNat e x' hjp he (by rw [e9]; exact ha) h2
      exact h.dB d e hd he hne x x' k k' b h1 h2 ((up_n u.2.2.2.2 _ g1).symm.trans h3) ((up_n u.2.2.2.2 _ g2).symm.trans h4))⟩
  · rw [if_neg hv] at hc
    obtain ⟨hr, hvu⟩ := hc
    subst hr
    subst hvu
    have m0 : mFeed v p1 p2 = (-1, v) := if_neg (by rw [← e0]; exact hv)
    rw [m0]
    exact ⟨sM.rf v, rfl, h⟩
theorem re_ship {cy : Nat → ClassId} {u : gS} (h : Rel cy u) {p1 p2 p3 p4 : Int} {r : Int32} {v : gS} (hc : if ((0 ≤ p1 ∧ p1 ≤ 239) ∧ (0 ≤ p2 ∧ p2 ≤ 119)) ∧ (-20 ≤ p3 ∧ p3 ≤ 20) ∧ (-20 ≤ p4 ∧ p4 ≤ 20) then (if u.1 3 = 8 then r = zI (-2) ∧ v = u else r = zI (u.1 3) ∧ ∃ q, q ∉ u.2.2.2.1 ∧ v = cShipN u q p1 p2 p3 p4) else r = zI (-1) ∧ v = u) : sM u v ∧ r = zI (mShip v p1 p2 p3 p4).1 ∧ Rel cy (mShip v p1 p2 p3 p4).2 := by
  have e3 := h.e3
  have i25 := h.m.i25
  by_cases hv : ((0 ≤ p1 ∧ p1 ≤ 239) ∧ (0 ≤ p2 ∧ p2 ≤ 119)) ∧ (-20 ≤ p3 ∧ p3 ≤ 20) ∧ (-20 ≤ p4 ∧ p4 ≤ 20)
  · rw [if_pos hv] at hc
    by_cases h10 : u.1 3 = 8
    · rw [if_pos h10] at hc
      obtain ⟨hr, hvu⟩ := hc
      subst hr
      subst hvu
      have m0 : mShip v p1 p2 p3 p4 = (-2, v) := (if_pos hv).trans (if_pos (by omega))
      rw [m0]
      exact ⟨sM.rf v, rfl, h⟩
    · rw [if_neg h10] at hc
      obtain ⟨hr, q, hq, hvu⟩ := hc
      subst hr
      subst hvu
      have h23 : ¬ u.1 25 = 8 := by omega
      have m0 : mShip (cShipN u q p1 p2 p3 p4) p1 p2 p3 p4 = (u.1 25, (sI (sF (sF (sF (sF (cShipN u q p1 p2 p3 p4) 42 (va_up (u.2.1 42) (u.1 25).toNat p1)) 43 (va_up (u.2.1 43) (u.1 25).toNat p2)) 44 (va_up (u.2.1 44) (u.1 25).toNat p3)) 45 (va_up (u.2.1 45) (u.1 25).toNat p4)) 25 (u.1 25 + 1))) := (if_pos hv).trans (if_neg h23)
      rw [m0]
      have hp : pE u (sI (sF (sF (sF (sF (cShipN u q p1 p2 p3 p4) 42 (va_up (u.2.1 42) (u.1 25).toNat p1)) 43 (va_up (u.2.1 43) (u.1 25).toNat p2)) 44 (va_up (u.2.1 44) (u.1 25).toNat p3)) 45 (va_up (u.2.1 45) (u.1 25).toNat p4)) 25 (u.1 25 + 1)) := pE_push hq rfl rfl
      refine ⟨⟨fun i hi => (up_n (f := u.1) (k := 3) (v := u.1 3 + 1) (j := i) (by omega)), fun _ _ => rfl⟩, by rw [e3], ?_⟩
      exact ⟨⟨h.m.i21, h.m.i22, h.m.i23, h.m.i24, ⟨(by show 0 ≤ u.1 25 + 1; omega), (by show u.1 25 + 1 ≤ 8; omega)⟩, h.m.i26, h.m.i27, h.m.i28, h.m.b31, h.m.i32, h.m.i33, h.m.i34, h.m.i35, h.m.i36, h.m.i37, h.m.i38, h.m.i39, h.m.i40, h.m.i41, up_r h.m.i42 hv.1.1.1 hv.1.1.2, up_r h.m.i43 hv.1.2.1 (by omega), up_r h.m.i44 hv.2.1.1 hv.2.1.2, up_r h.m.i45 hv.2.2.1 hv.2.2.2, h.m.i46, h.m.i47, h.m.i48, h.m.b49, h.m.i50, h.m.i51, h.m.i53, h.m.b54, h.m.z51, h.m.i58, h.m.i59, h.m.i60, h.m.i61, h.m.i62⟩, h.e0, h.e1, h.e2, (by show u.1 3 + 1 = u.1 25 + 1; omega), h.e4, h.c6, h.rd1, h.rd2, h.f9, h.f10, h.f11, h.c13, h.c14, h.lat, h.tal, h.c22, h.c23, h.c24, h.c18, h.b25, h.c26, h.c27, h.n, fun j hj => (by obtain ⟨a, ha⟩ := h.sw j hj; exact ⟨a, ha.ext rfl (hp a ha.2.1)⟩), fun j hj => (by
        have hj : (j : Int) < u.1 3 + 1 := hj
        by_cases hj0 : (j : Int) < u.1 3
        · obtain ⟨a, ha⟩ := h.sh j hj0
          have hne : j ≠ (u.1 25).toNat := by omega
          have hx : shAt (sI (sF (sF (sF (sF (cShipN u q p1 p2 p3 p4) 42 (va_up (u.2.1 42) (u.1 25).toNat p1)) 43 (va_up (u.2.1 43) (u.1 25).toNat p2)) 44 (va_up (u.2.1 44) (u.1 25).toNat p3)) 45 (va_up (u.2.1 45) (u.1 25).toNat p4)) 25 (u.1 25 + 1)) j a (u.2.1 42 j) (u.2.1 43 j) (u.2.1 44 j) (u.2.1 45 j) := ha.ext (up_n (f := u.2.2.1 21) (k := (u.1 3).toNat) (v := some q) (j := j) (by omega)) (hp a ha.2.1)
          refine ⟨a, ?_⟩
          show shAt (sI (sF (sF (sF (sF (cShipN u q p1 p2 p3 p4) 42 (va_up (u.2.1 42) (u.1 25).toNat p1)) 43 (va_up (u.2.1 43) (u.1 25).toNat p2)) 44 (va_up (u.2.1 44) (u.1 25).toNat p3)) 45 (va_up (u.2.1 45) (u.1 25).toNat p4)) 25 (u.1 25 + 1)) j a (va_up (u.2.1 42) (u.1 25).toNat p1 j) (va_up (u.2.1 43) (u.1 25).toNat p2 j) (va_up (u.2.1 44) (u.1 25).toNat p3 j) (va_up (u.2.1 45) (u.1 25).toNat p4 j)
          rw [up_n (u.2.1 42) p1 hne, up_n (u.2.1 43) p2 hne, up_n (u.2.1 44) p3 hne, up_n (u.2.1 45) p4 hne]
          exact hx
        · have ej : j = (u.1 3).toNat := by omega
          have en : (u.1 25).toNat = j := by omega
          refine ⟨q, ?_⟩
          show shAt (sI (sF (sF (sF (sF (cShipN u q p1 p2 p3 p4) 42 (va_up (u.2.1 42) (u.1 25).toNat p1)) 43 (va_up (u.2.1 43) (u.1 25).toNat p2)) 44 (va_up (u.2.1 44) (u.1 25).toNat p3)) 45 (va_up (u.2.1 45) (u.1 25).toNat p4)) 25 (u.1 25 + 1)) j q (va_up (u.2.1 42) (u.1 25).toNat p1 j) (va_up (u.2.1 43) (u.1 25).toNat p2 j) (va_up (u.2.1 44) (u.1 25).toNat p3 j) (va_up (u.2.1 45) (u.1 25).toNat p4 j)
          rw [show va_up (u.2.1 42) (u.1 25).toNat p1 j = p1 by rw [en, up_s], show va_up (u.2.1 43) (u.1 25).toNat p2 j = p2 by rw [en, up_s], show va_up (u.2.1 44) (u.1 25).toNat p3 j = p3 by rw [en, up_s], show va_up (u.2.1 45) (u.1 25).toNat p4 j = p4 by rw [en, up_s]]
          refine ⟨?_, List.mem_append_right _ List.mem_cons_self, up_s u.2.2.2.2 q _, hv.1.1, hv.1.2, hv.2.1, hv.2.2⟩
          show va_up (u.2.2.1 21) (u.1 3).toNat (some q) j = some q
          rw [← ej, up_s]), h.dS, fun d hd => (h.sl d hd).ext rfl hp rfl rfl rfl rfl rfl (fun _ _ => rfl), h.dB.ext h.sl rfl hp⟩
  · rw [if_neg hv] at hc
    obtain ⟨hr, hvu⟩ := hc
    subst hr
    subst hvu
    have m0 : mShip v p1 p2 p3 p4 = (-1, v) := if_neg hv
    rw [m0]
    exact ⟨sM.rf v, rfl, h⟩
theorem up_tal {F G : Nat → Int} {c c' n : Int} (e : c = c') (h0 : 0 ≤ c) (hF : ∀ j : Nat, (j : Int) < c → F j = G j) : ∀ j : Nat, (j : Int) < c + 1 → va_up F c.toNat n j = va_up G c'.toNat n j := fun j hj => by
  rw [← e]
  unfold va_up
  split
  · rfl
  · exact hF j (by omega)
theorem re_stroke {cy : Nat → ClassId} {u : gS} (h : Rel cy u) (p1 : Int) : sM u (cStroke u p1).2 ∧ (cStroke u p1).1 = (mStroke (cStroke u p1).2 p1).1 ∧ Rel cy (mStroke (cStroke u p1).2 p1).2 := by
  obtain ⟨⟨a1, a2, a3, a4⟩, ht⟩ := h.tal
  by_cases hv : 0 ≤ p1 ∧ p1 ≤ 99
  · by_cases hf : u.1 15 = 60
    · have c0 : cStroke u p1 = (-2, u) := (if_pos hv).trans (if_pos hf)
      have m0 : mStroke u p1 = (-2, u) := (if_pos hv).trans (if_pos (by omega))
      rw [c0]
      show sM u u ∧ (-2 : Int) = (mStroke u p1).1 ∧ Rel cy (mStroke u p1).2
      rw [m0]
      exact ⟨sM.rf u, rfl, h⟩
    · have c0 : cStroke u p1 = (u.1 15 + 1, (sI (sF u 22 (va_up (u.2.1 22) (u.1 15).toNat p1)) 15 (u.1 15 + 1))) := (if_pos hv).trans (if_neg hf)
      have hf2 : ¬ u.1 26 = 60 := by omega
      have m0 : mStroke (sI (sF u 22 (va_up (u.2.1 22) (u.1 15).toNat p1)) 15 (u.1 15 + 1)) p1 = (u.1 26 + 1, (sI (sF (sI (sF u 22 (va_up (u.2.1 22) (u.1 15).toNat p1)) 15 (u.1 15 + 1)) 46 (va_up (u.2.1 46) (u.1 26).toNat p1)) 26 (u.1 26 + 1))) := (if_pos hv).trans (if_neg hf2)
      rw [c0]
      show sM u (sI (sF u 22 (va_up (u.2.1 22) (u.1 15).toNat p1)) 15 (u.1 15 + 1)) ∧ u.1 15 + 1 = (mStroke (sI (sF u 22 (va_up (u.2.1 22) (u.1 15).toNat p1)) 15 (u.1 15 + 1)) p1).1 ∧ Rel cy (mStroke (sI (sF u 22 (va_up (u.2.1 22) (u.1 15).toNat p1)) 15 (u.1 15 + 1)) p1).2
      rw [m0]
      refine ⟨((sM.rf u).f (by decide) _).i (by decide) _, by omega, ?_⟩
      exact ⟨⟨h.m.i21, h.m.i22, h.m.i23, h.m.i24, h.m.i25, ⟨(by show 0 ≤ u.1 26 + 1; omega), (by show u.1 26 + 1 ≤ 60; omega)⟩, h.m.i27, h.m.i28, h.m.b31, h.m.i32, h.m.i33, h.m.i34, h.m.i35, h.m.i36, h.m.i37, h.m.i38, h.m.i39, h.m.i40, h.m.i41, h.m.i42, h.m.i43, h.m.i44, h.m.i45, up_r h.m.i46 hv.1 hv.2, h.m.i47, h.m.i48, h.m.b49, h.m.i50, h.m.i51, h.m.i53, h.m.b54, h.m.z51, h.m.i58, h.m.i59, h.m.i60, h.m.i61, h.m.i62⟩, h.e0, h.e1, h.e2, h.e3, h.e4, h.c6, h.rd1, h.rd2, h.f9, h.f10, h.f11, h.c13, h.c14, h.lat, ⟨⟨(by show u.1 15 + 1 = u.1 26 + 1; omega), (by show 0 ≤ u.1 15 + 1; omega), (by show u.1 15 + 1 ≤ 60; omega), up_tal a1 a2 a4⟩, ht⟩, up_r h.c22 hv.1 hv.2, h.c23, h.c24, h.c18, h.b25, h.c26, h.c27, h.n, h.sw, h.sh, h.dS, h.sl, h.dB⟩
  · have c0 : cStroke u p1 = (-1, u) := if_neg hv
    have m0 : mStroke u p1 = (-1, u) := if_neg hv
    rw [c0]
    show sM u u ∧ (-1 : Int) = (mStroke u p1).1 ∧ Rel cy (mStroke u p1).2
    rw [m0]
    exact ⟨sM.rf u, rfl, h⟩
theorem re_strokes {cy : Nat → ClassId} {u : gS} (h : Rel cy u) : sM u (sI u 15 0) ∧ u.1 15 = (sI u 15 0).1 26 ∧ Rel cy (sI (sI u 15 0) 26 0) :=
  ⟨(sM.rf u).i (by decide) 0, h.tal.1.1, ⟨⟨h.m.i21, h.m.i22, h.m.i23, h.m.i24, h.m.i25, ⟨Int.le_refl 0, (by show (0 : Int) ≤ 60; decide)⟩, h.m.i27, h.m.i28, h.m.b31, h.m.i32, h.m.i33, h.m.i34, h.m.i35, h.m.i36, h.m.i37, h.m.i38, h.m.i39, h.m.i40, h.m.i41, h.m.i42, h.m.i43, h.m.i44, h.m.i45, h.m.i46, h.m.i47, h.m.i48, h.m.b49, h.m.i50, h.m.i51, h.m.i53, h.m.b54, h.m.z51, h.m.i58, h.m.i59, h.m.i60, h.m.i61, h.m.i62⟩, h.e0, h.e1, h.e2, h.e3, h.e4, h.c6, h.rd1, h.rd2, h.f9, h.f10, h.f11, h.c13, h.c14, h.lat, ⟨⟨rfl, Int.le_refl 0, (by show (0 : Int) ≤ 60; decide), fun j hj => absurd (show (j : Int) < 0 from hj) (by omega)⟩, h.tal.2⟩, h.c22, h.c23, h.c24, h.c18, h.b25, h.c26, h.c27, h.n, h.sw, h.sh, h.dS, h.sl, h.dB⟩⟩
theorem re_turn {cy : Nat → ClassId} {u : gS} (h : Rel cy u) (p1 : Int) : sM u (cTurnN u p1).2 ∧ (cTurnN u p1).1 = (mTurn (cTurnN u p1).2 p1).1 ∧ Rel cy (mTurn (cTurnN u p1).2 p1).2 := by
  obtain ⟨ht, ⟨b1, b2, b3, b4⟩, ⟨a1, a2, a3, a4⟩⟩ := h.tal
  have e0 := h.e0
  have i23 := h.m.i23
  by_cases hv : 0 ≤ p1 ∧ p1 ≤ u.1 0 - 1
  · have hv2 : 0 ≤ p1 ∧ p1 ≤ u.1 23 - 1 := by omega
    by_cases hf : u.1 17 = 40
    · have c0 : cTurnN u p1 = (-2, u) := (if_pos hv).trans (if_pos hf)
      have m0 : mTurn u p1 = (-2, u) := (if_pos hv2).trans (if_pos (by omega))
      rw [c0]
      show sM u u ∧ (-2 : Int) = (mTurn u p1).1 ∧ Rel cy (mTurn u p1).2
      rw [m0]
      exact ⟨sM.rf u, rfl, h⟩
    · by_cases hz : u.1 16 = 0
      · have c0 : cTurnN u p1 = (-3, u) := (if_pos hv).trans ((if_neg hf).trans (if_pos hz))
        have m0 : mTurn u p1 = (-3, u) := (if_pos hv2).trans ((if_neg (by omega)).trans (if_pos (by omega)))
        rw [c0]
        show sM u u ∧ (-3 : Int) = (mTurn u p1).1 ∧ Rel cy (mTurn u p1).2
        rw [m0]
        exact ⟨sM.rf u, rfl, h⟩
      · have c0 : cTurnN u p1 = (u.1 17 + 1, (sI (sF u 24 (va_up (u.2.1 24) (u.1 17).toNat p1)) 17 (u.1 17 + 1))) := (if_pos hv).trans ((if_neg hf).trans (if_neg hz))
        have hf2 : ¬ u.1 28 = 40 := by omega
        have hz2 : ¬ u.1 27 = 0 := by omega
        have m0 : mTurn (sI (sF u 24 (va_up (u.2.1 24) (u.1 17).toNat p1)) 17 (u.1 17 + 1)) p1 = (u.1 28 + 1, (sI (sF (sI (sF u 24 (va_up (u.2.1 24) (u.1 17).toNat p1)) 17 (u.1 17 + 1)) 48 (va_up (u.2.1 48) (u.1 28).toNat p1)) 28 (u.1 28 + 1))) := (if_pos hv2).trans ((if_neg hf2).trans (if_neg hz2))
        rw [c0]
        show sM u (sI (sF u 24 (va_up (u.2.1 24) (u.1 17).toNat p1)) 17 (u.1 17 + 1)) ∧ u.1 17 + 1 = (mTurn (sI (sF u 24 (va_up (u.2.1 24) (u.1 17).toNat p1)) 17 (u.1 17 + 1)) p1).1 ∧ Rel cy (mTurn (sI (sF u 24 (va_up (u.2.1 24) (u.1 17).toNat p1)) 17 (u.1 17 + 1)) p1).2
        rw [m0]
        refine ⟨((sM.rf u).f (by decide) _).i (by decide) _, by omega, ?_⟩
        exact ⟨⟨h.m.i21, h.m.i22, h.m.i23, h.m.i24, h.m.i25, h.m.i26, h.m.i27, ⟨(by show 0 ≤ u.1 28 + 1; omega), (by show u.1 28 + 1 ≤ 40; omega)⟩, h.m.b31, h.m.i32, h.m.i33, h.m.i34, h.m.i35, h.m.i36, h.m.i37, h.m.i38, h.m.i39, h.m.i40, h.m.i41, h.m.i42, h.m.i43, h.m.i44, h.m.i45, h.m.i46, h.m.i47, up_r h.m.i48 hv.1 (by omega), h.m.b49, h.m.i50, h.m.i51, h.m.i53, h.m.b54, h.m.z51, h.m.i58, h.m.i59, h.m.i60, h.m.i61, h.m.i62⟩, h.e0, h.e1, h.e2, h.e3, h.e4, h.c6, h.rd1, h.rd2, h.f9, h.f10, h.f11, h.c13, h.c14, h.lat, ⟨ht, ⟨b1, b2, b3, b4⟩, ⟨(by show u.1 17 + 1 = u.1 28 + 1; omega), (by show 0 ≤ u.1 17 + 1; omega), (by show u.1 17 + 1 ≤ 40; omega), up_tal a1 a2 a4⟩⟩, h.c22, h.c23, up_r h.c24 hv.1 (by omega), h.c18, h.b25, h.c26, h.c27, h.n, h.sw, h.sh, h.dS, h.sl, h.dB⟩
  · have c0 : cTurnN u p1 = (-1, u) := if_neg hv
    have m0 : mTurn u p1 = (-1, u) := if_neg (by omega)
    rw [c0]
    show sM u u ∧ (-1 : Int) = (mTurn u p1).1 ∧ Rel cy (mTurn u p1).2
    rw [m0]
    exact ⟨sM.rf u, rfl, h⟩
theorem cOrdW_hi {d : Int} {M : Nat} : ∀ (f i : Nat) (w : gS), w.1 16 = (i : Int) → ∀ j, M ≤ j → (cOrdW d (M : Int) f (i : Int) w).2.1 23 j = w.2.1 23 j
  | 0, i, w, _, j, _ => rfl
  | f + 1, i, w, hi, j, hj => by
    unfold cOrdW
    by_cases h : (i : Int) < (M : Int)
    · rw [if_pos h]
      have e := cOrdW_hi (d := d) (M := M) f (i + 1) (sI (sF w 23 (va_up (w.2.1 23) (w.1 16).toNat (bAnd (bUshr d (4 * (i : Int))) 15 - 1))) 16 (w.1 16 + 1)) (by
        show w.1 16 + 1 = ((i + 1 : Nat) : Int)
        omega) j hj
      rw [show ((i + 1 : Nat) : Int) = (i : Int) + 1 by omega] at e
      refine e.trans ?_
      show va_up (w.2.1 23) (w.1 16).toNat _ j = _
      exact up_n _ _ (by omega)
    · rw [if_neg h]
theorem mOrdW_hi {d : Int} {M : Nat} : ∀ (f i : Nat) (w : gS) (j : Nat), M ≤ j → (mOrdW d (M : Int) f (i : Int) w).2.1 47 j = w.2.1 47 j
  | 0, i, w, j, _ => rfl
  | f + 1, i, w, j, hj => by
    unfold mOrdW
    by_cases h : (i : Int) < (M : Int)
    · rw [if_pos h]
      have e := mOrdW_hi (d := d) (M := M) f (i + 1) (sF w 47 (va_up (w.2.1 47) (i : Int).toNat (bAnd (bShr d (4 * (i : Int))) 15 - 1))) j hj
      rw [show ((i + 1 : Nat) : Int) = (i : Int) + 1 by omega] at e
      refine e.trans ?_
      show va_up (w.2.1 47) (i : Int).toNat _ j = _
      exact up_n _ _ (by omega)
    · rw [if_neg h]
theorem cOsz_dig {cnt d : Int} : ∀ (n z : Nat) (told : Int) (j : Nat), z ≤ j → (j : Int) < cOsz cnt d n told (z : Int) → 0 ≤ bAnd (bUshr d (4 * (j : Int))) 15 - 1
  | 0, z, told, j, _, h2 => by
    have h2 : (j : Int) < -1 := h2
    omega
  | n + 1, z, told, j, h1, h2 => by
    unfold cOsz at h2
    have hF : cOszF d (z : Int) ≤ (z : Int) := by unfold cOszF; split <;> omega
    by_cases h6 : (z : Int) < 6
    · rw [if_pos h6] at h2
      by_cases h0 : bUshr d (4 * (z : Int)) = 0
      · rw [if_pos h0] at h2
        omega
      · rw [if_neg h0] at h2
        by_cases hd : 0 ≤ bAnd (bUshr d (4 * (z : Int))) 15 - 1 ∧ bAnd (bUshr d (4 * (z : Int))) 15 - 1 ≤ cnt - 1
        · rw [if_pos hd] at h2
          by_cases ht : bAnd (bShr told (bAnd (bUshr d (4 * (z : Int))) 15 - 1)) 1 = 0
          · rw [if_pos ht] at h2
            by_cases hj : j = z
            · rw [hj]
              exact hd.1
            · rw [show (z : Int) + 1 = ((z + 1 : Nat) : Int) by omega] at h2
              exact cOsz_dig n (z + 1) _ j (by omega) h2
          · rw [if_neg ht] at h2
            omega
        · rw [if_neg hd] at h2
          omega
    · rw [if_neg h6] at h2
      omega
theorem re_order {cy : Nat → ClassId} {u : gS} (h : Rel cy u) (p1 : Int) (hp : -2147483648 ≤ p1 ∧ p1 < 2147483648) : sM u (cOrder u p1).2 ∧ (cOrder u p1).1 = (mOrder (cOrder u p1).2 p1).1 ∧ Rel cy (mOrder (cOrder u p1).2 p1).2 := by
  have e0 := h.e0
  by_cases hn : p1 < 0
  · have c1 : cOsz (u.1 0) p1 7 0 0 = -1 := cOsz_neg (ush_neg hp.1 hn) 7 0 0
    have c0 : cOrder u p1 = (-1, u) := if_pos (by rw [c1]; decide)
    have m0 : mOrder u p1 = (-1, u) := if_pos hn
    rw [c0]
    show sM u u ∧ (-1 : Int) = (mOrder u p1).1 ∧ Rel cy (mOrder u p1).2
    rw [m0]
    exact ⟨sM.rf u, rfl, h⟩
  · obtain ⟨N, hN⟩ : ∃ N : Nat, p1 = (N : Int) := ⟨p1.toNat, by omega⟩
    have hN2 : N < 2147483648 := by omega
    have c1 : cOsz (u.1 0) p1 7 0 0 = mOrdL (u.1 23) 8 p1 0 0 := by
      have := osz_eq (cnt := u.1 23) hN2 7 0 0 rfl (by decide)
      rw [show ordD N 0 = N from Nat.div_one N] at this
      rw [hN, e0]
      exact this
    by_cases h2 : cOsz (u.1 0) p1 7 0 0 < 2
    · have c0 : cOrder u p1 = (-1, u) := if_pos h2
      have m0 : mOrder u p1 = (-1, u) := (if_neg hn).trans (if_pos (by rw [← c1]; exact h2))
      rw [c0]
      show sM u u ∧ (-1 : Int) = (mOrder u p1).1 ∧ Rel cy (mOrder u p1).2
      rw [m0]
      exact ⟨sM.rf u, rfl, h⟩
    · have hb := cOsz_bnd (u.1 0) p1 7 0 0 (by decide) (by decide)
      obtain ⟨M, hM⟩ : ∃ M : Nat, cOsz (u.1 0) p1 7 0 0 = (M : Int) := ⟨(cOsz (u.1 0) p1 7 0 0).toNat, by omega⟩
      have c0 : cOrder u p1 = ((M : Int), cOrdW p1 (M : Int) 7 0 (sI (sI u 16 0) 17 0)) := by
        rw [← hM]
        exact if_neg h2
      obtain ⟨a1, -, a3, a4, a5, a6⟩ := cOrdW_ok (d := p1) (M := M) 7 0 (sI (sI u 16 0) 17 0) rfl (by omega) (by omega)
      have a7 := cOrdW_hi (d := p1) (M := M) 7 0 (sI (sI u 16 0) 17 0) rfl
      obtain ⟨X, hX⟩ : ∃ X : Nat → Int, X = (cOrdW p1 (M : Int) 7 ((0 : Nat) : Int) (sI (sI u 16 0) 17 0)).2.1 23 := ⟨_, rfl⟩
      rw [← hX] at a3 a7
      have vF : cOrdW p1 (M : Int) 7 0 (sI (sI u 16 0) 17 0) = sI (sI (sF u 23 X) 16 (M : Int)) 17 0 := by
        refine Prod.ext ?_ (Prod.ext ?_ ?_)
        · funext k
          show (cOrdW p1 (M : Int) 7 ((0 : Nat) : Int) (sI (sI u 16 0) 17 0)).1 k = va_up (va_up u.1 16 (M : Int)) 17 0 k
          by_cases k16 : k = 16
          · rw [k16, a1]
            rfl
          · rw [a5 k k16]
            show va_up (va_up u.1 16 0) 17 0 k = _
            unfold va_up
            by_cases k17 : k = 17
            · rw [if_pos k17, if_pos k17]
            · rw [if_neg k17, if_neg k17, if_neg k16, if_neg k16]
        · funext k
          show (cOrdW p1 (M : Int) 7 ((0 : Nat) : Int) (sI (sI u 16 0) 17 0)).2.1 k = va_up u.2.1 23 X k
          by_cases k23 : k = 23
          · rw [k23, up_s, hX]
          · rw [a4 k k23, up_n _ _ k23]
        · exact a6
      obtain ⟨v, hv⟩ : ∃ v : gS, v = sI (sI (sF u 23 X) 16 (M : Int)) 17 0 := ⟨_, rfl⟩
      obtain ⟨-, b2, b3, b4, b5⟩ := mOrdW_ok (d := p1) (M := M) 7 0 v (by omega) (by omega)
      have b6 := mOrdW_hi (d := p1) (M := M) 7 0 v
      obtain ⟨Y, hY⟩ : ∃ Y : Nat → Int, Y = (mOrdW p1 (M : Int) 7 ((0 : Nat) : Int) v).2.1 47 := ⟨_, rfl⟩
      rw [← hY] at b2 b6
      have wF : mOrdW p1 (M : Int) 7 0 v = sF v 47 Y := by
        refine Prod.ext b4 (Prod.ext ?_ b5)
        funext k
        show (mOrdW p1 (M : Int) 7 ((0 : Nat) : Int) v).2.1 k = va_up v.2.1 47 Y k
        by_cases k47 : k = 47
        · rw [k47, up_s, hY]
        · rw [b3 k k47, up_n _ _ k47]
      have v23 : v.1 23 = u.1 23 := by rw [hv]; rfl
      have v47 : v.2.1 47 = u.2.1 47 := by rw [hv]; rfl
      have m1 : mOrdL (v.1 23) 8 p1 0 0 = (M : Int) := by rw [v23, ← c1]; exact hM
      have m0 : mOrder v p1 = ((M : Int), sI (sI (sF v 47 Y) 27 (M : Int)) 28 0) := by
        rw [← wF, ← m1]
        exact (if_neg hn).trans (if_neg (by rw [m1]; omega))
      have hXY : ∀ j : Nat, (j : Int) < (M : Int) → X j = Y j := fun j hj => by
        rw [a3 j (Nat.zero_le j) (by omega), b2 j (Nat.zero_le j) (by omega), hN, ordU hN2 (by omega), ordS hN2 (by omega)]
      have hXr : ∀ j, j < 6 → 0 ≤ X j ∧ X j ≤ 15 := fun j hj => by
        by_cases hjM : j < M
        · have g1 := cOsz_dig (cnt := u.1 0) (d := p1) 7 0 0 j (Nat.zero_le j) (by show (j : Int) < cOsz (u.1 0) p1 7 0 0; omega)
          have g2 := bAnd_15 (bUshr p1 (4 * (j : Int)))
          rw [a3 j (Nat.zero_le j) hjM]
          omega
        · rw [a7 j (by omega)]
          exact h.c23 j hj
      have hYr : ∀ j, j < 6 → 0 ≤ Y j ∧ Y j ≤ 15 := fun j hj => by
        by_cases hjM : j < M
        · rw [← hXY j (by omega)]
          exact hXr j hj
        · rw [b6 j (by omega), v47]
          exact h.m.i47 j hj
      rw [c0, vF]
      show sM u (sI (sI (sF u 23 X) 16 (M : Int)) 17 0) ∧ (M : Int) = (mOrder (sI (sI (sF u 23 X) 16 (M : Int)) 17 0) p1).1 ∧ Rel cy (mOrder (sI (sI (sF u 23 X) 16 (M : Int)) 17 0) p1).2
      rw [← hv, m0]
      refine ⟨by rw [hv]; exact (((sM.rf u).f (by decide) _).i (by decide) _).i (by decide) _, rfl, ?_⟩
      rw [hv]
      exact ⟨⟨h.m.i21, h.m.i22, h.m.i23, h.m.i24, h.m.i25, h.m.i26, ⟨(by show 0 ≤ (M : Int); omega), (by show (M : Int) ≤ 6; omega)⟩, ⟨Int.le_refl 0, (by show (0 : Int) ≤ 40; decide)⟩, h.m.b31, h.m.i32, h.m.i33, h.m.i34, h.m.i35, h.m.i36, h.m.i37, h.m.i38, h.m.i39, h.m.i40, h.m.i41, h.m.i42, h.m.i43, h.m.i44, h.m.i45, h.m.i46, hYr, h.m.i48, h.m.b49, h.m.i50, h.m.i51, h.m.i53, h.m.b54, h.m.z51, h.m.i58, h.m.i59, h.m.i60, h.m.i61, h.m.i62⟩, h.e0, h.e1, h.e2, h.e3, h.e4, h.c6, h.rd1, h.rd2, h.f9, h.f10, h.f11, h.c13, h.c14, h.lat, ⟨h.tal.1, ⟨rfl, (by show 0 ≤ (M : Int); omega), (by show (M : Int) ≤ 6; omega), hXY⟩, ⟨rfl, Int.le_refl 0, (by show (0 : Int) ≤ 40; decide), fun j hj => absurd (show (j : Int) < 0 from hj) (by omega)⟩⟩, h.c22, hXr, h.c24, h.c18, h.b25, h.c26, h.c27, h.n, h.sw, h.sh, h.dS, h.sl, h.dB⟩
theorem re_calm {cy : Nat → ClassId} {u : gS} (h : Rel cy u) (p1 p2 : Int) (hb : p2 = 0 ∨ p2 = 1) : sM u (cCalm u p1 p2).2 ∧ (cCalm u p1 p2).1 = (mCalm (cCalm u p1 p2).2 p1 p2).1 ∧ Rel cy (mCalm (cCalm u p1 p2).2 p1 p2).2 := by
  have he := calm_eq h.n h.c18 h.m.b49 (d := p1) hb
  by_cases hv : 0 ≤ p1 ∧ p1 ≤ 15
  · have c0 : (cCalm u p1 p2).2 = (sI u 18 (cCalmV u p1 p2)) := congrArg Prod.snd (if_pos hv : cCalm u p1 p2 = _)
    have m0 : mCalm (sI u 18 (cCalmV u p1 p2)) p1 p2 = (if u.2.1 49 p1.toNat = p2 then 0 else 1, (sF (sI u 18 (cCalmV u p1 p2)) 49 (va_up (u.2.1 49) p1.toNat p2))) := if_pos hv
    have m1 : mCalm u p1 p2 = (if u.2.1 49 p1.toNat = p2 then 0 else 1, sF u 49 (va_up (u.2.1 49) p1.toNat p2)) := if_pos hv
    rw [m1] at he
    rw [c0, m0]
    refine ⟨(sM.rf u).i (by decide) _, he, ?_⟩
    exact ⟨⟨h.m.i21, h.m.i22, h.m.i23, h.m.i24, h.m.i25, h.m.i26, h.m.i27, h.m.i28, h.m.b31, h.m.i32, h.m.i33, h.m.i34, h.m.i35, h.m.i36, h.m.i37, h.m.i38, h.m.i39, h.m.i40, h.m.i41, h.m.i42, h.m.i43, h.m.i44, h.m.i45, h.m.i46, h.m.i47, h.m.i48, up_b h.m.b49 hb, h.m.i50, h.m.i51, h.m.i53, h.m.b54, h.m.z51, h.m.i58, h.m.i59, h.m.i60, h.m.i61, h.m.i62⟩, h.e0, h.e1, h.e2, h.e3, h.e4, h.c6, h.rd1, h.rd2, h.f9, h.f10, h.f11, h.c13, h.c14, h.lat, h.tal, h.c22, h.c23, h.c24, cCalmV_in hv.1 hv.2 h.c18, h.b25, h.c26, h.c27, ⟨calm_bits h.n.1 hb hv.1 hv.2, h.n.2⟩, h.sw, h.sh, h.dS, h.sl, h.dB⟩
  · have c0 : cCalm u p1 p2 = (-1, u) := if_neg hv
    have m0 : mCalm u p1 p2 = (-1, u) := if_neg hv
    rw [c0]
    show sM u u ∧ (-1 : Int) = (mCalm u p1 p2).1 ∧ Rel cy (mCalm u p1 p2).2
    rw [m0]
    exact ⟨sM.rf u, rfl, h⟩
theorem re_slot {cy : Nat → ClassId} {u : gS} (h : Rel cy u) (p1 p2 p3 p4 : Int) : sM u (cSlot u p1 p2 p3 p4).2 ∧ (cSlot u p1 p2 p3 p4).1 = (mSlot (cSlot u p1 p2 p3 p4).2 p1 p2 p3 p4).1 ∧ Rel cy (mSlot (cSlot u p1 p2 p3 p4).2 p1 p2 p3 p4).2 := by
  have e0 := h.e0
  have i23 := h.m.i23
  obtain ⟨n1, n2, n3⟩ := h.n
  by_cases hv : (0 ≤ p1 ∧ p1 ≤ u.1 0 - 1) ∧ (0 ≤ p2 ∧ p2 ≤ 3) ∧ (1 ≤ p3 ∧ p3 ≤ 4) ∧ (0 ≤ p4 ∧ p4 ≤ 65535)
  · have hv2 : (0 ≤ p1 ∧ p1 ≤ u.1 23 - 1) ∧ (0 ≤ p2 ∧ p2 ≤ 3) ∧ (1 ≤ p3 ∧ p3 ≤ 4) ∧ (0 ≤ p4 ∧ p4 ≤ 65535) := by rw [← e0]; exact hv
    have c0 : cSlot u p1 p2 p3 p4 = (if u.2.1 25 p1.toNat = 0 then 1 else 0, (sF (sF (sF (sF u 25 (va_up (u.2.1 25) p1.toNat 1)) 26 (va_up (u.2.1 26) p1.toNat p2)) 27 (va_up (u.2.1 27) p1.toNat p3)) 28 (va_up (u.2.1 28) p1.toNat p4))) := if_pos hv
    have m0 : mSlot (sF (sF (sF (sF u 25 (va_up (u.2.1 25) p1.toNat 1)) 26 (va_up (u.2.1 26) p1.toNat p2)) 27 (va_up (u.2.1 27) p1.toNat p3)) 28 (va_up (u.2.1 28) p1.toNat p4)) p1 p2 p3 p4 = (if u.2.1 51 p1.toNat = 0 then 1 else 0, (sF (sF (sF (sF (sF (sF (sF u 25 (va_up (u.2.1 25) p1.toNat 1)) 26 (va_up (u.2.1 26) p1.toNat p2)) 27 (va_up (u.2.1 27) p1.toNat p3)) 28 (va_up (u.2.1 28) p1.toNat p4)) 50 (va_up (u.2.1 50) p1.toNat p2)) 51 (va_up (u.2.1 51) p1.toNat p3)) 52 (va_up (u.2.1 52) p1.toNat p4))) := if_pos hv2
    rw [c0]
    show sM u (sF (sF (sF (sF u 25 (va_up (u.2.1 25) p1.toNat 1)) 26 (va_up (u.2.1 26) p1.toNat p2)) 27 (va_up (u.2.1 27) p1.toNat p3)) 28 (va_up (u.2.1 28) p1.toNat p4)) ∧ (if u.2.1 25 p1.toNat = 0 then (1 : Int) else 0) = (mSlot (sF (sF (sF (sF u 25 (va_up (u.2.1 25) p1.toNat 1)) 26 (va_up (u.2.1 26) p1.toNat p2)) 27 (va_up (u.2.1 27) p1.toNat p3)) 28 (va_up (u.2.1 28) p1.toNat p4)) p1 p2 p3 p4).1 ∧ Rel cy (mSlot (sF (sF (sF (sF u 25 (va_up (u.2.1 25) p1.toNat 1)) 26 (va_up (u.2.1 26) p1.toNat p2)) 27 (va_up (u.2.1 27) p1.toNat p3)) 28 (va_up (u.2.1 28) p1.toNat p4)) p1 p2 p3 p4).2
    rw [m0]
    have g1 := n2 p1.toNat (by omega)
    have g2 := h.b25 p1.toNat (by omega)
    have g3 := h.m.i51 p1.toNat (by omega)
    refine ⟨((((sM.rf u).f (by decide) _).f (by decide) _).f (by decide) _).f (by decide) _, ?_, ?_⟩
    · show (if u.2.1 25 p1.toNat = 0 then (1 : Int) else 0) = if u.2.1 51 p1.toNat = 0 then 1 else 0
      by_cases h5 : u.2.1 25 p1.toNat = 0
      · rw [if_pos h5, if_pos (by
          have : ¬ 0 < u.2.1 51 p1.toNat := fun q => by
            have := g1.mpr q
            omega
          omega)]
      · rw [if_neg h5, if_neg (by
          have := g1.mp (by omega)
          omega)]
    · exact ⟨⟨h.m.i21, h.m.i22, h.m.i23, h.m.i24, h.m.i25, h.m.i26, h.m.i27, h.m.i28, h.m.b31, h.m.i32, h.m.i33, h.m.i34, h.m.i35, h.m.i36, h.m.i37, h.m.i38, h.m.i39, h.m.i40, h.m.i41, h.m.i42, h.m.i43, h.m.i44, h.m.i45, h.m.i46, h.m.i47, h.m.i48, h.m.b49, up_r h.m.i50 hv.2.1.1 hv.2.1.2, up_r h.m.i51 (by omega) hv.2.2.1.2, h.m.i53, h.m.b54, fun j h1 h2 => (by show va_up (u.2.1 51) p1.toNat p3 j = 0; rw [up_n _ _ (by have h1 : u.1 23 ≤ (j : Int) := h1; omega)]; exact h.m.z51 j h1 h2), h.m.i58, h.m.i59, h.m.i60, h.m.i61, h.m.i62⟩, h.e0, h.e1, h.e2, h.e3, h.e4, h.c6, h.rd1, h.rd2, h.f9, h.f10, h.f11, h.c13, h.c14, h.lat, h.tal, h.c22, h.c23, h.c24, h.c18, up_b h.b25 (Or.inr rfl), up_r h.c26 hv.2.1.1 hv.2.1.2, up_r h.c27 (by omega) hv.2.2.1.2, ⟨n1, fun s hs => (by
        show va_up (u.2.1 25) p1.toNat 1 s = 1 ↔ 0 < va_up (u.2.1 51) p1.toNat p3 s
        by_cases hsp : s = p1.toNat
        · rw [hsp, up_s, up_s]
          exact ⟨fun _ => by omega, fun _ => rfl⟩
        · rw [up_n _ _ hsp, up_n _ _ hsp]
          exact n2 s hs), fun s hs => (by
        show va_up (u.2.1 26) p1.toNat p2 s = va_up (u.2.1 50) p1.toNat p2 s ∧ va_up (u.2.1 27) p1.toNat p3 s = va_up (u.2.1 51) p1.toNat p3 s ∧ va_up (u.2.1 28) p1.toNat p4 s = va_up (u.2.1 52) p1.toNat p4 s
        by_cases hsp : s = p1.toNat
        · rw [hsp, up_s, up_s, up_s, up_s, up_s, up_s]
          exact ⟨rfl, rfl, rfl⟩
        · rw [up_n _ _ hsp, up_n _ _ hsp, up_n _ _ hsp, up_n _ _ hsp, up_n _ _ hsp, up_n _ _ hsp]
          exact n3 s hs)⟩, h.sw, h.sh, h.dS, h.sl, h.dB⟩
  · have c0 : cSlot u p1 p2 p3 p4 = (-1, u) := if_neg hv
    have m0 : mSlot u p1 p2 p3 p4 = (-1, u) := if_neg (by rw [← e0]; exact hv)
    rw [c0]
    show sM u u ∧ (-1 : Int) = (mSlot u p1 p2 p3 p4).1 ∧ Rel cy (mSlot u p1 p2 p3 p4).2
    rw [m0]
    exact ⟨sM.rf u, rfl, h⟩
theorem re_np {cy : Nat → ClassId} {u : gS} (h : Rel cy u) (T9 : Int) (H9 f H8 A9 B9 C9 : Nat → Int) (h1 : ∀ e, e < 16 → -1 ≤ H8 e ∧ H8 e ≤ 9) (h2 : ∀ j, j < 10 → f j = 0 ∨ f j = 1) : Rel cy (mNp (sF (cNp u T9 H9) 54 f) H8 A9 B9 C9) :=
  ⟨⟨h.m.i21, h.m.i22, h.m.i23, h.m.i24, h.m.i25, h.m.i26, h.m.i27, h.m.i28, h.m.b31, h.m.i32, h.m.i33, h.m.i34, h.m.i35, h.m.i36, h.m.i37, h.m.i38, h.m.i39, h.m.i40, h.m.i41, h.m.i42, h.m.i43, h.m.i44, h.m.i45, h.m.i46, h.m.i47, h.m.i48, h.m.b49, h.m.i50, h.m.i51, h1, h2, h.m.z51, h.m.i58, h.m.i59, h.m.i60, h.m.i61, h.m.i62⟩, h.e0, h.e1, h.e2, h.e3, h.e4, h.c6, h.rd1, h.rd2, h.f9, h.f10, h.f11, h.c13, h.c14, h.lat, h.tal, h.c22, h.c23, h.c24, h.c18, h.b25, h.c26, h.c27, h.n, h.sw, h.sh, h.dS, h.sl, h.dB⟩
theorem sM_np (u : gS) (T9 : Int) (H9 : Nat → Int) : sM u (cNp u T9 H9) := ((sM.rf u).i (by decide) _).f (by decide) _
theorem re_done {cy : Nat → ClassId} {u : gS} (h : Rel cy u) (T9 : Int) (H9 : Nat → Int) : cDone u = mDone (cNp u T9 H9) := h.n.done.trans rfl
theorem re_goes {cy : Nat → ClassId} {u : gS} (h : Rel cy u) (p1 p2 T9 : Int) (H9 : Nat → Int) : cGoes u p1 p2 = mGoes (cNp u T9 H9) p1 p2 := (h.n.goes p1 p2).trans rfl
def mR (w : gS) : Prop := (∀ j, j < 202 → -1000 ≤ w.2.1 38 j ∧ w.2.1 38 j ≤ 1000) ∧ (∀ j, j < 202 → -1000 ≤ w.2.1 39 j ∧ w.2.1 39 j ≤ 1000) ∧ (∀ j, j < 2 → 0 ≤ w.2.1 40 j ∧ w.2.1 40 j ≤ 100) ∧ (∀ j, j < 2 → 0 ≤ w.2.1 41 j ∧ w.2.1 41 j ≤ 100000)
theorem stC_bnd {w : gS} {row s t : Int} (hs : 0 ≤ s ∧ s ≤ 9) (hI : stI w) (ht : 0 ≤ t ∧ t ≤ 99) (hc : 0 ≤ w.2.1 41 row.toNat ∧ w.2.1 41 row.toNat ≤ 200 * t) : 0 ≤ stC w row s t ∧ stC w row s t ≤ 200 * (t + 1) := by
  have h1 := spCold_bnd (k := w.2.1 34 s.toNat) (ch := w.1 21) (t := t) (hI.1 _ (by omega)) hI.2.2.2.2.2.2.2.1 ⟨ht.1, by omega⟩
  have h2 : w.2.1 41 row.toNat + spCold (w.2.1 34 s.toNat) (w.1 21) t - 3 ≤ stC0 w row s t ∧ stC0 w row s t ≤ w.2.1 41 row.toNat + spCold (w.2.1 34 s.toNat) (w.1 21) t := by
    unfold stC0
    split <;> omega
  unfold stC
  split <;> omega
theorem stB_R {w : gS} {row t a X Y : Int} (hR : mR w) (hX : -1000 ≤ X ∧ X ≤ 1000) (hY : -1000 ≤ Y ∧ Y ≤ 1000) (ht : 0 ≤ t ∧ t ≤ 99) : mR (stB w row t a X Y) := ⟨up_r hR.1 hX.1 hX.2, up_r hR.2.1 hY.1 hY.2, up_r hR.2.2.1 (by omega) (by omega), hR.2.2.2⟩
theorem stD_R {w : gS} {row t a X Y C : Int} (hR : mR w) (hX : -1000 ≤ X ∧ X ≤ 1000) (hY : -1000 ≤ Y ∧ Y ≤ 1000) (ht : 0 ≤ t ∧ t ≤ 99) (hC : 0 ≤ C ∧ C ≤ 100000) : mR (stD w row t a X Y C) := ⟨up_r hR.1 hX.1 hX.2, up_r hR.2.1 hY.1 hY.2, up_r hR.2.2.1 (by omega) (by omega), up_r hR.2.2.2 hC.1 hC.2⟩
theorem mStep_J {row s q aim : Int} (hs : 0 ≤ s ∧ s ≤ 9) : ∀ (n : Nat) (t a : Int) (w : gS), 0 ≤ t → 0 ≤ a → a ≤ 101 + t → (0 ≤ w.2.1 41 row.toNat ∧ w.2.1 41 row.toNat ≤ 200 * t) → mR w → stI w → mR (mStep row s q aim n t a w).2 ∧ stI (mStep row s q aim n t a w).2
  | 0, t, a, w, _, _, _, _, hR, hI => ⟨hR, hI⟩
  | n + 1, t, a, w, h0, h1, h2, hc, hR, hI => by
    unfold mStep
    by_cases ht : t < 100
    · rw [if_pos ht]
      have hC := stC_bnd (row := row) hs hI ⟨h0, by omega⟩ hc
      by_cases hp : (0 ≤ stX w s q aim t a ∧ stX w s q aim t a ≤ 239) ∧ (0 ≤ stY w s q aim t a ∧ stY w s q aim t a ≤ 119)
      · rw [if_pos hp]
        have hD : mR (stD w row t a (stX w s q aim t a) (stY w s q aim t a) (stC w row s t)) := stD_R hR ⟨by omega, by omega⟩ ⟨by omega, by omega⟩ ⟨h0, by omega⟩ ⟨hC.1, by omega⟩
        by_cases hd : spDry (w.2.1 31) (stX w s q aim t a) (stY w s q aim t a) = 0
        · rw [if_pos hd]
          by_cases hl : w.2.1 36 s.toNat ≤ stC w row s t
          · rw [if_pos hl]
            exact ⟨hD, hI⟩
          · rw [if_neg hl]
            exact mStep_J hs n (t + 1) (a + 1) _ (by omega) (by omega) (by omega) (by
              show 0 ≤ va_up (w.2.1 41) row.toNat (stC w row s t) row.toNat ∧ va_up (w.2.1 41) row.toNat (stC w row s t) row.toNat ≤ 200 * (t + 1)
              rw [up_s]
              exact hC) hD hI
        · rw [if_neg hd]
          exact ⟨hD, hI⟩
      · rw [if_neg hp]
        exact ⟨stB_R hR (hR.1 a.toNat (by omega)) (hR.2.1 a.toNat (by omega)) ⟨h0, by omega⟩, hI⟩
    · rw [if_neg ht]
      exact ⟨hR, hI⟩
theorem mStepA_J {u : gS} {row s x y q aim : Int} (hrow : row = 0 ∨ row = 1) (hs : 0 ≤ s ∧ s ≤ 9) (hx : 0 ≤ x ∧ x ≤ 239) (hy : 0 ≤ y ∧ y ≤ 119) (hR : mR u) (hI : stI u) : mR (mStepA u row s x y q aim).2 ∧ stI (mStepA u row s x y q aim).2 :=
  mStep_J hs 101 0 (101 * row) (mSt0 u row x y) (by omega) (by omega) (by omega) (by
    show 0 ≤ va_up (u.2.1 41) row.toNat 0 row.toNat ∧ va_up (u.2.1 41) row.toNat 0 row.toNat ≤ 200 * 0
    rw [up_s]
    decide) ⟨up_r hR.1 (by omega) (by omega), up_r hR.2.1 (by omega) (by omega), up_r hR.2.2.1 (by omega) (by omega), up_r hR.2.2.2 (by omega) (by omega)⟩ hI
theorem mBestI_J {s x y q : Int} (hs : 0 ≤ s ∧ s ≤ 9) (hx : 0 ≤ x ∧ x ≤ 239) (hy : 0 ≤ y ∧ y ≤ 119) : ∀ (n : Nat) (a sa fw : Int) (w : gS), mR w → stI w → mR (mBestI s x y q n a sa fw w).2.2 ∧ stI (mBestI s x y q n a sa fw w).2.2
  | 0, a, sa, fw, w, hR, hI => ⟨hR, hI⟩
  | n + 1, a, sa, fw, w, hR, hI => by
    obtain ⟨r1, r2⟩ := mStepA_J (row := 1) (q := q) (aim := a) (Or.inr rfl) hs hx hy hR hI
    unfold mBestI
    (repeat' split) <;> first | exact mBestI_J hs hx hy n _ _ _ _ r1 r2 | exact ⟨hR, hI⟩
theorem mBestO_J {s x y : Int} (hs : 0 ≤ s ∧ s ≤ 9) (hx : 0 ≤ x ∧ x ≤ 239) (hy : 0 ≤ y ∧ y ≤ 119) : ∀ (n : Nat) (q sa fw : Int) (w : gS), mR w → stI w → mR (mBestO s x y n q sa fw w).2 ∧ stI (mBestO s x y n q sa fw w).2
  | 0, q, sa, fw, w, hR, hI => ⟨hR, hI⟩
  | n + 1, q, sa, fw, w, hR, hI => by
    obtain ⟨r1, r2⟩ := mBestI_J (q := q) hs hx hy 9 0 sa fw w hR hI
    unfold mBestO
    split
    · exact mBestO_J hs hx hy n _ _ _ _ r1 r2
    · exact ⟨hR, hI⟩
theorem mEndsI_J {s x y en q : Int} (hs : 0 ≤ s ∧ s ≤ 9) (hx : 0 ≤ x ∧ x ≤ 239) (hy : 0 ≤ y ∧ y ≤ 119) : ∀ (n : Nat) (a k : Int) (w : gS), mR w → stI w → mR (mEndsI s x y en q n a k w).2 ∧ stI (mEndsI s x y en q n a k w).2
  | 0, a, k, w, hR, hI => ⟨hR, hI⟩
  | n + 1, a, k, w, hR, hI => by
    obtain ⟨r1, r2⟩ := mStepA_J (row := 1) (q := q) (aim := a) (Or.inr rfl) hs hx hy hR hI
    unfold mEndsI
    (repeat' split) <;> first | exact mEndsI_J hs hx hy n _ _ _ r1 r2 | exact ⟨hR, hI⟩
theorem mEndsO_J {s x y en : Int} (hs : 0 ≤ s ∧ s ≤ 9) (hx : 0 ≤ x ∧ x ≤ 239) (hy : 0 ≤ y ∧ y ≤ 119) : ∀ (n : Nat) (q k : Int) (w : gS), mR w → stI w → mR (mEndsO s x y en n q k w).2 ∧ stI (mEndsO s x y en n q k w).2
  | 0, q, k, w, hR, hI => ⟨hR, hI⟩
  | n + 1, q, k, w, hR, hI => by
    obtain ⟨r1, r2⟩ := mEndsI_J (en := en) (q := q) hs hx hy 9 0 k w hR hI
    unfold mEndsO
    split
    · exact mEndsO_J hs hx hy n _ _ _ r1 r2
    · exact ⟨hR, hI⟩
theorem cStay_rng {w : gS} {xs ys sd qi : Nat} {t ck aim : Int} (hne : xs ≠ ys) (ht : 0 ≤ t ∧ t < 100) (hx : ∀ j, j < 101 → 0 ≤ w.2.1 xs j ∧ w.2.1 xs j ≤ 239) (hy : ∀ j, j < 101 → 0 ≤ w.2.1 ys j ∧ w.2.1 ys j ≤ 119) : (∀ j, j < 101 → 0 ≤ (cStay w xs ys sd qi t ck aim).2.2.1 xs j ∧ (cStay w xs ys sd qi t ck aim).2.2.1 xs j ≤ 239) ∧ ∀ j, j < 101 → 0 ≤ (cStay w xs ys sd qi t ck aim).2.2.1 ys j ∧ (cStay w xs ys sd qi t ck aim).2.2.1 ys j ≤ 119 := by
  have hB : ∀ X Y : Int, (0 ≤ X ∧ X ≤ 239) → (0 ≤ Y ∧ Y ≤ 119) → (∀ j, j < 101 → 0 ≤ (cStB w xs ys qi t X Y).2.1 xs j ∧ (cStB w xs ys qi t X Y).2.1 xs j ≤ 239) ∧ ∀ j, j < 101 → 0 ≤ (cStB w xs ys qi t X Y).2.1 ys j ∧ (cStB w xs ys qi t X Y).2.1 ys j ≤ 119 := fun X Y h1 h2 => by
    have e1 : (cStB w xs ys qi t X Y).2.1 xs = va_up (w.2.1 xs) (t + 1).toNat X := by
      show va_up (va_up w.2.1 xs _) ys _ xs = _
      rw [up_n _ _ hne, up_s]
    have e2 : (cStB w xs ys qi t X Y).2.1 ys = va_up (w.2.1 ys) (t + 1).toNat Y := by
      show va_up (va_up w.2.1 xs _) ys _ ys = _
      rw [up_s]
    rw [e1, e2]
    exact ⟨up_r hx h1.1 h1.2, up_r hy h2.1 h2.2⟩
  unfold cStay
  split
  · next hp => exact hB _ _ hp.1 hp.2
  · exact hB _ _ (hx _ (by omega)) (hy _ (by omega))
theorem cCrL_rng {xs ys sd qi rc : Nat} (hne : xs ≠ ys) (hrq : rc ≠ qi) {q aim e0 : Int} : ∀ (n : Nat) (t : Int) (w : gS), 0 ≤ t → w.1 rc ≤ 100 → (∀ j, j < 101 → 0 ≤ w.2.1 xs j ∧ w.2.1 xs j ≤ 239) → (∀ j, j < 101 → 0 ≤ w.2.1 ys j ∧ w.2.1 ys j ≤ 119) → (∀ j, j < 101 → 0 ≤ (cCrL xs ys sd qi rc q aim e0 n t w).2.2.1 xs j ∧ (cCrL xs ys sd qi rc q aim e0 n t w).2.2.1 xs j ≤ 239) ∧ ∀ j, j < 101 → 0 ≤ (cCrL xs ys sd qi rc q aim e0 n t w).2.2.1 ys j ∧ (cCrL xs ys sd qi rc q aim e0 n t w).2.2.1 ys j ≤ 119
  | 0, t, w, _, _, hx, hy => ⟨hx, hy⟩
  | n + 1, t, w, h0, hr, hx, hy => by
    unfold cCrL
    by_cases ht : t < w.1 rc
    · rw [if_pos ht]
      obtain ⟨a1, a2⟩ := cStay_rng (w := w) (sd := sd) (qi := qi) (ck := q + t) (aim := aim) hne ⟨h0, by omega⟩ hx hy
      have a3 := (cStay_keep w xs ys sd qi t (q + t) aim).2.1 rc hrq
      (repeat' split) <;> first | exact ⟨a1, a2⟩ | exact cCrL_rng hne hrq n (t + 1) _ (by omega) (by rw [a3]; exact hr) a1 a2
    · rw [if_neg ht]
      exact ⟨hx, hy⟩
theorem cCross_keepG {u : gS} {xs ys sd cl qi co rc tc : Nat} {x y q aim : Int} : (∀ k, k ≠ xs ∧ k ≠ ys → (cCross u xs ys sd cl qi co rc tc x y q aim).2.2.1 k = u.2.1 k) ∧ (∀ i, i ≠ qi ∧ i ≠ co → (cCross u xs ys sd cl qi co rc tc x y q aim).2.1 i = u.1 i) ∧ (cCross u xs ys sd cl qi co rc tc x y q aim).2.2.2 = u.2.2 := by
  obtain ⟨b1, b2, b3⟩ := cCrL_keep xs ys sd qi rc q aim (if u.1 tc = 0 then 3 else 1) 101 0 (cCr0 u xs ys qi x y)
  refine ⟨fun k hk => ?_, fun i hi => ?_, b3⟩
  · show (cCrL xs ys sd qi rc q aim (if u.1 tc = 0 then 3 else 1) 101 0 (cCr0 u xs ys qi x y)).2.2.1 k = _
    rw [b1 k hk]
    show va_up (va_up u.2.1 xs _) ys _ k = _
    rw [up_n _ _ hk.2, up_n _ _ hk.1]
  · show va_up (cCrL xs ys sd qi rc q aim (if u.1 tc = 0 then 3 else 1) 101 0 (cCr0 u xs ys qi x y)).2.1 co _ i = _
    rw [up_n _ _ hi.2, b2 i hi.1]
    show va_up u.1 qi 0 i = _
    rw [up_n _ _ hi.1]
theorem cCross_rngG {u : gS} {xs ys sd cl qi co rc tc : Nat} {x y q aim : Int} (hne : xs ≠ ys) (hrq : rc ≠ qi) (hr : u.1 rc ≤ 100) (hx0 : 0 ≤ x ∧ x ≤ 239) (hy0 : 0 ≤ y ∧ y ≤ 119) (hx : ∀ j, j < 101 → 0 ≤ u.2.1 xs j ∧ u.2.1 xs j ≤ 239) (hy : ∀ j, j < 101 → 0 ≤ u.2.1 ys j ∧ u.2.1 ys j ≤ 119) : (∀ j, j < 101 → 0 ≤ (cCross u xs ys sd cl qi co rc tc x y q aim).2.2.1 xs j ∧ (cCross u xs ys sd cl qi co rc tc x y q aim).2.2.1 xs j ≤ 239) ∧ ∀ j, j < 101 → 0 ≤ (cCross u xs ys sd cl qi co rc tc x y q aim).2.2.1 ys j ∧ (cCross u xs ys sd cl qi co rc tc x y q aim).2.2.1 ys j ≤ 119 := by
  have e1 : (cCr0 u xs ys qi x y).2.1 xs = va_up (u.2.1 xs) 0 x := by
    show va_up (va_up u.2.1 xs _) ys _ xs = _
    rw [up_n _ _ hne, up_s]
  have e2 : (cCr0 u xs ys qi x y).2.1 ys = va_up (u.2.1 ys) 0 y := by
    show va_up (va_up u.2.1 xs _) ys _ ys = _
    rw [up_s]
  exact cCrL_rng hne hrq 101 0 (cCr0 u xs ys qi x y) (by omega) (by
    show va_up u.1 qi 0 rc ≤ 100
    rw [up_n _ _ hrq]
    exact hr) (by rw [e1]; exact up_r hx hx0.1 hx0.2) (by rw [e2]; exact up_r hy hy0.1 hy0.2)
theorem upx4 {α : Type} {f g : Nat → α} {a b c d : Nat} (h : ∀ i, i ≠ a ∧ i ≠ b ∧ i ≠ c ∧ i ≠ d → f i = g i) : f = va_up (va_up (va_up (va_up g a (f a)) b (f b)) c (f c)) d (f d) := by
  funext i
  unfold va_up
  (repeat' split) <;> first | (rename_i q; rw [q]; done) | (refine h i ⟨?_, ?_, ?_, ?_⟩ <;> assumption)
theorem upx5 {α : Type} {f g : Nat → α} {a b c d e : Nat} (h : ∀ i, i ≠ a ∧ i ≠ b ∧ i ≠ c ∧ i ≠ d ∧ i ≠ e → f i = g i) : f = va_up (va_up (va_up (va_up (va_up g a (f a)) b (f b)) c (f c)) d (f d)) e (f e) := by
  funext i
  unfold va_up
  (repeat' split) <;> first | (rename_i q; rw [q]; done) | (refine h i ⟨?_, ?_, ?_, ?_, ?_⟩ <;> assumption)
theorem rel_swim {cy : Nat → ClassId} {u : gS} (h : Rel cy u) (x13 x14 x15 x16 x38 x39 x40 x41 : Nat → Int) (a5 a6 a7 a8 a9 a24 : Int) (hr : (∀ j, j < 100 → 0 ≤ x15 j ∧ x15 j ≤ 24) ∧ (∀ j, j < 101 → 0 ≤ x16 j ∧ x16 j ≤ 100000) ∧ (0 ≤ a8 ∧ a8 ≤ 100) ∧ (a9 = 0 ∨ a9 = 1) ∧ x16 0 = 0) (h13 : ∀ j, j < 101 → 0 ≤ x13 j ∧ x13 j ≤ 239) (h14 : ∀ j, j < 101 → 0 ≤ x14 j ∧ x14 j ≤ 119) (hR : (∀ j, j < 202 → -1000 ≤ x38 j ∧ x38 j ≤ 1000) ∧ (∀ j, j < 202 → -1000 ≤ x39 j ∧ x39 j ≤ 1000) ∧ (∀ j, j < 2 → 0 ≤ x40 j ∧ x40 j ≤ 100) ∧ (∀ j, j < 2 → 0 ≤ x41 j ∧ x41 j ≤ 100000)) (h24 : 0 ≤ a24 ∧ a24 ≤ 9) (h5 : a5 = a24) (h6 : 1 ≤ a6 ∧ a6 ≤ 100) (h40 : x40 0 = a6) (h41 : x41 0 = a7) (hxy : ∀ j : Nat, (j : Int) ≤ a6 → x13 j = x38 j ∧ x14 j = x39 j) : Rel cy (sF (sF (sF (sF (sI (sI (sI (sI (sI (sI (sF (sF (sF (sF u 13 x13) 14 x14) 15 x15) 16 x16) 5 a5) 6 a6) 7 a7) 8 a8) 9 a9) 24 a24) 38 x38) 39 x39) 40 x40) 41 x41) :=
  ⟨⟨h.m.i21, h.m.i22, h.m.i23, ⟨(by show -1 ≤ a24; omega), h24.2⟩, h.m.i25, h.m.i26, h.m.i27, h.m.i28, h.m.b31, h.m.i32, h.m.i33, h.m.i34, h.m.i35, h.m.i36, h.m.i37, hR.1, hR.2.1, hR.2.2.1, hR.2.2.2, h.m.i42, h.m.i43, h.m.i44, h.m.i45, h.m.i46, h.m.i47, h.m.i48, h.m.b49, h.m.i50, h.m.i51, h.m.i53, h.m.b54, h.m.z51, h.m.i58, h.m.i59, h.m.i60, h.m.i61, h.m.i62⟩, h.e0, h.e1, h.e2, h.e3, h.e4, ⟨(by show 0 ≤ a6; omega), h6.2⟩, hr, h.rd2, h.f9, h.f10, h.f11, h13, h14, Or.inr ⟨h24, h5, h6, h40, h41, hxy⟩, h.tal, h.c22, h.c23, h.c24, h.c18, h.b25, h.c26, h.c27, h.n, h.sw, h.sh, h.dS, h.sl, h.dB⟩
theorem rel_try {cy : Nat → ClassId} {u : gS} (h : Rel cy u) (x17 x18 x19 x20 x38 x39 x40 x41 : Nat → Int) (a10 a11 a12 a13 a14 : Int) (hr : (∀ j, j < 100 → 0 ≤ x19 j ∧ x19 j ≤ 24) ∧ (∀ j, j < 101 → 0 ≤ x20 j ∧ x20 j ≤ 100000) ∧ (0 ≤ a13 ∧ a13 ≤ 100) ∧ (a14 = 0 ∨ a14 = 1) ∧ x20 0 = 0) (hR : (∀ j, j < 202 → -1000 ≤ x38 j ∧ x38 j ≤ 1000) ∧ (∀ j, j < 202 → -1000 ≤ x39 j ∧ x39 j ≤ 1000) ∧ (∀ j, j < 2 → 0 ≤ x40 j ∧ x40 j ≤ 100) ∧ (∀ j, j < 2 → 0 ≤ x41 j ∧ x41 j ≤ 100000)) (hL : (∀ j, j < 101 → x38 j = u.2.1 38 j) ∧ (∀ j, j < 101 → x39 j = u.2.1 39 j) ∧ x40 0 = u.2.1 40 0 ∧ x41 0 = u.2.1 41 0) : Rel cy (sF (sF (sF (sF (sI (sI (sI (sI (sI (sF (sF (sF (sF u 17 x17) 18 x18) 19 x19) 20 x20) 10 a10) 11 a11) 12 a12) 13 a13) 14 a14) 38 x38) 39 x39) 40 x40) 41 x41) :=
  have hl : rLat (sF (sF (sF (sF (sI (sI (sI (sI (sI (sF (sF (sF (sF u 17 x17) 18 x18) 19 x19) 20 x20) 10 a10) 11 a11) 12 a12) 13 a13) 14 a14) 38 x38) 39 x39) 40 x40) 41 x41) := by
    rcases h.lat with ⟨l1, l2⟩ | ⟨l1, l2, l3, l4, l5, l6⟩
    · exact Or.inl ⟨l1, l2⟩
    · refine Or.inr ⟨l1, l2, l3, hL.2.2.1.trans l4, hL.2.2.2.trans l5, fun j hj => ?_⟩
      have hj : (j : Int) ≤ u.1 6 := hj
      have g := l6 j hj
      exact ⟨g.1.trans (hL.1 j (by omega)).symm, g.2.trans (hL.2.1 j (by omega)).symm⟩
  ⟨⟨h.m.i21, h.m.i22, h.m.i23, h.m.i24, h.m.i25, h.m.i26, h.m.i27, h.m.i28, h.m.b31, h.m.i32, h.m.i33, h.m.i34, h.m.i35, h.m.i36, h.m.i37, hR.1, hR.2.1, hR.2.2.1, hR.2.2.2, h.m.i42, h.m.i43, h.m.i44, h.m.i45, h.m.i46, h.m.i47, h.m.i48, h.m.b49, h.m.i50, h.m.i51, h.m.i53, h.m.b54, h.m.z51, h.m.i58, h.m.i59, h.m.i60, h.m.i61, h.m.i62⟩, h.e0, h.e1, h.e2, h.e3, h.e4, h.c6, h.rd1, hr, h.f9, h.f10, h.f11, h.c13, h.c14, hl, h.tal, h.c22, h.c23, h.c24, h.c18, h.b25, h.c26, h.c27, h.n, h.sw, h.sh, h.dS, h.sl, h.dB⟩
theorem re_swim {cy : Nat → ClassId} {u : gS} (h : Rel cy u) (p1 p2 p3 p4 p5 : Int) : sM u (cSwim u (u.2.1 34) (u.2.1 35) (u.2.1 36) (u.2.1 37) p1 p2 p3 p4 p5).2 ∧ (cSwim u (u.2.1 34) (u.2.1 35) (u.2.1 36) (u.2.1 37) p1 p2 p3 p4 p5).1 = (mSwim (cSwim u (u.2.1 34) (u.2.1 35) (u.2.1 36) (u.2.1 37) p1 p2 p3 p4 p5).2 p1 p2 p3 p4 p5).1 ∧ Rel cy (mSwim (cSwim u (u.2.1 34) (u.2.1 35) (u.2.1 36) (u.2.1 37) p1 p2 p3 p4 p5).2 p1 p2 p3 p4 p5).2 := by
  have e0 := h.e0
  have i23 := h.m.i23
  by_cases hv : (0 ≤ p1 ∧ p1 ≤ u.1 0 - 1) ∧ ((0 ≤ p2 ∧ p2 ≤ 239) ∧ (0 ≤ p3 ∧ p3 ≤ 119)) ∧ (0 ≤ p4 ∧ p4 ≤ 47) ∧ (0 ≤ p5 ∧ p5 ≤ 7)
  · have hv2 : (0 ≤ p1 ∧ p1 ≤ u.1 23 - 1) ∧ ((0 ≤ p2 ∧ p2 ≤ 239) ∧ (0 ≤ p3 ∧ p3 ≤ 119)) ∧ (0 ≤ p4 ∧ p4 ≤ 47) ∧ (0 ≤ p5 ∧ p5 ≤ 7) := by rw [← e0]; exact hv
    have hdr : spDry (u.2.1 9) p2 p3 = spDry (u.2.1 31) p2 p3 := h.f9 _ (by omega)
    by_cases hd : spDry (u.2.1 9) p2 p3 = 0
    · obtain ⟨G, hGe⟩ : ∃ G : gS, G = (cReady u 15 16 5 8 9 (u.2.1 34 p1.toNat) (p1.toNat : Int) (u.2.1 35 p1.toNat) (u.2.1 36 p1.toNat) (u.2.1 37 p1.toNat) (u.1 1)) := ⟨_, rfl⟩
      obtain ⟨V, hVe⟩ : ∃ V : Int × gS, V = cCross G 13 14 15 16 6 7 8 9 p2 p3 p4 p5 := ⟨_, rfl⟩
      have c0 : cSwim u (u.2.1 34) (u.2.1 35) (u.2.1 36) (u.2.1 37) p1 p2 p3 p4 p5 = V := by
        rw [hVe, hGe]
        exact (if_pos hv).trans (if_pos hd)
      have hs10 : p1.toNat < 10 := by omega
      have hch : 0 ≤ u.1 1 ∧ u.1 1 ≤ 20 := by rw [h.e1]; exact h.m.i21
      obtain ⟨g1, g2, g3, g4⟩ := cReady_inv (u := u) (sd := 15) (cl := 16) (nu := 5) (rc := 8) (tc := 9) (by decide) (by decide) (K := u.2.1 34 p1.toNat) (nm := (p1.toNat : Int)) (sp := u.2.1 35 p1.toNat) (li := u.2.1 36 p1.toNat) (fd := u.2.1 37 p1.toNat) (ch := u.1 1) (h.m.i34 _ hs10) (h.m.i35 _ hs10) hch h.rd1
      have go := cReady_ok (u := u) (sd := 15) (cl := 16) (nu := 5) (rc := 8) (tc := 9) (by decide) (by decide) (K := u.2.1 34 p1.toNat) (nm := (p1.toNat : Int)) (sp := u.2.1 35 p1.toNat) (li := u.2.1 36 p1.toNat) (fd := u.2.1 37 p1.toNat) (ch := u.1 1) h.rd1.2.2.2.2
      rw [← hGe] at g1 g2 g3 g4 go
      have hF := go.fact
      have g5 : G.1 5 = (p1.toNat : Int) := by
        obtain ⟨R, -, -, -, -, -, -, o7, -⟩ := go
        exact o7 5 (by decide)
      obtain ⟨k1, k2, k3⟩ := cCross_keepG (u := G) (xs := 13) (ys := 14) (sd := 15) (cl := 16) (qi := 6) (co := 7) (rc := 8) (tc := 9) (x := p2) (y := p3) (q := p4) (aim := p5)
      obtain ⟨n1, n2⟩ := cCross_rngG (u := G) (xs := 13) (ys := 14) (sd := 15) (cl := 16) (qi := 6) (co := 7) (rc := 8) (tc := 9) (x := p2) (y := p3) (q := p4) (aim := p5) (by decide) (by decide) g1.2.2.1.2 hv.2.1.1 hv.2.1.2 (by rw [g2 13 (by decide)]; exact h.c13) (by rw [g2 14 (by decide)]; exact h.c14)
      rw [← hVe] at k1 k2 k3 n1 n2
      have vi : ∀ i, i ≠ 5 ∧ i ≠ 6 ∧ i ≠ 7 ∧ i ≠ 8 ∧ i ≠ 9 → V.2.1 i = u.1 i := fun i hi => (k2 i ⟨hi.2.1, hi.2.2.1⟩).trans (g3 i ⟨hi.2.2.2.1, hi.2.2.2.2, hi.1⟩)
      have vr : ∀ k, k ≠ 13 ∧ k ≠ 14 ∧ k ≠ 15 ∧ k ≠ 16 → V.2.2.1 k = u.2.1 k := fun k hk => (k1 k ⟨hk.1, hk.2.1⟩).trans (g2 k hk.2.2)
      have vp : V.2.2.2 = u.2.2 := k3.trans g4
      have vs : sM u V.2 := ⟨fun i hi => vi i ⟨by omega, by omega, by omega, by omega, by omega⟩, fun k hk => vr k ⟨by omega, by omega, by omega, by omega⟩⟩
      have hMv := h.m.kept vs
      obtain ⟨Z, hZe⟩ : ∃ Z : Int × gS, Z = mStepA (sI V.2 24 p1) ((0 : Nat) : Int) p1 p2 p3 p4 p5 := ⟨_, rfl⟩
      have m0 : mSwim V.2 p1 p2 p3 p4 p5 = Z := by
        rw [hZe]
        refine (if_pos ?_).trans (if_pos ?_)
        · rw [vs.1 23 (by decide)]
          exact hv2
        · rw [vs.2 31 (by decide), ← hdr]
          exact hd
      have hce := cross_eq (xs := 13) (ys := 14) (sd := 15) (cl := 16) (qi := 6) (co := 7) (rc := 8) (tc := 9) (by decide) (by decide) (by decide) (by decide) (by decide) (by decide) (r := 0) (by decide) (s := p1) (x := p2) (y := p3) (q := p4) (aim := p5) (m := sI V.2 24 p1) hch.1 hv.2.2.1.1 hv.2.1.1 hv.2.1.2 hF ⟨congrFun (vs.2 34 (by decide)) _, congrFun (vs.2 35 (by decide)) _, congrFun (vs.2 36 (by decide)) _, congrFun (vs.2 37 (by decide)) _, (vs.1 21 (by decide)).trans h.e1.symm⟩ ⟨fun j hj => by
          show G.2.1 10 j = V.2.2.1 32 j
          rw [g2 10 (by decide), vs.2 32 (by decide)]
          exact h.f10 j hj, fun j hj => by
          show G.2.1 11 j = V.2.2.1 33 j
          rw [g2 11 (by decide), vs.2 33 (by decide)]
          exact h.f11 j hj, fun j hj => by
          show G.2.1 9 j = V.2.2.1 31 j
          rw [g2 9 (by decide), vs.2 31 (by decide)]
          exact h.f9 j hj⟩
      rw [← hVe, ← hZe] at hce
      obtain ⟨q1, Q, q2, q3, q4, q5, q6⟩ := hce
      obtain ⟨z1, z2, z3⟩ := mStepA_keep (sI V.2 24 p1) ((0 : Nat) : Int) p1 p2 p3 p4 p5
      obtain ⟨j1, -⟩ := mStepA_J (u := sI V.2 24 p1) (row := ((0 : Nat) : Int)) (s := p1) (x := p2) (y := p3) (q := p4) (aim := p5) (Or.inl rfl) ⟨hv.1.1, by omega⟩ hv.2.1.1 hv.2.1.2 ⟨hMv.i38, hMv.i39, hMv.i40, hMv.i41⟩ hMv.st
      rw [← hZe] at z1 z2 z3 j1
      have vF : V.2 = sI (sI (sI (sI (sI (sF (sF (sF (sF u 13 (V.2.2.1 13)) 14 (V.2.2.1 14)) 15 (V.2.2.1 15)) 16 (V.2.2.1 16)) 5 (V.2.1 5)) 6 (V.2.1 6)) 7 (V.2.1 7)) 8 (V.2.1 8)) 9 (V.2.1 9) := Prod.ext (upx5 vi) (Prod.ext (upx4 vr) vp)
      have wF : Z.2 = sF (sF (sF (sF (sI V.2 24 p1) 38 (Z.2.2.1 38)) 39 (Z.2.2.1 39)) 40 (Z.2.2.1 40)) 41 (Z.2.2.1 41) := Prod.ext z1 (Prod.ext (upx4 z2) z3)
      have wF2 := wF.trans (congrArg (fun g : gS => sF (sF (sF (sF (sI g 24 p1) 38 (Z.2.2.1 38)) 39 (Z.2.2.1 39)) 40 (Z.2.2.1 40)) 41 (Z.2.2.1 41)) vF)
      have hfin := rel_swim h (V.2.2.1 13) (V.2.2.1 14) (V.2.2.1 15) (V.2.2.1 16) (Z.2.2.1 38) (Z.2.2.1 39) (Z.2.2.1 40) (Z.2.2.1 41) (V.2.1 5) (V.2.1 6) (V.2.1 7) (V.2.1 8) (V.2.1 9) p1 (by
        rw [k1 15 (by decide), k1 16 (by decide), k2 8 (by decide), k2 9 (by decide)]
        exact g1) n1 n2 j1 ⟨hv.1.1, by omega⟩ (by
        rw [k2 5 (by decide), g5]
        omega) (by rw [q3]; omega) (by rw [q3]; exact q4) q6.symm (fun j hj => by
        rw [q3] at hj
        have q7 := q5 j (by omega)
        rw [show 101 * 0 + j = j by omega] at q7
        exact ⟨q7.1, q7.2.1⟩)
      rw [c0, m0]
      refine ⟨vs, q1, ?_⟩
      rw [wF2]
      exact hfin
    · have c0 : cSwim u (u.2.1 34) (u.2.1 35) (u.2.1 36) (u.2.1 37) p1 p2 p3 p4 p5 = (-4, u) := (if_pos hv).trans (if_neg hd)
      have m0 : mSwim u p1 p2 p3 p4 p5 = (-4, u) := (if_pos hv2).trans (if_neg (by rw [← hdr]; exact hd))
      rw [c0]
      show sM u u ∧ (-4 : Int) = (mSwim u p1 p2 p3 p4 p5).1 ∧ Rel cy (mSwim u p1 p2 p3 p4 p5).2
      rw [m0]
      exact ⟨sM.rf u, rfl, h⟩
  · have c0 : cSwim u (u.2.1 34) (u.2.1 35) (u.2.1 36) (u.2.1 37) p1 p2 p3 p4 p5 = (-1, u) := if_neg hv
    have m0 : mSwim u p1 p2 p3 p4 p5 = (-1, u) := if_neg (by rw [← e0]; exact hv)
    rw [c0]
    show sM u u ∧ (-1 : Int) = (mSwim u p1 p2 p3 p4 p5).1 ∧ Rel cy (mSwim u p1 p2 p3 p4 p5).2
    rw [m0]
    exact ⟨sM.rf u, rfl, h⟩
theorem re_best {cy : Nat → ClassId} {u : gS} (h : Rel cy u) (p1 p2 p3 : Int) : sM u (cBest u (u.2.1 34) (u.2.1 35) (u.2.1 36) (u.2.1 37) p1 p2 p3).2 ∧ (cBest u (u.2.1 34) (u.2.1 35) (u.2.1 36) (u.2.1 37) p1 p2 p3).1 = (mBest (cBest u (u.2.1 34) (u.2.1 35) (u.2.1 36) (u.2.1 37) p1 p2 p3).2 p1 p2 p3).1 ∧ Rel cy (mBest (cBest u (u.2.1 34) (u.2.1 35) (u.2.1 36) (u.2.1 37) p1 p2 p3).2 p1 p2 p3).2 := by
  have e0 := h.e0
  have i23 := h.m.i23
  by_cases hv : (0 ≤ p1 ∧ p1 ≤ u.1 0 - 1) ∧ ((0 ≤ p2 ∧ p2 ≤ 239) ∧ (0 ≤ p3 ∧ p3 ≤ 119))
  · have hv2 : (0 ≤ p1 ∧ p1 ≤ u.1 23 - 1) ∧ ((0 ≤ p2 ∧ p2 ≤ 239) ∧ (0 ≤ p3 ∧ p3 ≤ 119)) := by rw [← e0]; exact hv
    have hvx : 0 ≤ p2 ∧ p2 ≤ 239 := by omega
    have hvy : 0 ≤ p3 ∧ p3 ≤ 119 := by omega
    have hvs : 0 ≤ p1 ∧ p1 ≤ 9 := by omega
    have hdr : spDry (u.2.1 9) p2 p3 = spDry (u.2.1 31) p2 p3 := h.f9 _ (by omega)
    by_cases hd : spDry (u.2.1 9) p2 p3 = 0
    · obtain ⟨G, hGe⟩ : ∃ G : gS, G = cRdT u (u.2.1 34) (u.2.1 35) (u.2.1 36) (u.2.1 37) p1 := ⟨_, rfl⟩
      obtain ⟨V, hVe⟩ : ∃ V : Int × gS, V = cBestO p2 p3 49 0 101 (-4) G := ⟨_, rfl⟩
      have c0 : cBest u (u.2.1 34) (u.2.1 35) (u.2.1 36) (u.2.1 37) p1 p2 p3 = V := by
        rw [hVe, hGe]
        exact (if_pos hv).trans (if_pos hd)
      have hs10 : p1.toNat < 10 := by omega
      have hch : 0 ≤ u.1 1 ∧ u.1 1 ≤ 20 := by rw [h.e1]; exact h.m.i21
      have gi := cReady_inv (u := u) (sd := 19) (cl := 20) (nu := 10) (rc := 13) (tc := 14) (by decide) (by decide) (K := u.2.1 34 p1.toNat) (nm := (p1.toNat : Int)) (sp := u.2.1 35 p1.toNat) (li := u.2.1 36 p1.toNat) (fd := u.2.1 37 p1.toNat) (ch := u.1 1) (h.m.i34 _ hs10) (h.m.i35 _ hs10) hch h.rd2
      have go := cReady_ok (u := u) (sd := 19) (cl := 20) (nu := 10) (rc := 13) (tc := 14) (by decide) (by decide) (K := u.2.1 34 p1.toNat) (nm := (p1.toNat : Int)) (sp := u.2.1 35 p1.toNat) (li := u.2.1 36 p1.toNat) (fd := u.2.1 37 p1.toNat) (ch := u.1 1) h.rd2.2.2.2.2
      rw [show cReady u 19 20 10 13 14 (u.2.1 34 p1.toNat) (p1.toNat : Int) (u.2.1 35 p1.toNat) (u.2.1 36 p1.toNat) (u.2.1 37 p1.toNat) (u.1 1) = G from hGe.symm] at gi go
      obtain ⟨g1, g2, g3, g4⟩ := gi
      have hF := go.fact
      have tr : ∀ m : gS, sM u m → TrI p1 (u.2.1 34 p1.toNat) (u.2.1 35 p1.toNat) (u.2.1 36 p1.toNat) (u.2.1 37 p1.toNat) (u.1 1) G m := fun m hm => ⟨hF, ⟨congrFun (hm.2 34 (by decide)) _, congrFun (hm.2 35 (by decide)) _, congrFun (hm.2 36 (by decide)) _, congrFun (hm.2 37 (by decide)) _, (hm.1 21 (by decide)).trans h.e1.symm⟩, fun j hj => by
          rw [g2 10 (by decide), hm.2 32 (by decide)]
          exact h.f10 j hj, fun j hj => by
          rw [g2 11 (by decide), hm.2 33 (by decide)]
          exact h.f11 j hj, fun j hj => by
          rw [g2 9 (by decide), hm.2 31 (by decide)]
          exact h.f9 j hj⟩
      have kc := (bestO_eq (s := p1) (x := p2) (y := p3) hch.1 hvx hvy 49 0 101 (-4) (-4) 0 G u (by decide) (tr u (sM.rf u)) ⟨rfl, Or.inl ⟨rfl, rfl⟩⟩).2.1
      rw [← hVe] at kc
      obtain ⟨k1, k2, k3⟩ := kc
      have vi : ∀ i, i ≠ 10 ∧ i ≠ 11 ∧ i ≠ 12 ∧ i ≠ 13 ∧ i ≠ 14 → V.2.1 i = u.1 i := fun i hi => (k2 i ⟨hi.2.1, hi.2.2.1⟩).trans (g3 i ⟨hi.2.2.2.1, hi.2.2.2.2, hi.1⟩)
      have vr : ∀ k, k ≠ 17 ∧ k ≠ 18 ∧ k ≠ 19 ∧ k ≠ 20 → V.2.2.1 k = u.2.1 k := fun k hk => (k1 k ⟨hk.1, hk.2.1⟩).trans (g2 k hk.2.2)
      have vp : V.2.2.2 = u.2.2 := k3.trans g4
      have vs : sM u V.2 := ⟨fun i hi => vi i ⟨by omega, by omega, by omega, by omega, by omega⟩, fun k hk => vr k ⟨by omega, by omega, by omega, by omega⟩⟩
      have hMv := h.m.kept vs
      obtain ⟨Z, hZe⟩ : ∃ Z : Int × gS, Z = mBestO p1 p2 p3 49 0 (-4) 0 V.2 := ⟨_, rfl⟩
      have m0 : mBest V.2 p1 p2 p3 = Z := by
        rw [hZe]
        refine (if_pos ?_).trans (if_pos ?_)
        · rw [vs.1 23 (by decide)]
          exact hv2
        · rw [vs.2 31 (by decide), ← hdr]
          exact hd
      obtain ⟨q1, -, km⟩ := bestO_eq (s := p1) (x := p2) (y := p3) hch.1 hvx hvy 49 0 101 (-4) (-4) 0 G V.2 (by decide) (tr V.2 vs) ⟨rfl, Or.inl ⟨rfl, rfl⟩⟩
      have j1 := (mBestO_J hvs hvx hvy 49 0 (-4) 0 V.2 ⟨hMv.i38, hMv.i39, hMv.i40, hMv.i41⟩ hMv.st).1
      rw [← hVe, ← hZe] at q1
      rw [← hZe] at km j1
      obtain ⟨z1, z2, z3, z4⟩ := km
      have vF : V.2 = sI (sI (sI (sI (sI (sF (sF (sF (sF u 17 (V.2.2.1 17)) 18 (V.2.2.1 18)) 19 (V.2.2.1 19)) 20 (V.2.2.1 20)) 10 (V.2.1 10)) 11 (V.2.1 11)) 12 (V.2.1 12)) 13 (V.2.1 13)) 14 (V.2.1 14) := Prod.ext (upx5 vi) (Prod.ext (upx4 vr) vp)
      have wF : Z.2 = sF (sF (sF (sF V.2 38 (Z.2.2.1 38)) 39 (Z.2.2.1 39)) 40 (Z.2.2.1 40)) 41 (Z.2.2.1 41) := Prod.ext z1 (Prod.ext (upx4 z2) z3)
      have wF2 := wF.trans (congrArg (fun g : gS => sF (sF (sF (sF g 38 (Z.2.2.1 38)) 39 (Z.2.2.1 39)) 40 (Z.2.2.1 40)) 41 (Z.2.2.1 41)) vF)
      have hfin := rel_try h (V.2.2.1 17) (V.2.2.1 18) (V.2.2.1 19) (V.2.2.1 20) (Z.2.2.1 38) (Z.2.2.1 39) (Z.2.2.1 40) (Z.2.2.1 41) (V.2.1 10) (V.2.1 11) (V.2.1 12) (V.2.1 13) (V.2.1 14) (by
        rw [k1 19 (by decide), k1 20 (by decide), k2 13 (by decide), k2 14 (by decide)]
        exact g1) j1 (by
        obtain ⟨y1, y2, y3, y4⟩ := z4
        rw [vs.2 38 (by decide)] at y1
        rw [vs.2 39 (by decide)] at y2
        rw [vs.2 40 (by decide)] at y3
        rw [vs.2 41 (by decide)] at y4
        exact ⟨y1, y2, y3, y4⟩)
      rw [c0, m0]
      refine ⟨vs, q1, ?_⟩
      rw [wF2]
      exact hfin
    · have c0 : cBest u (u.2.1 34) (u.2.1 35) (u.2.1 36) (u.2.1 37) p1 p2 p3 = (-4, u) := (if_pos hv).trans (if_neg hd)
      have m0 : mBest u p1 p2 p3 = (-4, u) := (if_pos hv2).trans (if_neg (by rw [← hdr]; exact hd))
      rw [c0]
      show sM u u ∧ (-4 : Int) = (mBest u p1 p2 p3).1 ∧ Rel cy (mBest u p1 p2 p3).2
      rw [m0]
      exact ⟨sM.rf u, rfl, h⟩
  · have c0 : cBest u (u.2.1 34) (u.2.1 35) (u.2.1 36) (u.2.1 37) p1 p2 p3 = (-1, u) := if_neg hv
    have m0 : mBest u p1 p2 p3 = (-1, u) := if_neg (by rw [← e0]; exact hv)
    rw [c0]
    show sM u u ∧ (-1 : Int) = (mBest u p1 p2 p3).1 ∧ Rel cy (mBest u p1 p2 p3).2
    rw [m0]
    exact ⟨sM.rf u, rfl, h⟩
theorem re_ends {cy : Nat → ClassId} {u : gS} (h : Rel cy u) (p1 p2 p3 p4 : Int) : sM u (cEnds u (u.2.1 34) (u.2.1 35) (u.2.1 36) (u.2.1 37) p1 p2 p3 p4).2 ∧ (cEnds u (u.2.1 34) (u.2.1 35) (u.2.1 36) (u.2.1 37) p1 p2 p3 p4).1 = (mEnds (cEnds u (u.2.1 34) (u.2.1 35) (u.2.1 36) (u.2.1 37) p1 p2 p3 p4).2 p1 p2 p3 p4).1 ∧ Rel cy (mEnds (cEnds u (u.2.1 34) (u.2.1 35) (u.2.1 36) (u.2.1 37) p1 p2 p3 p4).2 p1 p2 p3 p4).2 := by
  have e0 := h.e0
  have i23 := h.m.i23
  by_cases hv : (0 ≤ p1 ∧ p1 ≤ u.1 0 - 1) ∧ ((0 ≤ p2 ∧ p2 ≤ 239) ∧ (0 ≤ p3 ∧ p3 ≤ 119)) ∧ (0 ≤ p4 ∧ p4 ≤ 3)
  · have hv2 : (0 ≤ p1 ∧ p1 ≤ u.1 23 - 1) ∧ ((0 ≤ p2 ∧ p2 ≤ 239) ∧ (0 ≤ p3 ∧ p3 ≤ 119)) ∧ (0 ≤ p4 ∧ p4 ≤ 3) := by rw [← e0]; exact hv
    have hvx : 0 ≤ p2 ∧ p2 ≤ 239 := by omega
    have hvy : 0 ≤ p3 ∧ p3 ≤ 119 := by omega
    have hvs : 0 ≤ p1 ∧ p1 ≤ 9 := by omega
    have hdr : spDry (u.2.1 9) p2 p3 = spDry (u.2.1 31) p2 p3 := h.f9 _ (by omega)
    by_cases hd : spDry (u.2.1 9) p2 p3 = 0
    · obtain ⟨G, hGe⟩ : ∃ G : gS, G = cRdT u (u.2.1 34) (u.2.1 35) (u.2.1 36) (u.2.1 37) p1 := ⟨_, rfl⟩
      obtain ⟨V, hVe⟩ : ∃ V : Int × gS, V = cEndsO p2 p3 p4 49 0 0 G := ⟨_, rfl⟩
      have c0 : cEnds u (u.2.1 34) (u.2.1 35) (u.2.1 36) (u.2.1 37) p1 p2 p3 p4 = V := by
        rw [hVe, hGe]
        exact (if_pos hv).trans (if_pos hd)
      have hs10 : p1.toNat < 10 := by omega
      have hch : 0 ≤ u.1 1 ∧ u.1 1 ≤ 20 := by rw [h.e1]; exact h.m.i21
      have gi := cReady_inv (u := u) (sd := 19) (cl := 20) (nu := 10) (rc := 13) (tc := 14) (by decide) (by decide) (K := u.2.1 34 p1.toNat) (nm := (p1.toNat : Int)) (sp := u.2.1 35 p1.toNat) (li := u.2.1 36 p1.toNat) (fd := u.2.1 37 p1.toNat) (ch := u.1 1) (h.m.i34 _ hs10) (h.m.i35 _ hs10) hch h.rd2
      have go := cReady_ok (u := u) (sd := 19) (cl := 20) (nu := 10) (rc := 13) (tc := 14) (by decide) (by decide) (K := u.2.1 34 p1.toNat) (nm := (p1.toNat : Int)) (sp := u.2.1 35 p1.toNat) (li := u.2.1 36 p1.toNat) (fd := u.2.1 37 p1.toNat) (ch := u.1 1) h.rd2.2.2.2.2
      rw [show cReady u 19 20 10 13 14 (u.2.1 34 p1.toNat) (p1.toNat : Int) (u.2.1 35 p1.toNat) (u.2.1 36 p1.toNat) (u.2.1 37 p1.toNat) (u.1 1) = G from hGe.symm] at gi go
      obtain ⟨g1, g2, g3, g4⟩ := gi
      have hF := go.fact
      have tr : ∀ m : gS, sM u m → TrI p1 (u.2.1 34 p1.toNat) (u.2.1 35 p1.toNat) (u.2.1 36 p1.toNat) (u.2.1 37 p1.toNat) (u.1 1) G m := fun m hm => ⟨hF, ⟨congrFun (hm.2 34 (by decide)) _, congrFun (hm.2 35 (by decide)) _, congrFun (hm.2 36 (by decide)) _, congrFun (hm.2 37 (by decide)) _, (hm.1 21 (by decide)).trans h.e1.symm⟩, fun j hj => by
          rw [g2 10 (by decide), hm.2 32 (by decide)]
          exact h.f10 j hj, fun j hj => by
          rw [g2 11 (by decide), hm.2 33 (by decide)]
          exact h.f11 j hj, fun j hj => by
          rw [g2 9 (by decide), hm.2 31 (by decide)]
          exact h.f9 j hj⟩
      have kc := (endsO_eq (s := p1) (x := p2) (y := p3) (en := p4) hch.1 hvx hvy 49 0 0 G u (by decide) (tr u (sM.rf u))).2.1
      rw [← hVe] at kc
      obtain ⟨k1, k2, k3⟩ := kc
      have vi : ∀ i, i ≠ 10 ∧ i ≠ 11 ∧ i ≠ 12 ∧ i ≠ 13 ∧ i ≠ 14 → V.2.1 i = u.1 i := fun i hi => (k2 i ⟨hi.2.1, hi.2.2.1⟩).trans (g3 i ⟨hi.2.2.2.1, hi.2.2.2.2, hi.1⟩)
      have vr : ∀ k, k ≠ 17 ∧ k ≠ 18 ∧ k ≠ 19 ∧ k ≠ 20 → V.2.2.1 k = u.2.1 k := fun k hk => (k1 k ⟨hk.1, hk.2.1⟩).trans (g2 k hk.2.2)
      have vp : V.2.2.2 = u.2.2 := k3.trans g4
      have vs : sM u V.2 := ⟨fun i hi => vi i ⟨by omega, by omega, by omega, by omega, by omega⟩, fun k hk => vr k ⟨by omega, by omega, by omega, by omega⟩⟩
      have hMv := h.m.kept vs
      obtain ⟨Z, hZe⟩ : ∃ Z : Int × gS, Z = mEndsO p1 p2 p3 p4 49 0 0 V.2 := ⟨_, rfl⟩
      have m0 : mEnds V.2 p1 p2 p3 p4 = Z := by
        rw [hZe]
        refine (if_pos ?_).trans (if_pos ?_)
        · rw [vs.1 23 (by decide)]
          exact hv2
        · rw [vs.2 31 (by decide), ← hdr]
          exact hd
      obtain ⟨q1, -, km⟩ := endsO_eq (s := p1) (x := p2) (y := p3) (en := p4) hch.1 hvx hvy 49 0 0 G V.2 (by decide) (tr V.2 vs)
      have j1 := (mEndsO_J (en := p4) hvs hvx hvy 49 0 0 V.2 ⟨hMv.i38, hMv.i39, hMv.i40, hMv.i41⟩ hMv.st).1
      rw [← hVe, ← hZe] at q1
      rw [← hZe] at km j1
      obtain ⟨z1, z2, z3, z4⟩ := km
      have vF : V.2 = sI (sI (sI (sI (sI (sF (sF (sF (sF u 17 (V.2.2.1 17)) 18 (V.2.2.1 18)) 19 (V.2.2.1 19)) 20 (V.2.2.1 20)) 10 (V.2.1 10)) 11 (V.2.1 11)) 12 (V.2.1 12)) 13 (V.2.1 13)) 14 (V.2.1 14) := Prod.ext (upx5 vi) (Prod.ext (upx4 vr) vp)
      have wF : Z.2 = sF (sF (sF (sF V.2 38 (Z.2.2.1 38)) 39 (Z.2.2.1 39)) 40 (Z.2.2.1 40)) 41 (Z.2.2.1 41) := Prod.ext z1 (Prod.ext (upx4 z2) z3)
      have wF2 := wF.trans (congrArg (fun g : gS => sF (sF (sF (sF g 38 (Z.2.2.1 38)) 39 (Z.2.2.1 39)) 40 (Z.2.2.1 40)) 41 (Z.2.2.1 41)) vF)
      have hfin := rel_try h (V.2.2.1 17) (V.2.2.1 18) (V.2.2.1 19) (V.2.2.1 20) (Z.2.2.1 38) (Z.2.2.1 39) (Z.2.2.1 40) (Z.2.2.1 41) (V.2.1 10) (V.2.1 11) (V.2.1 12) (V.2.1 13) (V.2.1 14) (by
        rw [k1 19 (by decide), k1 20 (by decide), k2 13 (by decide), k2 14 (by decide)]
        exact g1) j1 (by
        obtain ⟨y1, y2, y3, y4⟩ := z4
        rw [vs.2 38 (by decide)] at y1
        rw [vs.2 39 (by decide)] at y2
        rw [vs.2 40 (by decide)] at y3
        rw [vs.2 41 (by decide)] at y4
        exact ⟨y1, y2, y3, y4⟩)
      rw [c0, m0]
      refine ⟨vs, q1, ?_⟩
      rw [wF2]
      exact hfin
    · have c0 : cEnds u (u.2.1 34) (u.2.1 35) (u.2.1 36) (u.2.1 37) p1 p2 p3 p4 = (-4, u) := (if_pos hv).trans (if_neg hd)
      have m0 : mEnds u p1 p2 p3 p4 = (-4, u) := (if_pos hv2).trans (if_neg (by rw [← hdr]; exact hd))
      rw [c0]
      show sM u u ∧ (-4 : Int) = (mEnds u p1 p2 p3 p4).1 ∧ Rel cy (mEnds u p1 p2 p3 p4).2
      rw [m0]
      exact ⟨sM.rf u, rfl, h⟩
  · have c0 : cEnds u (u.2.1 34) (u.2.1 35) (u.2.1 36) (u.2.1 37) p1 p2 p3 p4 = (-1, u) := if_neg hv
    have m0 : mEnds u p1 p2 p3 p4 = (-1, u) := if_neg (by rw [← e0]; exact hv)
    rw [c0]
    show sM u u ∧ (-1 : Int) = (mEnds u p1 p2 p3 p4).1 ∧ Rel cy (mEnds u p1 p2 p3 p4).2
    rw [m0]
    exact ⟨sM.rf u, rfl, h⟩
theorem mKeepS_ok {D : Nat} : ∀ (n i : Nat) (w : gS) (S : Nat), w.2.1 62 D = (S : Int) → S ≤ i + n → ∃ Z : Nat → Int, mKeepS (D : Int) n (i : Int) w = sF w 63 Z ∧ (∀ j, i ≤ j → j < S → Z (202 * D + j) = (if j % 2 = 0 then w.2.1 38 (j / 2) else w.2.1 39 (j / 2))) ∧ (∀ k, (k < 202 * D + i ∨ 202 * D + S ≤ k) → Z k = w.2.1 63 k)
  | 0, i, w, S, h1, h2 => ⟨w.2.1 63, (sF_self w 63).symm, fun j a b => by omega, fun _ _ => rfl⟩
  | n + 1, i, w, S, h1, h2 => by
    unfold mKeepS
    have key : ∀ x : Int, x = (if i % 2 = 0 then w.2.1 38 (i / 2) else w.2.1 39 (i / 2)) → (∃ Z : Nat → Int, mKeepS (D : Int) n ((i : Int) + 1) (sF w 63 (va_up (w.2.1 63) (202 * (D : Int) + (i : Int)).toNat x)) = sF w 63 Z ∧ (∀ j, i ≤ j → j < S → Z (202 * D + j) = (if j % 2 = 0 then w.2.1 38 (j / 2) else w.2.1 39 (j / 2))) ∧ (∀ k, (k < 202 * D + i ∨ 202 * D + S ≤ k) → Z k = w.2.1 63 k)) ∨ ¬ i < S := fun x hx => by
      by_cases hiS : i < S
      · obtain ⟨Z, a1, a2, a3⟩ := mKeepS_ok (D := D) n (i + 1) (sF w 63 (va_up (w.2.1 63) (202 * (D : Int) + (i : Int)).toNat x)) S h1 (by omega)
        rw [show ((i + 1 : Nat) : Int) = (i : Int) + 1 by omega] at a1
        have ei : (202 * (D : Int) + (i : Int)).toNat = 202 * D + i := by omega
        refine Or.inl ⟨Z, a1.trans ?_, fun j b1 b2 => ?_, fun k hk => ?_⟩
        · simp only [sF, up_up]
        · by_cases hj : j = i
          · rw [hj, a3 (202 * D + i) (Or.inl (by omega))]
            show va_up (w.2.1 63) (202 * (D : Int) + (i : Int)).toNat x (202 * D + i) = _
            rw [ei, up_s, hx]
          · exact a2 j (by omega) b2
        · rw [a3 k (by omega)]
          show va_up (w.2.1 63) (202 * (D : Int) + (i : Int)).toNat x k = _
          rw [ei, up_n _ _ (by omega)]
      · exact Or.inr hiS
    rw [Int.toNat_natCast, h1]
    by_cases h : (i : Int) < (S : Int)
    · rw [if_pos h]
      by_cases hp : (i : Int) % 2 = 0
      · rw [if_pos hp]
        rcases key (w.2.1 38 ((i : Int) / 2).toNat) (by rw [if_pos (by omega), show ((i : Int) / 2).toNat = i / 2 by omega]) with g | g
        · exact g
        · omega
      · rw [if_neg hp]
        rcases key (w.2.1 39 ((i : Int) / 2).toNat) (by rw [if_neg (by omega), show ((i : Int) / 2).toNat = i / 2 by omega]) with g | g
        · exact g
        · omega
    · rw [if_neg h]
      exact ⟨w.2.1 63, (sF_self w 63).symm, fun j a b => by omega, fun _ _ => rfl⟩
theorem mKeepB_ok {D : Nat} : ∀ (n i : Nat) (w : gS) (S : Nat), w.1 26 = (S : Int) → S ≤ i + n → ∃ Z : Nat → Int, mKeepB (D : Int) n (i : Int) w = sF w 63 Z ∧ (∀ j, i ≤ j → j < S → Z (202 * D + j) = w.2.1 46 j) ∧ (∀ k, (k < 202 * D + i ∨ 202 * D + S ≤ k) → Z k = w.2.1 63 k)
  | 0, i, w, S, h1, h2 => ⟨w.2.1 63, (sF_self w 63).symm, fun j a b => by omega, fun _ _ => rfl⟩
  | n + 1, i, w, S, h1, h2 => by
    unfold mKeepB
    have key : ∀ x : Int, x = w.2.1 46 i → (∃ Z : Nat → Int, mKeepB (D : Int) n ((i : Int) + 1) (sF w 63 (va_up (w.2.1 63) (202 * (D : Int) + (i : Int)).toNat x)) = sF w 63 Z ∧ (∀ j, i ≤ j → j < S → Z (202 * D + j) = w.2.1 46 j) ∧ (∀ k, (k < 202 * D + i ∨ 202 * D + S ≤ k) → Z k = w.2.1 63 k)) ∨ ¬ i < S := fun x hx => by
      by_cases hiS : i < S
      · obtain ⟨Z, a1, a2, a3⟩ := mKeepB_ok (D := D) n (i + 1) (sF w 63 (va_up (w.2.1 63) (202 * (D : Int) + (i : Int)).toNat x)) S h1 (by omega)
        rw [show ((i + 1 : Nat) : Int) = (i : Int) + 1 by omega] at a1
        have ei : (202 * (D : Int) + (i : Int)).toNat = 202 * D + i := by omega
        refine Or.inl ⟨Z, a1.trans ?_, fun j b1 b2 => ?_, fun k hk => ?_⟩
        · simp only [sF, up_up]
        · by_cases hj : j = i
          · rw [hj, a3 (202 * D + i) (Or.inl (by omega))]
            show va_up (w.2.1 63) (202 * (D : Int) + (i : Int)).toNat x (202 * D + i) = _
            rw [ei, up_s, hx]
          · exact a2 j (by omega) b2
        · rw [a3 k (by omega)]
          show va_up (w.2.1 63) (202 * (D : Int) + (i : Int)).toNat x k = _
          rw [ei, up_n _ _ (by omega)]
      · exact Or.inr hiS
    rw [h1]
    by_cases h : (i : Int) < (S : Int)
    · rw [if_pos h]
      rcases key (w.2.1 46 (i : Int).toNat) (by rw [Int.toNat_natCast]) with g | g
      · exact g
      · omega
    · rw [if_neg h]
      exact ⟨w.2.1 63, (sF_self w 63).symm, fun j a b => by omega, fun _ _ => rfl⟩
theorem mMakL_ok {D : Nat} {m : Int} : ∀ (n i : Nat) (w : gS) (S : Nat), m = (S : Int) → S ≤ i + n → ∃ Z : Nat → Int, mMakL (D : Int) m n (i : Int) w = sF w 63 Z ∧ (∀ j, i ≤ j → j < S → Z (202 * D + j) = (0 : Int)) ∧ (∀ k, (k < 202 * D + i ∨ 202 * D + S ≤ k) → Z k = w.2.1 63 k)
  | 0, i, w, S, h1, h2 => ⟨w.2.1 63, (sF_self w 63).symm, fun j a b => by omega, fun _ _ => rfl⟩
  | n + 1, i, w, S, h1, h2 => by
    unfold mMakL
    have key : ∀ x : Int, x = (0 : Int) → (∃ Z : Nat → Int, mMakL (D : Int) m n ((i : Int) + 1) (sF w 63 (va_up (w.2.1 63) (202 * (D : Int) + (i : Int)).toNat x)) = sF w 63 Z ∧ (∀ j, i ≤ j → j < S → Z (202 * D + j) = (0 : Int)) ∧ (∀ k, (k < 202 * D + i ∨ 202 * D + S ≤ k) → Z k = w.2.1 63 k)) ∨ ¬ i < S := fun x hx => by
      by_cases hiS : i < S
      · obtain ⟨Z, a1, a2, a3⟩ := mMakL_ok (D := D) n (i + 1) (sF w 63 (va_up (w.2.1 63) (202 * (D : Int) + (i : Int)).toNat x)) S h1 (by omega)
        rw [show ((i + 1 : Nat) : Int) = (i : Int) + 1 by omega] at a1
        have ei : (202 * (D : Int) + (i : Int)).toNat = 202 * D + i := by omega
        refine Or.inl ⟨Z, a1.trans ?_, fun j b1 b2 => ?_, fun k hk => ?_⟩
        · simp only [sF, up_up]
        · by_cases hj : j = i
          · rw [hj, a3 (202 * D + i) (Or.inl (by omega))]
            show va_up (w.2.1 63) (202 * (D : Int) + (i : Int)).toNat x (202 * D + i) = _
            rw [ei, up_s, hx]
          · exact a2 j (by omega) b2
        · rw [a3 k (by omega)]
          show va_up (w.2.1 63) (202 * (D : Int) + (i : Int)).toNat x k = _
          rw [ei, up_n _ _ (by omega)]
      · exact Or.inr hiS
    rw [h1]
    by_cases h : (i : Int) < (S : Int)
    · rw [if_pos h]
      rcases key 0 rfl with g | g
      · rw [h1] at g
        exact g
      · omega
    · rw [if_neg h]
      exact ⟨w.2.1 63, (sF_self w 63).symm, fun j a b => by omega, fun _ _ => rfl⟩
theorem mCpF_ok {D E i j n : Nat} (hne : D ≠ E ∨ j ≤ i) (hi : i + n ≤ 202) (hj : j + n ≤ 202) : ∀ (f k : Nat) (w : gS), n ≤ k + f → ∃ Z : Nat → Int, mCpF (D : Int) (i : Int) (E : Int) (j : Int) (n : Int) f (k : Int) w = sF w 63 Z ∧ (∀ t, k ≤ t → t < n → Z (202 * E + j + t) = w.2.1 63 (202 * D + i + t)) ∧ (∀ x, (x < 202 * E + j + k ∨ 202 * E + j + n ≤ x) → Z x = w.2.1 63 x)
  | 0, k, w, h => ⟨w.2.1 63, (sF_self w 63).symm, fun t a b => by omega, fun _ _ => rfl⟩
  | f + 1, k, w, h => by
    unfold mCpF
    by_cases hk : (k : Int) < (n : Int)
    · rw [if_pos hk, if_pos (show (D : Int) ≠ (E : Int) ∨ (j : Int) ≤ (i : Int) by omega)]
      have e1 : (202 * (E : Int) + (j : Int) + (k : Int)).toNat = 202 * E + j + k := by omega
      have e2 : (202 * (D : Int) + (i : Int) + (k : Int)).toNat = 202 * D + i + k := by omega
      rw [e1, e2]
      obtain ⟨Z, a1, a2, a3⟩ := mCpF_ok hne hi hj f (k + 1) (sF w 63 (va_up (w.2.1 63) (202 * E + j + k) (w.2.1 63 (202 * D + i + k)))) (by omega)
      rw [show ((k + 1 : Nat) : Int) = (k : Int) + 1 by omega] at a1
      refine ⟨Z, a1.trans ?_, fun t b1 b2 => ?_, fun x hx => ?_⟩
      · simp only [sF, up_up]
      · by_cases ht : t = k
        · rw [ht, a3 (202 * E + j + k) (Or.inl (by omega))]
          show va_up (w.2.1 63) (202 * E + j + k) _ (202 * E + j + k) = _
          rw [up_s]
        · rw [a2 t (by omega) b2]
          show va_up (w.2.1 63) (202 * E + j + k) _ (202 * D + i + t) = _
          rw [up_n _ _ (by omega)]
      · rw [a3 x (by omega)]
        show va_up (w.2.1 63) (202 * E + j + k) _ x = _
        rw [up_n _ _ (by omega)]
    · rw [if_neg hk]
      exact ⟨w.2.1 63, (sF_self w 63).symm, fun t a b => by omega, fun _ _ => rfl⟩
theorem mCpB_ok {D i j : Nat} (hij : i < j) : ∀ (f k : Nat) (w : gS), k ≤ f → ∃ Z : Nat → Int, mCpB (D : Int) (i : Int) (D : Int) (j : Int) f ((k : Int) - 1) w = sF w 63 Z ∧ (∀ t, t < k → Z (202 * D + j + t) = w.2.1 63 (202 * D + i + t)) ∧ (∀ x, (x < 202 * D + j ∨ 202 * D + j + k ≤ x) → Z x = w.2.1 63 x)
  | 0, k, w, h => ⟨w.2.1 63, (sF_self w 63).symm, fun t a => by omega, fun _ _ => rfl⟩
  | f + 1, k, w, h => by
    unfold mCpB
    by_cases hk : 0 ≤ (k : Int) - 1
    · rw [if_pos hk, if_pos (show (D : Int) = (D : Int) ∧ (i : Int) < (j : Int) by omega)]
      obtain ⟨c, hc⟩ : ∃ c : Nat, k = c + 1 := ⟨k - 1, by omega⟩
      subst hc
      have e1 : (202 * (D : Int) + (j : Int) + (((c + 1 : Nat) : Int) - 1)).toNat = 202 * D + j + c := by omega
      have e2 : (202 * (D : Int) + (i : Int) + (((c + 1 : Nat) : Int) - 1)).toNat = 202 * D + i + c := by omega
      rw [e1, e2, show ((c + 1 : Nat) : Int) - 1 + -1 = (c : Int) - 1 by omega]
      obtain ⟨Z, a1, a2, a3⟩ := mCpB_ok (D := D) hij f c (sF w 63 (va_up (w.2.1 63) (202 * D + j + c) (w.2.1 63 (202 * D + i + c)))) (by omega)
      refine ⟨Z, a1.trans ?_, fun t b1 => ?_, fun x hx => ?_⟩
      · simp only [sF, up_up]
      · by_cases ht : t = c
        · rw [ht, a3 (202 * D + j + c) (Or.inr (by omega))]
          show va_up (w.2.1 63) (202 * D + j + c) _ (202 * D + j + c) = _
          rw [up_s]
        · rw [a2 t (by omega)]
          show va_up (w.2.1 63) (202 * D + j + c) _ (202 * D + i + t) = _
          rw [up_n _ _ (by omega)]
      · rw [a3 x (by omega)]
        show va_up (w.2.1 63) (202 * D + j + c) _ x = _
        rw [up_n _ _ (by omega)]
    · rw [if_neg hk]
      exact ⟨w.2.1 63, (sF_self w 63).symm, fun t a => by omega, fun _ _ => rfl⟩
theorem mCp_ok {D E i j n : Nat} (w : gS) (hi : i + n ≤ 202) (hj : j + n ≤ 202) : ∃ Z : Nat → Int, mCpB (D : Int) (i : Int) (E : Int) (j : Int) 203 ((n : Int) - 1) (mCpF (D : Int) (i : Int) (E : Int) (j : Int) (n : Int) 203 0 w) = sF w 63 Z ∧ (∀ t, t < n → Z (202 * E + j + t) = w.2.1 63 (202 * D + i + t)) ∧ (∀ x, (x < 202 * E + j ∨ 202 * E + j + n ≤ x) → Z x = w.2.1 63 x) := by
  by_cases hne : D ≠ E ∨ j ≤ i
  · have hB : ∀ g : gS, mCpB (D : Int) (i : Int) (E : Int) (j : Int) 203 ((n : Int) - 1) g = g := fun g => by
      unfold mCpB
      rw [if_neg (show ¬ ((D : Int) = (E : Int) ∧ (i : Int) < (j : Int)) by omega)]
      split <;> rfl
    rw [hB]
    obtain ⟨Z, a1, a2, a3⟩ := mCpF_ok (D := D) (E := E) hne hi hj 203 0 w (by omega)
    exact ⟨Z, a1, fun t ht => a2 t (Nat.zero_le t) ht, fun x hx => a3 x (by omega)⟩
  · obtain ⟨h1, h2⟩ : D = E ∧ i < j := by omega
    subst h1
    have hF : mCpF (D : Int) (i : Int) (D : Int) (j : Int) (n : Int) 203 0 w = w := by
      unfold mCpF
      rw [if_neg (show ¬ ((D : Int) ≠ (D : Int) ∨ (j : Int) ≤ (i : Int)) by omega)]
      split <;> rfl
    rw [hF]
    exact mCpB_ok h2 203 n w (by omega)
theorem upx6 {α : Type} {f g : Nat → α} {a b c d e x : Nat} (h : ∀ i, i ≠ a ∧ i ≠ b ∧ i ≠ c ∧ i ≠ d ∧ i ≠ e ∧ i ≠ x → f i = g i) : f = va_up (va_up (va_up (va_up (va_up (va_up g a (f a)) b (f b)) c (f c)) d (f d)) e (f e)) x (f x) := by
  funext i
  unfold va_up
  (repeat' split) <;> first | (rename_i q; rw [q]; done) | (refine h i ⟨?_, ?_, ?_, ?_, ?_, ?_⟩ <;> assumption)
theorem rng_of {a b lo hi : Int} (e : a = b) (h : lo ≤ b ∧ b ≤ hi) : lo ≤ a ∧ a ≤ hi := by
  rw [e]
  exact h
theorem slX.row {cy : Nat → ClassId} {u : gS} {d a b : Nat} {k : Value} (h : slX cy u d) (h1 : u.2.2.1 30 d = some a) (h2 : u.2.2.2.2 a = .inr (4, [k, .ref b])) : b ∈ u.2.2.2.1 := by
  obtain ⟨sp, li, fd, b', g, a1, -, -⟩ := h
  rcases a1 with ⟨a1, a2⟩ | ⟨a', a1, a2, a3, a4, a5, a6, a7, a8⟩ | ⟨a', a1, a2, a3, a4, a5, a6⟩
  · rw [a1] at h1
    cases h1
  · rw [a1] at h1
    cases h1
    rw [a8] at h2
    simp at h2
  · rw [a1] at h1
    cases h1
    rw [a4] at h2
    simp at h2
    rw [← h2.2]
    exact a5
theorem slX.inr {cy : Nat → ClassId} {u : gS} {d a : Nat} (h : slX cy u d) (h1 : u.2.2.1 30 d = some a) : ∃ x, u.2.2.2.2 a = .inr x := by
  obtain ⟨sp, li, fd, b', g, a1, -, -⟩ := h
  rcases a1 with ⟨a1, a2⟩ | ⟨a', a1, a2, a3, a4, a5, a6, a7, a8⟩ | ⟨a', a1, a2, a3, a4, a5, a6⟩
  · rw [a1] at h1
    cases h1
  · rw [a1] at h1
    cases h1
    exact ⟨_, a8⟩
  · rw [a1] at h1
    cases h1
    exact ⟨_, a4⟩
theorem rel_shelf {cy : Nat → ClassId} {u w : gS} (h : Rel cy u) {D : Nat} (hD : D < 8) {R : Option Nat} (hI : w.1 = u.1) (hF : ∀ k, k ≠ 58 ∧ k ≠ 59 ∧ k ≠ 60 ∧ k ≠ 61 ∧ k ≠ 62 ∧ k ≠ 63 → w.2.1 k = u.2.1 k) (hR : w.2.2.1 = va_up u.2.2.1 30 (va_up (u.2.2.1 30) D R)) (hp : pE u w) (hn : ∀ a, R = some a → a ∉ u.2.2.2.1) (hB : ∀ (a : Nat) (k : Value) (b : Nat), R = some a → w.2.2.2.2 a = .inr (4, [k, .ref b]) → b ∉ u.2.2.2.1) (hx : slX cy w D) (ho : ∀ d, d < 8 → d ≠ D → w.2.1 58 d = u.2.1 58 d ∧ w.2.1 59 d = u.2.1 59 d ∧ w.2.1 60 d = u.2.1 60 d ∧ w.2.1 61 d = u.2.1 61 d ∧ w.2.1 62 d = u.2.1 62 d ∧ ∀ j, j < (u.2.1 62 d).toNat → w.2.1 63 (202 * d + j) = u.2.1 63 (202 * d + j)) (hr : (0 ≤ w.2.1 58 D ∧ w.2.1 58 D ≤ 4) ∧ (0 ≤ w.2.1 59 D ∧ w.2.1 59 D ≤ 9) ∧ (0 ≤ w.2.1 60 D ∧ w.2.1 60 D ≤ 3) ∧ (0 ≤ w.2.1 61 D ∧ w.2.1 61 D ≤ 100000) ∧ (0 ≤ w.2.1 62 D ∧ w.2.1 62 D ≤ 202)) : Rel cy w := by
  have hF2 := upx6 hF
  obtain ⟨I, F, Rr, L, E⟩ := w
  have hI2 : I = u.1 := hI
  have hR2 : Rr = va_up u.2.2.1 30 (va_up (u.2.2.1 30) D R) := hR
  have hF3 : F = va_up (va_up (va_up (va_up (va_up (va_up u.2.1 58 (F 58)) 59 (F 59)) 60 (F 60)) 61 (F 61)) 62 (F 62)) 63 (F 63) := hF2
  clear hF hF2 hI hR
  subst hI2
  subst hR2
  obtain ⟨y58, e58⟩ : ∃ y : Nat → Int, y = F 58 := ⟨_, rfl⟩
  obtain ⟨y59, e59⟩ : ∃ y : Nat → Int, y = F 59 := ⟨_, rfl⟩
  obtain ⟨y60, e60⟩ : ∃ y : Nat → Int, y = F 60 := ⟨_, rfl⟩
  obtain ⟨y61, e61⟩ : ∃ y : Nat → Int, y = F 61 := ⟨_, rfl⟩
  obtain ⟨y62, e62⟩ : ∃ y : Nat → Int, y = F 62 := ⟨_, rfl⟩
  obtain ⟨y63, e63⟩ : ∃ y : Nat → Int, y = F 63 := ⟨_, rfl⟩
  rw [← e58, ← e59, ← e60, ← e61, ← e62, ← e63] at hF3
  clear e58 e59 e60 e61 e62 e63
  subst hF3
  have q30 : ∀ d, d ≠ D → va_up (u.2.2.1 30) D R d = u.2.2.1 30 d := fun d hd => up_n _ _ hd
  exact ⟨⟨h.m.i21, h.m.i22, h.m.i23, h.m.i24, h.m.i25, h.m.i26, h.m.i27, h.m.i28, h.m.b31, h.m.i32, h.m.i33, h.m.i34, h.m.i35, h.m.i36, h.m.i37, h.m.i38, h.m.i39, h.m.i40, h.m.i41, h.m.i42, h.m.i43, h.m.i44, h.m.i45, h.m.i46, h.m.i47, h.m.i48, h.m.b49, h.m.i50, h.m.i51, h.m.i53, h.m.b54, h.m.z51, fun j hj => ((Decidable.em (j = D)).elim (fun hjD => by rw [hjD]; exact hr.1) (fun hjD => rng_of (ho j hj hjD).1 (h.m.i58 j hj))), fun j hj => ((Decidable.em (j = D)).elim (fun hjD => by rw [hjD]; exact hr.2.1) (fun hjD => rng_of (ho j hj hjD).2.1 (h.m.i59 j hj))), fun j hj => ((Decidable.em (j = D)).elim (fun hjD => by rw [hjD]; exact hr.2.2.1) (fun hjD => rng_of (ho j hj hjD).2.2.1 (h.m.i60 j hj))), fun j hj => ((Decidable.em (j = D)).elim (fun hjD => by rw [hjD]; exact hr.2.2.2.1) (fun hjD => rng_of (ho j hj hjD).2.2.2.1 (h.m.i61 j hj))), fun j hj => ((Decidable.em (j = D)).elim (fun hjD => by rw [hjD]; exact hr.2.2.2.2) (fun hjD => rng_of (ho j hj hjD).2.2.2.2.1 (h.m.i62 j hj)))⟩, h.e0, h.e1, h.e2, h.e3, h.e4, h.c6, h.rd1, h.rd2, h.f9, h.f10, h.f11, h.c13, h.c14, h.lat, h.tal, h.c22, h.c23, h.c24, h.c18, h.b25, h.c26, h.c27, h.n, fun j hj => (by obtain ⟨a, ha⟩ := h.sw j hj; exact ⟨a, ha.ext rfl (hp a ha.2.1)⟩), fun j hj => (by obtain ⟨a, ha⟩ := h.sh j hj; exact ⟨a, ha.ext rfl (hp a ha.2.1)⟩), fun j d a hj hd h1 h2 => (by
    have h1 : u.2.2.1 12 j = some a := h1
    have h2 : va_up (u.2.2.1 30) D R d = some a := h2
    by_cases hdD : d = D
    · rw [hdD, up_s] at h2
      obtain ⟨b, hb⟩ := h.sw j hj
      have e := Option.some.inj (hb.1.symm.trans h1)
      exact hn a h2 (e ▸ hb.2.1)
    · rw [q30 d hdD] at h2
      exact h.dS j d a hj hd h1 h2), fun d hd => (by
    by_cases hdD : d = D
    · rw [hdD]
      exact hx
    · obtain ⟨o1, o2, o3, o4, o5, o6⟩ := ho d hd hdD
      exact (h.sl d hd).ext (q30 d hdD) hp o1 o2 o3 o4 o5 o6), fun d e hd he hne a a' k k' b h1 h2 h3 h4 => (by
    have h1 : va_up (u.2.2.1 30) D R d = some a := h1
    have h2 : va_up (u.2.2.1 30) D R e = some a' := h2
    by_cases hdD : d = D
    · have heD : e ≠ D := fun q => hne (hdD.trans q.symm)
      rw [hdD, up_s] at h1
      rw [q30 e heD] at h2
      have hm := (h.sl e he).mem h2
      exact hB a k b h1 h3 ((h.sl e he).row h2 ((hp a' hm).2.symm.trans h4))
    · rw [q30 d hdD] at h1
      have hm := (h.sl d hd).mem h1
      by_cases heD : e = D
      · rw [heD, up_s] at h2
        exact hB a' k' b h2 h4 ((h.sl d hd).row h1 ((hp a hm).2.symm.trans h3))
      · rw [q30 e heD] at h2
        have hm' := (h.sl e he).mem h2
        exact h.dB d e hd he hne a a' k k' b h1 h2 ((hp a hm).2.symm.trans h3) ((hp a' hm').2.symm.trans h4))⟩
/-- a new row on a shelf -/
theorem rel_row {cy : Nat → ClassId} {u w : gS} (h : Rel cy u) {D q b S : Nat} {k : Int} {g Z : Nat → Int} (hD : D < 8) (hq : q ∉ u.2.2.2.1) (hb : b ∉ u.2.2.2.1) (hqb : q ≠ b) (hk : k = 3 ∨ k = 4) (hS : S ≤ 202) (hg : ∀ j, j < S → -32768 ≤ g j ∧ g j ≤ 32767) (hw : w = sF (sF (sF (sR (cRow cy u q b k S g) 30 (va_up (u.2.2.1 30) D (some q))) 58 (va_up (u.2.1 58) D k)) 62 (va_up (u.2.1 62) D (S : Int))) 63 Z) (hZ : ∀ j, j < S → Z (202 * D + j) = g j) (hZo : ∀ x, (x < 202 * D ∨ 202 * D + S ≤ x) → Z x = u.2.1 63 x) : Rel cy w := by
  subst hw
  have e58 : va_up (u.2.1 58) D k D = k := up_s _ _ _
  have e62 : va_up (u.2.1 62) D (S : Int) D = (S : Int) := up_s _ _ _
  refine rel_shelf h hD (R := some q) rfl (fun k hk => ?_) rfl (fun a ha => ⟨List.mem_append_left _ (List.mem_append_left _ ha), (up_n _ _ (show a ≠ q from fun e => hq (e ▸ ha))).trans (up_n _ _ (show a ≠ b from fun e => hb (e ▸ ha)))⟩) (fun a e => by cases e; exact hq) (fun a k' b' e e2 => ?_) ⟨0, 0, 0, b, g, Or.inr (Or.inr ⟨q, up_s _ _ _, cRow_q, ?_, ?_, cRow_b, ?_, ?_, ?_⟩), fun e => ?_, fun _ j hj => ?_⟩ (fun d hd hne => ⟨up_n _ _ hne, rfl, rfl, rfl, up_n _ _ hne, fun j hj => hZo _ ?_⟩) ⟨?_, h.m.i59 D hD, h.m.i60 D hD, h.m.i61 D hD, ?_⟩
  · show va_up (va_up (va_up u.2.1 58 _) 62 _) 63 _ k = _
    rw [up_n _ _ hk.2.2.2.2.2, up_n _ _ hk.2.2.2.2.1, up_n _ _ hk.1]
  · cases e
    have e2 : va_up (va_up u.2.2.2.2 b _) q (.inr (4, [.int (zI k), .ref b])) q = .inr (4, [k', .ref b']) := e2
    rw [up_s] at e2
    simp at e2
    rw [← e2.2]
    exact hb
  · show va_up (u.2.1 58) D k D = 3 ∨ va_up (u.2.1 58) D k D = 4
    rw [e58]
    exact hk
  · show va_up (va_up u.2.2.2.2 b _) q _ q = .inr (4, [.int (zI (va_up (u.2.1 58) D k D)), .ref b])
    rw [e58, up_s]
  · show va_up (va_up u.2.2.2.2 b _) q _ b = .inl (cy 1, (va_up (u.2.1 62) D (S : Int) D).toNat, .inl (fun j => zI (g j)))
    rw [e62, up_n _ _ (fun e => hqb e.symm), up_s, Int.toNat_natCast]
  · show (va_up (u.2.1 62) D (S : Int) D).toNat ≤ 202
    rw [e62, Int.toNat_natCast]
    exact hS
  · show ∀ j, j < (va_up (u.2.1 62) D (S : Int) D).toNat → _
    rw [e62, Int.toNat_natCast]
    exact hg
  · have e : va_up (u.2.1 58) D k D = 1 := e
    rw [e58] at e
    omega
  · have hj : j < (va_up (u.2.1 62) D (S : Int) D).toNat := hj
    rw [e62, Int.toNat_natCast] at hj
    exact (hZ j hj).symm
  · have := h.m.i62 d hd
    omega
  · show 0 ≤ va_up (u.2.1 58) D k D ∧ va_up (u.2.1 58) D k D ≤ 4
    rw [e58]
    omega
  · show 0 ≤ va_up (u.2.1 62) D (S : Int) D ∧ va_up (u.2.1 62) D (S : Int) D ≤ 202
    rw [e62]
    omega
theorem re_keep {cy : Nat → ClassId} {u : gS} (h : Rel cy u) {p1 p2 p3 : Int} {r : Int32} {v : gS} (hc : if 0 ≤ p1 ∧ p1 ≤ 7 then (if p2 = 0 then r = zI 0 ∧ v = sR u 30 (va_up (u.2.2.1 30) p1.toNat none) else if p2 = 1 then (if 0 ≤ p3 ∧ p3 ≤ u.1 0 - 1 then r = zI 0 ∧ ∃ q, q ∉ u.2.2.2.1 ∧ v = sR (cTw u q (kc (u.2.1 34 p3.toNat)) (p3.toNat : Int) (u.2.1 35 p3.toNat) (u.2.1 36 p3.toNat) (u.2.1 37 p3.toNat)) 30 (va_up (u.2.2.1 30) p1.toNat (some q)) else r = zI (-1) ∧ v = u) else if p2 = 3 then r = zI 0 ∧ ∃ q b g, q ∉ u.2.2.2.1 ∧ b ∉ u.2.2.2.1 ∧ q ≠ b ∧ (∀ j : Nat, (j : Int) < cRowN u → g j = rowXY u j) ∧ v = sR (cRow cy u q b 3 (cRowN u).toNat g) 30 (va_up (u.2.2.1 30) p1.toNat (some q)) else if p2 = 4 then r = zI 0 ∧ ∃ q b g, q ∉ u.2.2.2.1 ∧ b ∉ u.2.2.2.1 ∧ q ≠ b ∧ (∀ j : Nat, (j : Int) < u.1 15 → g j = u.2.1 22 j) ∧ v = sR (cRow cy u q b 4 (u.1 15).toNat g) 30 (va_up (u.2.2.1 30) p1.toNat (some q)) else r = zI (-1) ∧ v = u) else r = zI (-1) ∧ v = u) : sM u v ∧ r = zI (mKeep v p1 p2 p3).1 ∧ Rel cy (mKeep v p1 p2 p3).2 := by
  have e0 := h.e0
  have i23 := h.m.i23
  have c6 := h.c6
  have bad : r = zI (-1) → v = u → mKeep u p1 p2 p3 = (-1, u) → sM u v ∧ r = zI (mKeep v p1 p2 p3).1 ∧ Rel cy (mKeep v p1 p2 p3).2 := fun a b c => by
    rw [a, b, c]
    exact ⟨sM.rf u, rfl, h⟩
  by_cases hv : 0 ≤ p1 ∧ p1 ≤ 7
  · rw [if_pos hv] at hc
    have hD : p1.toNat < 8 := by omega
    have hDc : ((p1.toNat : Nat) : Int) = p1 := by omega
    by_cases h0 : p2 = 0
    · rw [if_pos h0] at hc
      obtain ⟨hr, hvu⟩ := hc
      subst hr
      subst hvu
      have m0 : mKeep (sR u 30 (va_up (u.2.2.1 30) p1.toNat none)) p1 p2 p3 = (0, sF (sR u 30 (va_up (u.2.2.1 30) p1.toNat none)) 58 (va_up (u.2.1 58) p1.toNat p2)) := (if_pos hv).trans (if_pos h0)
      rw [m0]
      have e58 : va_up (u.2.1 58) p1.toNat p2 p1.toNat = 0 := by rw [up_s, h0]
      refine ⟨⟨fun _ _ => rfl, fun _ _ => rfl⟩, rfl, ?_⟩
      refine rel_shelf h hD (R := none) rfl (fun k hk => up_n u.2.1 _ hk.1) rfl (fun a ha => ⟨ha, rfl⟩) (fun a e => by cases e) (fun a k b e => by cases e) ⟨0, 0, 0, 0, fun _ => 0, Or.inl ⟨up_s _ _ _, e58⟩, fun e => absurd (e58.symm.trans e) (by decide), fun e => ?_⟩ (fun d hd hne => ⟨up_n _ _ hne, rfl, rfl, rfl, rfl, fun _ _ => rfl⟩) ⟨?_, h.m.i59 _ hD, h.m.i60 _ hD, h.m.i61 _ hD, h.m.i62 _ hD⟩
      · have e : 3 ≤ va_up (u.2.1 58) p1.toNat p2 p1.toNat := e
        rw [e58] at e
        omega
      · show 0 ≤ va_up (u.2.1 58) p1.toNat p2 p1.toNat ∧ va_up (u.2.1 58) p1.toNat p2 p1.toNat ≤ 4
        rw [e58]
        decide
    · rw [if_neg h0] at hc
      by_cases h1 : p2 = 1
      · rw [if_pos h1] at hc
        by_cases hk : 0 ≤ p3 ∧ p3 ≤ u.1 0 - 1
        · rw [if_pos hk] at hc
          obtain ⟨hr, q, hq, hvu⟩ := hc
          subst hr
          have hk2 : 0 ≤ p3 ∧ p3 ≤ u.1 23 - 1 := by omega
          have h10 : p3.toNat < 10 := by omega
          have i34 := h.m.i34 _ h10
          have i35 := h.m.i35 _ h10
          have i36 := h.m.i36 _ h10
          have i37 := h.m.i37 _ h10
          have m0 : mKeep v p1 p2 p3 = (0, mKeep1 v p1 p2 p3) := (if_pos hv).trans ((if_neg h0).trans ((if_pos h1).trans (if_pos (by rw [hvu]; exact hk2))))
          rw [m0]
          subst hvu
          have e58 : va_up (u.2.1 58) p1.toNat p2 p1.toNat = 1 := by rw [up_s, h1]
          have e59 : va_up (u.2.1 59) p1.toNat p3 p1.toNat = p3 := up_s _ _ _
          have e60 : va_up (u.2.1 60) p1.toNat (u.2.1 34 p3.toNat) p1.toNat = u.2.1 34 p3.toNat := up_s _ _ _
          have e61 : va_up (u.2.1 61) p1.toNat (spWeight (u.2.1 34 p3.toNat) (u.2.1 35 p3.toNat) (u.2.1 36 p3.toNat) (u.2.1 37 p3.toNat)) p1.toNat = spWeight (u.2.1 34 p3.toNat) (u.2.1 35 p3.toNat) (u.2.1 36 p3.toNat) (u.2.1 37 p3.toNat) := up_s _ _ _
          have ew : cHeft (u.2.1 34 p3.toNat) (u.2.1 35 p3.toNat) (u.2.1 36 p3.toNat) (u.2.1 37 p3.toNat) = spWeight (u.2.1 34 p3.toNat) (u.2.1 35 p3.toNat) (u.2.1 36 p3.toNat) (u.2.1 37 p3.toNat) := by
            unfold cHeft spWeight
            (repeat' split) <;> omega
          have ewr : 0 ≤ spWeight (u.2.1 34 p3.toNat) (u.2.1 35 p3.toNat) (u.2.1 36 p3.toNat) (u.2.1 37 p3.toNat) ∧ spWeight (u.2.1 34 p3.toNat) (u.2.1 35 p3.toNat) (u.2.1 36 p3.toNat) (u.2.1 37 p3.toNat) ≤ 100000 := by
            unfold spWeight
            (repeat' split) <;> omega
          refine ⟨⟨fun _ _ => rfl, fun _ _ => rfl⟩, rfl, ?_⟩
          refine rel_shelf h hD (R := some q) rfl (fun k hk => ?_) rfl (fun a ha => ⟨List.mem_append_left _ ha, up_n _ _ (show a ≠ q from fun e => hq (e ▸ ha))⟩) (fun a e => by cases e; exact hq) (fun a k b e e2 => ?_) ⟨u.2.1 35 p3.toNat, u.2.1 36 p3.toNat, u.2.1 37 p3.toNat, 0, fun _ => 0, Or.inr (Or.inl ⟨q, up_s _ _ _, List.mem_append_right _ List.mem_cons_self, e58, rng_of e60 i34, i35, i36, i37, ?_⟩), fun _ => ?_, fun e => ?_⟩ (fun d hd hne => ⟨up_n _ _ hne, up_n _ _ hne, up_n _ _ hne, up_n _ _ hne, rfl, fun _ _ => rfl⟩) ⟨rng_of e58 (by decide), rng_of e59 ⟨hk.1, by omega⟩, rng_of e60 i34, rng_of e61 ewr, h.m.i62 _ hD⟩
          · show va_up (va_up (va_up (va_up u.2.1 58 _) 59 _) 60 _) 61 _ k = _
            rw [up_n _ _ hk.2.2.2.1, up_n _ _ hk.2.2.1, up_n _ _ hk.2.1, up_n _ _ hk.1]
          · cases e
            have e2 : va_up u.2.2.2.2 q _ q = .inr (4, [k, .ref b]) := e2
            rw [up_s] at e2
            simp at e2
          · show va_up u.2.2.2.2 q _ q = .inr (kc (va_up (u.2.1 60) p1.toNat (u.2.1 34 p3.toNat) p1.toNat), [.int (zI (va_up (u.2.1 59) p1.toNat p3 p1.toNat)), .int (zI (u.2.1 35 p3.toNat)), .int (zI (u.2.1 36 p3.toNat)), .int (zI (u.2.1 37 p3.toNat))])
            rw [e60, e59, up_s, show ((p3.toNat : Nat) : Int) = p3 by omega]
          · show cHeft (va_up (u.2.1 60) p1.toNat (u.2.1 34 p3.toNat) p1.toNat) _ _ _ = va_up (u.2.1 61) p1.toNat (spWeight (u.2.1 34 p3.toNat) (u.2.1 35 p3.toNat) (u.2.1 36 p3.toNat) (u.2.1 37 p3.toNat)) p1.toNat
            rw [e60, e61]
            exact ew
          · have e : 3 ≤ va_up (u.2.1 58) p1.toNat p2 p1.toNat := e
            rw [e58] at e
            omega
        · rw [if_neg hk] at hc
          exact bad hc.1 hc.2 ((if_pos hv).trans ((if_neg h0).trans ((if_pos h1).trans (if_neg (by omega)))))
      · rw [if_neg h1] at hc
        by_cases h3 : p2 = 3
        · rw [if_pos h3] at hc
          obtain ⟨hr, q, b, g, hq, hb, hqb, hg, hvu⟩ := hc
          subst hr
          have hz : (if v.1 24 = -1 then 0 else 2 * v.2.1 40 0 + 2) = cRowN u := by
            rw [hvu]
            show (if u.1 24 = -1 then 0 else 2 * u.2.1 40 0 + 2) = cRowN u
            unfold cRowN
            rcases h.lat with ⟨l1, l2⟩ | ⟨l1, l2, l3, l4, l5, l6⟩
            · rw [if_pos l1, if_neg (by omega)]
            · rw [if_neg (by omega), if_pos (by omega), l4]
              omega
          have hN : 0 ≤ cRowN u ∧ cRowN u ≤ 202 := by
            unfold cRowN
            split <;> omega
          obtain ⟨S, hS⟩ : ∃ S : Nat, cRowN u = (S : Int) := ⟨(cRowN u).toNat, by omega⟩
          have m0 : mKeep v p1 p2 p3 = (0, mKeepS p1 203 0 (mKeep3 v p1 p2 (if v.1 24 = -1 then 0 else 2 * v.2.1 40 0 + 2))) := (if_pos hv).trans ((if_neg h0).trans ((if_neg h1).trans (if_pos h3)))
          rw [hz, hS] at m0
          obtain ⟨Z, z1, z2, z3⟩ := mKeepS_ok (D := p1.toNat) 203 0 (mKeep3 v p1 p2 (S : Int)) S (up_s _ _ _) (by omega)
          rw [hDc] at z1
          have z1 : mKeepS p1 203 0 (mKeep3 v p1 p2 (S : Int)) = sF (mKeep3 v p1 p2 (S : Int)) 63 Z := z1
          rw [m0, z1]
          rw [hS] at hvu hg
          rw [Int.toNat_natCast] at hvu
          have hgr : ∀ j, j < S → g j = rowXY u j := fun j hj => hg j (by omega)
          have hj2 : ∀ j, j < S → j / 2 < 101 ∧ ((j / 2 : Nat) : Int) ≤ u.1 6 ∧ 0 < u.1 6 := fun j hj => by
            unfold cRowN at hS
            split at hS
            · omega
            · omega
          subst hvu
          refine ⟨⟨fun _ _ => rfl, fun _ _ => rfl⟩, rfl, ?_⟩
          refine rel_row h (D := p1.toNat) (q := q) (b := b) (S := S) (k := 3) (g := g) (Z := Z) hD hq hb hqb (Or.inl rfl) (by omega) (fun j hj => ?_) (by rw [← h3]; rfl) (fun j hj => ?_) (fun x hx => z3 x (by omega))
          · obtain ⟨g1, g2, g3⟩ := hj2 j hj
            have b1 := h.c13 _ g1
            have b2 := h.c14 _ g1
            rw [hgr j hj]
            unfold rowXY
            split <;> omega
          · obtain ⟨g1, g2, g3⟩ := hj2 j hj
            rw [z2 j (Nat.zero_le j) hj, hgr j hj]
            show (if j % 2 = 0 then u.2.1 38 (j / 2) else u.2.1 39 (j / 2)) = rowXY u j
            unfold rowXY
            rcases h.lat with ⟨l1, l2⟩ | ⟨l1, l2, l3, l4, l5, l6⟩
            · omega
            · have g4 := l6 (j / 2) g2
              rw [g4.1, g4.2]
        · rw [if_neg h3] at hc
          by_cases h4 : p2 = 4
          · rw [if_pos h4] at hc
            obtain ⟨hr, q, b, g, hq, hb, hqb, hg, hvu⟩ := hc
            subst hr
            obtain ⟨⟨t1, t2, t3, t4⟩, -, -⟩ := h.tal
            obtain ⟨S, hS⟩ : ∃ S : Nat, u.1 15 = (S : Int) := ⟨(u.1 15).toNat, by omega⟩
            have m0 : mKeep v p1 p2 p3 = (0, mKeepB p1 61 0 (mKeep4 v p1 p2)) := (if_pos hv).trans ((if_neg h0).trans ((if_neg h1).trans ((if_neg h3).trans (if_pos h4))))
            have v26 : v.1 26 = (S : Int) := by
              rw [hvu]
              show u.1 26 = _
              omega
            obtain ⟨Z, z1, z2, z3⟩ := mKeepB_ok (D := p1.toNat) 61 0 (mKeep4 v p1 p2) S v26 (by omega)
            rw [hDc] at z1
            have z1 : mKeepB p1 61 0 (mKeep4 v p1 p2) = sF (mKeep4 v p1 p2) 63 Z := z1
            rw [m0, z1]
            rw [hS] at hvu hg
            rw [Int.toNat_natCast] at hvu
            have hgr : ∀ j, j < S → g j = u.2.1 22 j := fun j hj => hg j (by omega)
            have k4 : mKeep4 v p1 p2 = sF (sF v 58 (va_up (v.2.1 58) p1.toNat p2)) 62 (va_up (v.2.1 62) p1.toNat (S : Int)) := by
              unfold mKeep4
              rw [v26]
            rw [k4] at z2 z3 ⊢
            subst hvu
            refine ⟨⟨fun _ _ => rfl, fun _ _ => rfl⟩, rfl, ?_⟩
            refine rel_row h (D := p1.toNat) (q := q) (b := b) (S := S) (k := 4) (g := g) (Z := Z) hD hq hb hqb (Or.inr rfl) (by omega) (fun j hj => ?_) (by rw [← h4]; rfl) (fun j hj => ?_) (fun x hx => z3 x (by omega))
            · have b1 := h.c22 j (by omega)
              rw [hgr j hj]
              omega
            · rw [z2 j (Nat.zero_le j) hj, hgr j hj]
              exact (t4 j (by omega)).symm
          · rw [if_neg h4] at hc
            exact bad hc.1 hc.2 ((if_pos hv).trans ((if_neg h0).trans ((if_neg h1).trans ((if_neg h3).trans (if_neg h4)))))
  · rw [if_neg hv] at hc
    exact bad hc.1 hc.2 (if_neg hv)
theorem re_make {cy : Nat → ClassId} {u : gS} (h : Rel cy u) {p1 p2 p3 : Int} {r : Int32} {v : gS} (hc : if (0 ≤ p1 ∧ p1 ≤ 7) ∧ (3 ≤ p2 ∧ p2 ≤ 4) ∧ p3 ≤ 60 then (if p3 < 0 then r = zI (-14) ∧ v = u else r = zI 0 ∧ ∃ q b, q ∉ u.2.2.2.1 ∧ b ∉ u.2.2.2.1 ∧ q ≠ b ∧ v = sR (cRow cy u q b p2 p3.toNat (fun _ => 0)) 30 (va_up (u.2.2.1 30) p1.toNat (some q))) else r = zI (-1) ∧ v = u) : sM u v ∧ r = zI (mMake v p1 p2 p3).1 ∧ Rel cy (mMake v p1 p2 p3).2 := by
  by_cases hv : (0 ≤ p1 ∧ p1 ≤ 7) ∧ (3 ≤ p2 ∧ p2 ≤ 4) ∧ p3 ≤ 60
  · rw [if_pos hv] at hc
    by_cases hn : p3 < 0
    · rw [if_pos hn] at hc
      have m0 : mMake u p1 p2 p3 = (-14, u) := (if_pos hv).trans (if_pos hn)
      rw [hc.1, hc.2, m0]
      exact ⟨sM.rf u, rfl, h⟩
    · rw [if_neg hn] at hc
      obtain ⟨hr, q, b, hq, hb, hqb, hvu⟩ := hc
      subst hr
      have hD : p1.toNat < 8 := by omega
      have hDc : ((p1.toNat : Nat) : Int) = p1 := by omega
      obtain ⟨S, hS⟩ : ∃ S : Nat, p3 = (S : Int) := ⟨p3.toNat, by omega⟩
      have m0 : mMake v p1 p2 p3 = (0, mMakL p1 p3 61 0 (sF (sF v 58 (va_up (v.2.1 58) p1.toNat p2)) 62 (va_up (v.2.1 62) p1.toNat p3))) := (if_pos hv).trans (if_neg hn)
      obtain ⟨Z, z1, z2, z3⟩ := mMakL_ok (D := p1.toNat) (m := p3) 61 0 (sF (sF v 58 (va_up (v.2.1 58) p1.toNat p2)) 62 (va_up (v.2.1 62) p1.toNat p3)) S hS (by omega)
      rw [hDc] at z1
      have z1 : mMakL p1 p3 61 0 (sF (sF v 58 (va_up (v.2.1 58) p1.toNat p2)) 62 (va_up (v.2.1 62) p1.toNat p3)) = sF (sF (sF v 58 (va_up (v.2.1 58) p1.toNat p2)) 62 (va_up (v.2.1 62) p1.toNat p3)) 63 Z := z1
      rw [m0, z1]
      rw [hS] at hvu z3 ⊢
      rw [Int.toNat_natCast] at hvu
      subst hvu
      refine ⟨⟨fun _ _ => rfl, fun _ _ => rfl⟩, rfl, ?_⟩
      exact rel_row h (D := p1.toNat) (q := q) (b := b) (S := S) (k := p2) (g := fun _ => 0) (Z := Z) hD hq hb hqb (by omega) (by omega) (fun j hj => by decide) rfl (fun j hj => z2 j (Nat.zero_le j) hj) (fun x hx => z3 x (by omega))
  · rw [if_neg hv] at hc
    have m0 : mMake u p1 p2 p3 = (-1, u) := if_neg hv
    rw [hc.1, hc.2, m0]
    exact ⟨sM.rf u, rfl, h⟩
theorem re_copy {cy : Nat → ClassId} {u : gS} (h : Rel cy u) {SP LI FD : Nat → Int} {BA : Nat → Nat} {GG : Nat → Nat → Int} (hsl : ∀ d, d < 8 → slAt cy u d (u.2.1 58 d) (u.2.1 60 d) (u.2.1 59 d) (SP d) (LI d) (FD d) (BA d) (u.2.1 62 d).toNat (GG d)) (hgg : ∀ d, d < 8 → 3 ≤ u.2.1 58 d → ∀ j, j < (u.2.1 62 d).toNat → GG d j = u.2.1 63 (202 * d + j)) {p1 p2 p3 p4 p5 : Int} {r : Int32} {v : gS} (hc : if (0 ≤ p1 ∧ p1 ≤ 7) ∧ (0 ≤ p3 ∧ p3 ≤ 7) then (if u.2.1 58 p1.toNat = 0 ∨ u.2.1 58 p3.toNat = 0 then r = zI (-11) ∧ v = u else if u.2.1 58 p1.toNat = 1 ∨ u.2.1 58 p3.toNat = 1 ∨ u.2.1 58 p1.toNat ≠ u.2.1 58 p3.toNat then r = zI (-12) ∧ v = u else if (0 ≤ p2 ∧ 0 ≤ p5 ∧ p2 ≤ ((u.2.1 62 p1.toNat).toNat : Int) ∧ p5 ≤ ((u.2.1 62 p1.toNat).toNat : Int) - p2) ∧ (0 ≤ p4 ∧ p4 ≤ ((u.2.1 62 p3.toNat).toNat : Int) ∧ p5 ≤ ((u.2.1 62 p3.toNat).toNat : Int) - p4) then r = zI p5 ∧ v = sP u u.2.2.2.1 (va_up u.2.2.2.2 (BA p3.toNat) (.inl (cy 1, (u.2.1 62 p3.toNat).toNat, .inl (fun k => zI (va_cpy (GG p1.toNat) (GG p3.toNat) p2.toNat p4.toNat p5.toNat k))))) else r = zI (-13) ∧ v = u) else r = zI (-1) ∧ v = u) : sM u v ∧ r = zI (mCopy v p1 p2 p3 p4 p5).1 ∧ Rel cy (mCopy v p1 p2 p3 p4 p5).2 := by
  have bad : ∀ z : Int, r = zI z → v = u → mCopy u p1 p2 p3 p4 p5 = (z, u) → sM u v ∧ r = zI (mCopy v p1 p2 p3 p4 p5).1 ∧ Rel cy (mCopy v p1 p2 p3 p4 p5).2 := fun z a b c => by
    rw [a, b, c]
    exact ⟨sM.rf u, rfl, h⟩
  by_cases hv : (0 ≤ p1 ∧ p1 ≤ 7) ∧ (0 ≤ p3 ∧ p3 ≤ 7)
  · rw [if_pos hv] at hc
    have hD : p1.toNat < 8 := by omega
    have hE : p3.toNat < 8 := by omega
    have s1 := hsl _ hD
    have s2 := hsl _ hE
    have r1 := h.m.i62 _ hD
    have r2 := h.m.i62 _ hE
    have k1 : u.2.1 58 p1.toNat = 0 ∨ u.2.1 58 p1.toNat = 1 ∨ u.2.1 58 p1.toNat = 3 ∨ u.2.1 58 p1.toNat = 4 := by
      rcases s1 with ⟨-, g⟩ | ⟨a, -, -, g, -⟩ | ⟨a, -, -, g, -⟩
      · exact Or.inl g
      · exact Or.inr (Or.inl g)
      · exact Or.inr (Or.inr g)
    have k2 : u.2.1 58 p3.toNat = 0 ∨ u.2.1 58 p3.toNat = 1 ∨ u.2.1 58 p3.toNat = 3 ∨ u.2.1 58 p3.toNat = 4 := by
      rcases s2 with ⟨-, g⟩ | ⟨a, -, -, g, -⟩ | ⟨a, -, -, g, -⟩
      · exact Or.inl g
      · exact Or.inr (Or.inl g)
      · exact Or.inr (Or.inr g)
    by_cases h0 : u.2.1 58 p1.toNat = 0 ∨ u.2.1 58 p3.toNat = 0
    · rw [if_pos h0] at hc
      exact bad _ hc.1 hc.2 ((if_pos hv).trans (if_pos h0))
    · rw [if_neg h0] at hc
      by_cases h1 : u.2.1 58 p1.toNat = 1 ∨ u.2.1 58 p3.toNat = 1 ∨ u.2.1 58 p1.toNat ≠ u.2.1 58 p3.toNat
      · rw [if_pos h1] at hc
        exact bad _ hc.1 hc.2 ((if_pos hv).trans ((if_neg h0).trans (if_pos (by omega))))
      · rw [if_neg h1] at hc
        have h12 : ¬ (u.2.1 58 p1.toNat < 3 ∨ u.2.1 58 p1.toNat ≠ u.2.1 58 p3.toNat) := by omega
        by_cases h2 : (0 ≤ p2 ∧ 0 ≤ p5 ∧ p2 ≤ ((u.2.1 62 p1.toNat).toNat : Int) ∧ p5 ≤ ((u.2.1 62 p1.toNat).toNat : Int) - p2) ∧ (0 ≤ p4 ∧ p4 ≤ ((u.2.1 62 p3.toNat).toNat : Int) ∧ p5 ≤ ((u.2.1 62 p3.toNat).toNat : Int) - p4)
        · rw [if_pos h2] at hc
          obtain ⟨hr, hvu⟩ := hc
          subst hr
          obtain ⟨i, hi⟩ : ∃ i : Nat, p2 = (i : Int) := ⟨p2.toNat, by omega⟩
          obtain ⟨j, hj⟩ : ∃ j : Nat, p4 = (j : Int) := ⟨p4.toNat, by omega⟩
          obtain ⟨n, hn⟩ : ∃ n : Nat, p5 = (n : Int) := ⟨p5.toNat, by omega⟩
          obtain ⟨D, hDe⟩ : ∃ D : Nat, p1 = (D : Int) := ⟨p1.toNat, by omega⟩
          obtain ⟨E, hEe⟩ : ∃ E : Nat, p3 = (E : Int) := ⟨p3.toNat, by omega⟩
          have h3 : ¬ (p5 < 0 ∨ p2 < 0 ∨ p4 < 0 ∨ u.2.1 62 p1.toNat - p5 < p2 ∨ u.2.1 62 p3.toNat - p5 < p4) := by omega
          have m0 : mCopy v p1 p2 p3 p4 p5 = (p5, mCpB p1 p2 p3 p4 203 (p5 - 1) (mCpF p1 p2 p3 p4 p5 203 0 v)) := by
            rw [hvu]
            exact (if_pos hv).trans ((if_neg h0).trans ((if_neg h12).trans (if_neg h3)))
          have f1 : i + n ≤ (u.2.1 62 p1.toNat).toNat := by omega
          have f2 : j + n ≤ (u.2.1 62 p3.toNat).toNat := by omega
          have f3 : (u.2.1 62 p1.toNat).toNat ≤ 202 := by omega
          have f4 : (u.2.1 62 p3.toNat).toNat ≤ 202 := by omega
          rw [hi, hj, hn, hDe, hEe] at m0
          rw [hDe] at hD f1 f3 h0 h1 k1 s1
          rw [hEe] at hE f2 f4 h0 h1 k2 s2
          rw [hi, hj, hn, hDe, hEe] at hvu ⊢
          rw [Int.toNat_natCast] at hD f1 f3 k1 s1 hE f2 f4 k2 s2
          simp only [Int.toNat_natCast] at hvu h0 h1
          obtain ⟨Z, z1, z2, z3⟩ := mCp_ok (D := D) (E := E) (i := i) (j := j) (n := n) v (by omega) (by omega)
          rw [m0, z1]
          rcases s2 with ⟨-, g⟩ | ⟨a, -, -, g, -⟩ | ⟨a, a1, a2, a3, a4, a5, a6, a7, a8⟩
          · omega
          · omega
          have g1 : ∀ t, t < (u.2.1 62 D).toNat → -32768 ≤ GG D t ∧ GG D t ≤ 32767 := by
            rcases s1 with ⟨-, g⟩ | ⟨a', -, -, g, -⟩ | ⟨a', -, -, -, -, -, -, -, g⟩
            · omega
            · omega
            · exact g
          have hgD := hgg D hD (by omega)
          have hgE := hgg E hE (by omega)
          have hoth : ∀ x, (∃ y, u.2.2.2.2 x = .inr y) → x ≠ BA E := fun x hx e => by
            obtain ⟨y, hy⟩ := hx
            rw [e, a6] at hy
            cases hy
          subst hvu
          have hp : ∀ x, x ≠ BA E → va_up u.2.2.2.2 (BA E) (.inl (cy 1, (u.2.1 62 E).toNat, .inl (fun k => zI (va_cpy (GG D) (GG E) i j n k)))) x = u.2.2.2.2 x := fun x hx => up_n _ _ hx
          refine ⟨⟨fun _ _ => rfl, fun _ _ => rfl⟩, rfl, ?_⟩
          exact ⟨h.m, h.e0, h.e1, h.e2, h.e3, h.e4, h.c6, h.rd1, h.rd2, h.f9, h.f10, h.f11, h.c13, h.c14, h.lat, h.tal, h.c22, h.c23, h.c24, h.c18, h.b25, h.c26, h.c27, h.n, fun q hq => (by obtain ⟨x, hx⟩ := h.sw q hq; exact ⟨x, hx.ext rfl ⟨hx.2.1, hp x (hoth x ⟨_, hx.2.2.1⟩)⟩⟩), fun q hq => (by obtain ⟨x, hx⟩ := h.sh q hq; exact ⟨x, hx.ext rfl ⟨hx.2.1, hp x (hoth x ⟨_, hx.2.2.1⟩)⟩⟩), h.dS, fun d hd => (by
            by_cases hdE : d = E
            · rw [hdE]
              refine ⟨0, 0, 0, BA E, va_cpy (GG D) (GG E) i j n, Or.inr (Or.inr ⟨a, a1, a2, a3, (hp a (hoth a ⟨_, a4⟩)).trans a4, a5, up_s _ _ _, a7, fun t ht => ?_⟩), fun e => ?_, fun _ t ht => ?_⟩
              · have ht : t < (u.2.1 62 E).toNat := ht
                unfold va_cpy
                split
                · exact g1 _ (by omega)
                · exact a8 t ht
              · have e : u.2.1 58 E = 1 := e
                omega
              · have ht : t < (u.2.1 62 E).toNat := ht
                show va_cpy (GG D) (GG E) i j n t = Z (202 * E + t)
                unfold va_cpy
                by_cases hjt : j ≤ t ∧ t < j + n
                · rw [if_pos hjt, hgD (i + (t - j)) (by omega)]
                  have z4 := z2 (t - j) (by omega)
                  rw [show 202 * E + j + (t - j) = 202 * E + t by omega, show 202 * D + i + (t - j) = 202 * D + (i + (t - j)) by omega] at z4
                  exact z4.symm
                · rw [if_neg hjt, hgE t ht]
                  exact (z3 _ (by omega)).symm
            · obtain ⟨sp, li, fd, b, g, y1, y2, y3⟩ := h.sl d hd
              have r3 := h.m.i62 d hd
              refine ⟨sp, li, fd, b, g, y1.ext rfl (fun x hx hm => ⟨hm, hp x (hoth x ((h.sl d hd).inr hx))⟩) (fun x hx hx4 hm hb => ⟨hm, hp b (fun e => ?_)⟩), y2, fun k t ht => (y3 k t ht).trans ?_⟩
              · rw [e] at hx4
                exact h.dB d E hd hE hdE x a _ _ (BA E) hx a1 hx4 a4
              · have ht : t < (u.2.1 62 d).toNat := ht
                exact (z3 _ (by omega)).symm), fun d e hd he hne x x' k k' b h1 h2 h3 h4 => (by
            have g2 := hp x (hoth x ((h.sl d hd).inr h1))
            have g3 := hp x' (hoth x' ((h.sl e he).inr h2))
            exact h.dB d e hd he hne x x' k k' b h1 h2 (g2.symm.trans h3) (g3.symm.trans h4))⟩
        · rw [if_neg h2] at hc
          exact bad _ hc.1 hc.2 ((if_pos hv).trans ((if_neg h0).trans ((if_neg h12).trans (if_pos (by omega)))))
  · rw [if_neg hv] at hc
    exact bad _ hc.1 hc.2 (if_neg hv)
theorem re_20 {cy : Nat → ClassId} {u : gS} (h : Rel cy u) (x : Int) : Rel cy (sI u 20 x) := ⟨h.m, h.e0, h.e1, h.e2, h.e3, h.e4, h.c6, h.rd1, h.rd2, h.f9, h.f10, h.f11, h.c13, h.c14, h.lat, h.tal, h.c22, h.c23, h.c24, h.c18, h.b25, h.c26, h.c27, h.n, h.sw, h.sh, h.dS, h.sl, h.dB⟩
theorem re_car0 {u : gS} {p1 p2 p3 p4 : Int} (hf : ∀ j, j < 36 → u.2.1 10 j = u.2.1 32 j) (hg : ∀ j, j < 36 → u.2.1 11 j = u.2.1 33 j) (hv : okCarry p1 p2 p3 p4) : mCarT p1 p2 p3 p4 = 0 ∧ mCarV u p1 p2 p3 p4 = cCarry u p2 p3 p4 := by
  refine ⟨if_pos hv, (if_pos hv).trans ?_⟩
  unfold okCarry at hv
  unfold cCarry
  by_cases h0 : p4 = 0
  · rw [if_pos h0, if_pos h0]
    exact (hf _ (by omega)).symm
  · rw [if_neg h0, if_neg h0]
    exact (hg _ (by omega)).symm
theorem re_car1 {p1 p2 p3 p4 : Int} (hv : ¬ okCarry p1 p2 p3 p4) : mCarT p1 p2 p3 p4 = 1 := if_neg hv
theorem re_ele0 {cy : Nat → ClassId} {u : gS} {GG : Nat → Nat → Int} (h : Rel cy u) (hgg : ∀ d, d < 8 → 3 ≤ u.2.1 58 d → ∀ j, j < (u.2.1 62 d).toNat → GG d j = u.2.1 63 (202 * d + j)) {p1 p2 : Int} (hv : 0 ≤ p1 ∧ p1 ≤ 7) (ho : okEle (u.2.1 58) (fun d => (u.2.1 62 d).toNat) p1 p2) : mEleT u p1 p2 = 0 ∧ mEleV u p1 p2 = cEle GG p1 p2 := by
  obtain ⟨h1, h2⟩ := ho
  have h2 : 0 ≤ p2 ∧ p2 < ((u.2.1 62 p1.toNat).toNat : Int) := h2
  have r1 := h.m.i62 p1.toNat (by omega)
  have h3 : ¬ u.2.1 58 p1.toNat < 3 := by omega
  have h4 : 0 ≤ p2 ∧ p2 ≤ u.2.1 62 p1.toNat - 1 := by omega
  refine ⟨(if_pos hv).trans ((if_neg h3).trans (if_pos h4)), ((if_pos hv).trans ((if_neg h3).trans (if_pos h4))).trans ?_⟩
  unfold cEle
  rw [hgg p1.toNat (by omega) (by omega) p2.toNat (by omega), show (202 * p1 + p2).toNat = 202 * p1.toNat + p2.toNat by omega]
theorem re_ele1 {u : gS} {p1 p2 : Int} (hv : ¬ (0 ≤ p1 ∧ p1 ≤ 7)) : mEleT u p1 p2 = 1 := if_neg hv
theorem re_ele2 {cy : Nat → ClassId} {u : gS} (h : Rel cy u) {SP LI FD : Nat → Int} {BA : Nat → Nat} {GG : Nat → Nat → Int} (hsl : ∀ d, d < 8 → slAt cy u d (u.2.1 58 d) (u.2.1 60 d) (u.2.1 59 d) (SP d) (LI d) (FD d) (BA d) (u.2.1 62 d).toNat (GG d)) {p1 p2 : Int} (hv : 0 ≤ p1 ∧ p1 ≤ 7) (ho : ¬ okEle (u.2.1 58) (fun d => (u.2.1 62 d).toNat) p1 p2) : mEleT u p1 p2 = 2 := by
  have r1 := h.m.i62 p1.toNat (by omega)
  have k1 : u.2.1 58 p1.toNat = 0 ∨ u.2.1 58 p1.toNat = 1 ∨ u.2.1 58 p1.toNat = 3 ∨ u.2.1 58 p1.toNat = 4 := by
    rcases hsl p1.toNat (by omega) with ⟨-, g⟩ | ⟨a, -, -, g, -⟩ | ⟨a, -, -, g, -⟩
    · exact Or.inl g
    · exact Or.inr (Or.inl g)
    · exact Or.inr (Or.inr g)
  have h2 : ¬ ((u.2.1 58 p1.toNat = 3 ∨ u.2.1 58 p1.toNat = 4) ∧ (0 ≤ p2 ∧ p2 < ((u.2.1 62 p1.toNat).toNat : Int))) := ho
  refine (if_pos hv).trans ?_
  by_cases h3 : u.2.1 58 p1.toNat < 3
  · rw [if_pos h3]
  · rw [if_neg h3, if_neg (by omega)]
