theorem cRdC_bnd {w : gS} {cl : Nat} {K fd ch t : Int} (hK : 0 ≤ K ∧ K ≤ 3) (hc : 0 ≤ ch ∧ ch ≤ 20) (ht : 0 ≤ t ∧ t ≤ 100) (h : 0 ≤ w.2.1 cl t.toNat ∧ w.2.1 cl t.toNat ≤ 200 * t) : 0 ≤ cRdC w cl K fd ch t ∧ cRdC w cl K fd ch t ≤ 200 * (t + 1) := by
  have h1 := spCold_bnd (k := K) (ch := ch) (t := t) hK hc (by omega)
  unfold cRdC
  (repeat split) <;> omega
def rdI (w : gS) (sd cl rc tc : Nat) : Prop := (∀ j, j < 100 → 0 ≤ w.2.1 sd j ∧ w.2.1 sd j ≤ 24) ∧ (∀ j, j < 101 → 0 ≤ w.2.1 cl j ∧ w.2.1 cl j ≤ 100000) ∧ (0 ≤ w.1 rc ∧ w.1 rc ≤ 100) ∧ (w.1 tc = 0 ∨ w.1 tc = 1) ∧ w.2.1 cl 0 = 0
theorem cRdL_inv {sd cl rc tc : Nat} (h1 : sd ≠ cl) (h2 : rc ≠ tc) {K sp li fd ch : Int} (hK : 0 ≤ K ∧ K ≤ 3) (hs : 0 ≤ sp ∧ sp ≤ 20) (hc : 0 ≤ ch ∧ ch ≤ 20) : ∀ (n : Nat) (t : Int) (w : gS), 0 ≤ t → t ≤ 100 → (0 ≤ w.2.1 cl t.toNat ∧ w.2.1 cl t.toNat ≤ 200 * t) → rdI w sd cl rc tc → rdI (cRdL sd cl rc tc K sp li fd ch n t w) sd cl rc tc ∧ (∀ k, k ≠ sd ∧ k ≠ cl → (cRdL sd cl rc tc K sp li fd ch n t w).2.1 k = w.2.1 k) ∧ (∀ i, i ≠ rc ∧ i ≠ tc → (cRdL sd cl rc tc K sp li fd ch n t w).1 i = w.1 i) ∧ (cRdL sd cl rc tc K sp li fd ch n t w).2.2 = w.2.2 := by
  intro n
  induction n with
  | zero => intro t w _ _ _ hI; exact ⟨hI, fun _ _ => rfl, fun _ _ => rfl, rfl⟩
  | succ n ih =>
    intro t w ht0 ht1 hct hI
    unfold cRdL
    split
    · next htt =>
      split
      · have hS := spPace_bnd (k := K) (sp := sp) (f := fd) (t := t) hK hs (by omega)
        have hC := cRdC_bnd (w := w) (cl := cl) (K := K) (fd := fd) (ch := ch) (t := t) hK hc (by omega) hct
        have key : ∀ T : Int, (T = 0 ∨ T = 1) → rdI (cRdL sd cl rc tc K sp li fd ch n (t + 1) (cRd1 w sd cl rc tc t (spPace K sp fd t) (cRdC w cl K fd ch t) T)) sd cl rc tc ∧ (∀ k, k ≠ sd ∧ k ≠ cl → (cRdL sd cl rc tc K sp li fd ch n (t + 1) (cRd1 w sd cl rc tc t (spPace K sp fd t) (cRdC w cl K fd ch t) T)).2.1 k = w.2.1 k) ∧ (∀ i, i ≠ rc ∧ i ≠ tc → (cRdL sd cl rc tc K sp li fd ch n (t + 1) (cRd1 w sd cl rc tc t (spPace K sp fd t) (cRdC w cl K fd ch t) T)).1 i = w.1 i) ∧ (cRdL sd cl rc tc K sp li fd ch n (t + 1) (cRd1 w sd cl rc tc t (spPace K sp fd t) (cRdC w cl K fd ch t) T)).2.2 = w.2.2 := by
          intro T hT
          obtain ⟨a1, a2, a3, a4, a5⟩ := hI
          have e1 : (cRd1 w sd cl rc tc t (spPace K sp fd t) (cRdC w cl K fd ch t) T).2.1 sd = va_up (w.2.1 sd) t.toNat (spPace K sp fd t) := by simp [cRd1, va_up, h1]
          have e2 : (cRd1 w sd cl rc tc t (spPace K sp fd t) (cRdC w cl K fd ch t) T).2.1 cl = va_up (w.2.1 cl) (t + 1).toNat (cRdC w cl K fd ch t) := by simp [cRd1, va_up]
          have e3 : (cRd1 w sd cl rc tc t (spPace K sp fd t) (cRdC w cl K fd ch t) T).1 rc = t + 1 := by simp [cRd1, va_up, h2]
          have e4 : (cRd1 w sd cl rc tc t (spPace K sp fd t) (cRdC w cl K fd ch t) T).1 tc = T := by simp [cRd1, va_up]
          obtain ⟨b1, b2, b3, b4⟩ := ih (t + 1) (cRd1 w sd cl rc tc t (spPace K sp fd t) (cRdC w cl K fd ch t) T) (by omega) (by omega) (by rw [e2, up_s]; omega) ⟨by rw [e1]; exact up_r a1 hS.1 hS.2, by rw [e2]; exact up_r a2 hC.1 (by omega), by rw [e3]; omega, by rw [e4]; exact hT, by rw [e2, up_n _ _ (by omega)]; exact a5⟩
          refine ⟨b1, fun k hk => (b2 k hk).trans ?_, fun i hi => (b3 i hi).trans ?_, b4.trans rfl⟩
          · simp [cRd1, va_up, hk.1, hk.2]
          · simp [cRd1, va_up, hi.1, hi.2]
        split
        · exact key 1 (Or.inr rfl)
        · exact key 0 (Or.inl rfl)
      · exact ⟨hI, fun _ _ => rfl, fun _ _ => rfl, rfl⟩
    · exact ⟨hI, fun _ _ => rfl, fun _ _ => rfl, rfl⟩
theorem cReady_inv {u : gS} {sd cl nu rc tc : Nat} (h1 : sd ≠ cl) (h2 : rc ≠ tc) {K nm sp li fd ch : Int} (hK : 0 ≤ K ∧ K ≤ 3) (hs : 0 ≤ sp ∧ sp ≤ 20) (hc : 0 ≤ ch ∧ ch ≤ 20) (hI : rdI u sd cl rc tc) : rdI (cReady u sd cl nu rc tc K nm sp li fd ch) sd cl rc tc ∧ (∀ k, k ≠ sd ∧ k ≠ cl → (cReady u sd cl nu rc tc K nm sp li fd ch).2.1 k = u.2.1 k) ∧ (∀ i, i ≠ rc ∧ i ≠ tc ∧ i ≠ nu → (cReady u sd cl nu rc tc K nm sp li fd ch).1 i = u.1 i) ∧ (cReady u sd cl nu rc tc K nm sp li fd ch).2.2 = u.2.2 := by
  obtain ⟨a1, a2, a3, a4, a5⟩ := hI
  obtain ⟨b1, b2, b3, b4⟩ := cRdL_inv (sd := sd) (cl := cl) (rc := rc) (tc := tc) h1 h2 (K := K) (sp := sp) (li := li) (fd := fd) (ch := ch) hK hs hc 101 0 (sI (sI (sI u nu nm) rc 0) tc 0) (by omega) (by omega) (by have e : (sI (sI (sI u nu nm) rc 0) tc 0).2.1 cl (Int.toNat 0) = 0 := a5; rw [e]; omega) ⟨a1, a2, by simp [va_up, h2], by simp [va_up], a5⟩
  refine ⟨b1, b2, fun i hi => (b3 i ⟨hi.1, hi.2.1⟩).trans ?_, b4⟩
  simp [va_up, hi.1, hi.2.1, hi.2.2]
def cSwim (u : gS) (K S9 L9 F9 : Nat → Int) (s x y q aim : Int) : Int × gS := if (0 ≤ s ∧ s ≤ u.1 0 - 1) ∧ ((0 ≤ x ∧ x ≤ 239) ∧ (0 ≤ y ∧ y ≤ 119)) ∧ (0 ≤ q ∧ q ≤ 47) ∧ (0 ≤ aim ∧ aim ≤ 7) then (if spDry (u.2.1 9) x y = 0 then cCross (cReady u 15 16 5 8 9 (K s.toNat) (s.toNat : Int) (S9 s.toNat) (L9 s.toNat) (F9 s.toNat) (u.1 1)) 13 14 15 16 6 7 8 9 x y q aim else (-4, u)) else (-1, u)
