/-- the reference's tries leave the swim that was -/
def LoEq (w w' : gS) : Prop := (∀ j, j < 101 → w'.2.1 38 j = w.2.1 38 j) ∧ (∀ j, j < 101 → w'.2.1 39 j = w.2.1 39 j) ∧ w'.2.1 40 0 = w.2.1 40 0 ∧ w'.2.1 41 0 = w.2.1 41 0
theorem LoEq.rf (w : gS) : LoEq w w := ⟨fun _ _ => rfl, fun _ _ => rfl, rfl, rfl⟩
theorem LoEq.tr {a b c : gS} (h1 : LoEq a b) (h2 : LoEq b c) : LoEq a c := ⟨fun j hj => (h2.1 j hj).trans (h1.1 j hj), fun j hj => (h2.2.1 j hj).trans (h1.2.1 j hj), h2.2.2.1.trans h1.2.2.1, h2.2.2.2.trans h1.2.2.2⟩
theorem stB_lo {w : gS} {t a X Y : Int} (ha : 101 ≤ a) : LoEq w (stB w 1 t a X Y) := by
  refine ⟨fun j hj => ?_, fun j hj => ?_, ?_, rfl⟩
  · show va_up (w.2.1 38) (a + 1).toNat X j = _
    rw [up_n _ _ (by omega)]
  · show va_up (w.2.1 39) (a + 1).toNat Y j = _
    rw [up_n _ _ (by omega)]
  · show va_up (w.2.1 40) (1 : Int).toNat (t + 1) 0 = _
    rw [up_n _ _ (by decide)]
theorem stD_lo {w : gS} {t a X Y C : Int} (ha : 101 ≤ a) : LoEq w (stD w 1 t a X Y C) := by
  have h := stB_lo (w := w) (t := t) (X := X) (Y := Y) ha
  refine ⟨h.1, h.2.1, h.2.2.1, ?_⟩
  show va_up (w.2.1 41) (1 : Int).toNat C 0 = _
  rw [up_n _ _ (by decide)]
theorem mStep_lo (s q aim : Int) : ∀ (n : Nat) (t a : Int) (w : gS), 101 ≤ a → LoEq w (mStep 1 s q aim n t a w).2
  | 0, _, _, w, _ => LoEq.rf w
  | n + 1, t, a, w, ha => by
    unfold mStep
    split
    · split
      · split
        · split
          · exact stD_lo ha
          · exact (stD_lo ha).tr (mStep_lo s q aim n (t + 1) (a + 1) _ (by omega))
        · exact stD_lo ha
      · exact stB_lo ha
    · exact LoEq.rf w
theorem mStepA_lo (u : gS) (s x y q aim : Int) : LoEq u (mStepA u 1 s x y q aim).2 := by
  refine LoEq.tr (b := mSt0 u 1 x y) ⟨fun j hj => ?_, fun j hj => ?_, ?_, ?_⟩ (mStep_lo s q aim 101 0 (101 * 1) (mSt0 u 1 x y) (by decide))
  · show va_up (u.2.1 38) (101 * 1 : Int).toNat x j = _
    rw [up_n _ _ (by have : (101 * 1 : Int).toNat = 101 := by decide
                     omega)]
  · show va_up (u.2.1 39) (101 * 1 : Int).toNat y j = _
    rw [up_n _ _ (by have : (101 * 1 : Int).toNat = 101 := by decide
                     omega)]
  · show va_up (u.2.1 40) (1 : Int).toNat 0 0 = _
    rw [up_n _ _ (by decide)]
  · show va_up (u.2.1 41) (1 : Int).toNat 0 0 = _
    rw [up_n _ _ (by decide)]
/-- class (trial) and reference while they try -/
def TrI (s K sp li fd ch : Int) (w m : gS) : Prop := RdF 19 20 13 14 K sp li fd ch w ∧ (m.2.1 34 s.toNat = K ∧ m.2.1 35 s.toNat = sp ∧ m.2.1 36 s.toNat = li ∧ m.2.1 37 s.toNat = fd ∧ m.1 21 = ch) ∧ (∀ j, j < 36 → w.2.1 10 j = m.2.1 32 j) ∧ (∀ j, j < 36 → w.2.1 11 j = m.2.1 33 j) ∧ ∀ j, j < 288 → w.2.1 9 j = m.2.1 31 j
/-- what the tries leave as it was -/
def KpC (w w' : gS) : Prop := (∀ k, k ≠ 17 ∧ k ≠ 18 → w'.2.1 k = w.2.1 k) ∧ (∀ i, i ≠ 11 ∧ i ≠ 12 → w'.1 i = w.1 i) ∧ w'.2.2 = w.2.2
def KpM (m m' : gS) : Prop := m'.1 = m.1 ∧ (∀ k, k ≠ 38 ∧ k ≠ 39 ∧ k ≠ 40 ∧ k ≠ 41 → m'.2.1 k = m.2.1 k) ∧ m'.2.2 = m.2.2 ∧ LoEq m m'
theorem KpC.rf (w : gS) : KpC w w := ⟨fun _ _ => rfl, fun _ _ => rfl, rfl⟩
theorem KpC.tr {a b c : gS} (h1 : KpC a b) (h2 : KpC b c) : KpC a c := ⟨fun k hk => (h2.1 k hk).trans (h1.1 k hk), fun k hk => (h2.2.1 k hk).trans (h1.2.1 k hk), h2.2.2.trans h1.2.2⟩
theorem KpM.rf (w : gS) : KpM w w := ⟨rfl, fun _ _ => rfl, rfl, LoEq.rf w⟩
theorem KpM.tr {a b c : gS} (h1 : KpM a b) (h2 : KpM b c) : KpM a c := ⟨h2.1.trans h1.1, fun k hk => (h2.2.1 k hk).trans (h1.2.1 k hk), h2.2.2.1.trans h1.2.2.1, h1.2.2.2.tr h2.2.2.2⟩
theorem TrI.kept {s K sp li fd ch : Int} {w m w' m' : gS} (h : TrI s K sp li fd ch w m) (h1 : KpC w w') (h2 : KpM m m') : TrI s K sp li fd ch w' m' := by
  obtain ⟨a, b, c, d, e⟩ := h
  refine ⟨a.kept (h1.1 19 (by decide)) (h1.1 20 (by decide)) (h1.2.1 13 (by decide)) (h1.2.1 14 (by decide)), ?_, ?_, ?_, ?_⟩
  · rw [h2.2.1 34 (by decide), h2.2.1 35 (by decide), h2.2.1 36 (by decide), h2.2.1 37 (by decide), h2.1]
    exact b
  · rw [h1.1 10 (by decide), h2.2.1 32 (by decide)]
    exact c
  · rw [h1.1 11 (by decide), h2.2.1 33 (by decide)]
    exact d
  · rw [h1.1 9 (by decide), h2.2.1 31 (by decide)]
    exact e
theorem try_eq {s x y q aim K sp li fd ch : Int} {w m : gS} (hch : 0 ≤ ch) (hq : 0 ≤ q) (hx0 : 0 ≤ x ∧ x ≤ 239) (hy0 : 0 ≤ y ∧ y ≤ 119) (h : TrI s K sp li fd ch w m) : (cCross w 17 18 19 20 11 12 13 14 x y q aim).1 = (mStepA m 1 s x y q aim).1 ∧ (cCross w 17 18 19 20 11 12 13 14 x y q aim).2.1 11 = (mStepA m 1 s x y q aim).2.2.1 40 1 ∧ (cCross w 17 18 19 20 11 12 13 14 x y q aim).2.1 11 ≤ 100 ∧ KpC w (cCross w 17 18 19 20 11 12 13 14 x y q aim).2 ∧ KpM m (mStepA m 1 s x y q aim).2 := by
  obtain ⟨a, b, c, d, e⟩ := h
  obtain ⟨e1, Q, e2, e3, e4, _⟩ := cross_eq (xs := 17) (ys := 18) (sd := 19) (cl := 20) (qi := 11) (co := 12) (rc := 13) (tc := 14) (by decide) (by decide) (by decide) (by decide) (by decide) (by decide) (r := 1) (by decide) (s := s) (x := x) (y := y) (q := q) (aim := aim) hch hq hx0 hy0 a b ⟨c, d, e⟩
  have k := cCross_keep w x y q aim
  have km := mStepA_keep m 1 s x y q aim
  refine ⟨e1, by rw [e3]; exact e4.symm, by rw [e3]; omega, ⟨k.1, k.2.1, k.2.2⟩, km.1, km.2.1, km.2.2, mStepA_lo m s x y q aim⟩
def BsR (fw sa sa' fw' : Int) : Prop := sa = sa' ∧ ((sa = -4 ∧ fw = 101) ∨ (0 ≤ sa ∧ fw = fw'))
theorem bestI_eq {s x y q K sp li fd ch : Int} (hch : 0 ≤ ch) (hq : 0 ≤ q) (hx0 : 0 ≤ x ∧ x ≤ 239) (hy0 : 0 ≤ y ∧ y ≤ 119) : ∀ (n : Nat) (a fw sa sa' fw' : Int) (w m : gS), 0 ≤ a → TrI s K sp li fd ch w m → BsR fw sa sa' fw' → BsR (cBestI x y q n a fw sa w).1 (cBestI x y q n a fw sa w).2.1 (mBestI s x y q n a sa' fw' m).1 (mBestI s x y q n a sa' fw' m).2.1 ∧ KpC w (cBestI x y q n a fw sa w).2.2 ∧ KpM m (mBestI s x y q n a sa' fw' m).2.2
  | 0, a, fw, sa, sa', fw', w, m, _, _, hb => ⟨hb, KpC.rf w, KpM.rf m⟩
  | n + 1, a, fw, sa, sa', fw', w, m, ha, hI, hb => by
    obtain ⟨t1, t2, t3, t4, t5⟩ := try_eq (q := q) (aim := a) hch hq hx0 hy0 hI
    have hI2 := hI.kept t4 t5
    unfold cBestI mBestI
    by_cases h8 : a < 8
    · rw [if_pos h8, if_pos h8]
      by_cases h0 : (mStepA m 1 s x y q a).1 = 0
      · rw [if_pos h0]
        by_cases hf : (cCross w 17 18 19 20 11 12 13 14 x y q a).2.1 11 < fw
        · rw [if_pos ⟨t1.trans h0, hf⟩, if_pos (by
            obtain ⟨b1, b2⟩ := hb
            rw [← t2]
            omega)]
          have := bestI_eq hch hq hx0 hy0 (s := s) n (a + 1) ((cCross w 17 18 19 20 11 12 13 14 x y q a).2.1 11) (10 * q + a) (10 * q + a) ((mStepA m 1 s x y q a).2.2.1 40 1) _ _ (by omega) hI2 ⟨rfl, Or.inr ⟨by omega, t2⟩⟩
          exact ⟨this.1, t4.tr this.2.1, t5.tr this.2.2⟩
        · rw [if_neg (fun h => hf h.2), if_neg (by
            obtain ⟨b1, b2⟩ := hb
            rw [← t2]
            omega)]
          have := bestI_eq hch hq hx0 hy0 (s := s) n (a + 1) fw sa sa' fw' _ _ (by omega) hI2 hb
          exact ⟨this.1, t4.tr this.2.1, t5.tr this.2.2⟩
      · rw [if_neg h0, if_neg (fun h => h0 (t1.symm.trans h.1))]
        have := bestI_eq hch hq hx0 hy0 (s := s) n (a + 1) fw sa sa' fw' _ _ (by omega) hI2 hb
        exact ⟨this.1, t4.tr this.2.1, t5.tr this.2.2⟩
    · rw [if_neg h8, if_neg h8]
      exact ⟨hb, KpC.rf w, KpM.rf m⟩
theorem bestO_eq {s x y K sp li fd ch : Int} (hch : 0 ≤ ch) (hx0 : 0 ≤ x ∧ x ≤ 239) (hy0 : 0 ≤ y ∧ y ≤ 119) : ∀ (n : Nat) (q fw sa sa' fw' : Int) (w m : gS), 0 ≤ q → TrI s K sp li fd ch w m → BsR fw sa sa' fw' → (cBestO x y n q fw sa w).1 = (mBestO s x y n q sa' fw' m).1 ∧ KpC w (cBestO x y n q fw sa w).2 ∧ KpM m (mBestO s x y n q sa' fw' m).2
  | 0, q, fw, sa, sa', fw', w, m, _, _, hb => ⟨hb.1, KpC.rf w, KpM.rf m⟩
  | n + 1, q, fw, sa, sa', fw', w, m, hq, hI, hb => by
    unfold cBestO mBestO
    by_cases h : q < 48
    · rw [if_pos h, if_pos h]
      obtain ⟨b1, b2, b3⟩ := bestI_eq (s := s) (q := q) hch hq hx0 hy0 9 0 fw sa sa' fw' w m (by decide) hI hb
      have := bestO_eq (s := s) hch hx0 hy0 n (q + 1) _ _ _ _ _ _ (by omega) (hI.kept b2 b3) b1
      exact ⟨this.1, b2.tr this.2.1, b3.tr this.2.2⟩
    · rw [if_neg h, if_neg h]
      exact ⟨hb.1, KpC.rf w, KpM.rf m⟩
theorem endsI_eq {s x y en q K sp li fd ch : Int} (hch : 0 ≤ ch) (hq : 0 ≤ q) (hx0 : 0 ≤ x ∧ x ≤ 239) (hy0 : 0 ≤ y ∧ y ≤ 119) : ∀ (n : Nat) (a k : Int) (w m : gS), TrI s K sp li fd ch w m → (cEndsI x y en q n a k w).1 = (mEndsI s x y en q n a k m).1 ∧ KpC w (cEndsI x y en q n a k w).2 ∧ KpM m (mEndsI s x y en q n a k m).2
  | 0, a, k, w, m, _ => ⟨rfl, KpC.rf w, KpM.rf m⟩
  | n + 1, a, k, w, m, hI => by
    obtain ⟨t1, _, _, t4, t5⟩ := try_eq (q := q) (aim := a) hch hq hx0 hy0 hI
    have hI2 := hI.kept t4 t5
    unfold cEndsI mEndsI
    by_cases h8 : a < 8
    · rw [if_pos h8, if_pos h8]
      by_cases h0 : (mStepA m 1 s x y q a).1 = en
      · rw [if_pos h0, if_pos (t1.trans h0)]
        have := endsI_eq (s := s) (en := en) hch hq hx0 hy0 n (a + 1) (k + 1) _ _ hI2
        exact ⟨this.1, t4.tr this.2.1, t5.tr this.2.2⟩
      · rw [if_neg h0, if_neg (fun h => h0 (t1.symm.trans h)), Int.add_zero]
        have := endsI_eq (s := s) (en := en) hch hq hx0 hy0 n (a + 1) k _ _ hI2
        exact ⟨this.1, t4.tr this.2.1, t5.tr this.2.2⟩
    · rw [if_neg h8, if_neg h8]
      exact ⟨rfl, KpC.rf w, KpM.rf m⟩
theorem endsO_eq {s x y en K sp li fd ch : Int} (hch : 0 ≤ ch) (hx0 : 0 ≤ x ∧ x ≤ 239) (hy0 : 0 ≤ y ∧ y ≤ 119) : ∀ (n : Nat) (q k : Int) (w m : gS), 0 ≤ q → TrI s K sp li fd ch w m → (cEndsO x y en n q k w).1 = (mEndsO s x y en n q k m).1 ∧ KpC w (cEndsO x y en n q k w).2 ∧ KpM m (mEndsO s x y en n q k m).2
  | 0, q, k, w, m, _, _ => ⟨rfl, KpC.rf w, KpM.rf m⟩
  | n + 1, q, k, w, m, hq, hI => by
    unfold cEndsO mEndsO
    by_cases h : q < 48
    · rw [if_pos h, if_pos h]
      obtain ⟨b1, b2, b3⟩ := endsI_eq (s := s) (en := en) (q := q) hch hq hx0 hy0 9 0 k w m hI
      rw [b1]
      have := endsO_eq (s := s) (en := en) hch hx0 hy0 n (q + 1) (mEndsI s x y en q 9 0 k m).1 _ _ (by omega) (hI.kept b2 b3)
      exact ⟨this.1, b2.tr this.2.1, b3.tr this.2.2⟩
    · rw [if_neg h, if_neg h]
      exact ⟨rfl, KpC.rf w, KpM.rf m⟩
