/-! A SWIM, of the class and of the reference: the cold ahead of each quarter, the places -/
def coldF (K fd ch : Int) : Nat → Int
  | 0 => 0
  | t + 1 => if 0 < fd ∧ ((t : Int) + 1) % fd = 0 then (if 0 < coldF K fd ch t + spCold K ch t - 3 then coldF K fd ch t + spCold K ch t - 3 else 0) else coldF K fd ch t + spCold K ch t
/-- what ready() leaves: w' out of w -/
def RdOk (sd cl rc tc : Nat) (K sp li fd ch : Int) (w w' : gS) : Prop := ∃ R : Nat, (w'.1 rc = (R : Int) ∧ 1 ≤ R ∧ R ≤ 100) ∧ (∀ j, j < R → w'.2.1 sd j = spPace K sp fd j) ∧ (∀ j, j ≤ R → w'.2.1 cl j = coldF K fd ch j) ∧ (∀ j, j + 1 < R → coldF K fd ch (j + 1) < li) ∧ ((w'.1 tc = 1 ∧ li ≤ coldF K fd ch R) ∨ (w'.1 tc = 0 ∧ R = 100 ∧ coldF K fd ch 100 < li)) ∧ (∀ k, k ≠ sd ∧ k ≠ cl → w'.2.1 k = w.2.1 k) ∧ (∀ i, i ≠ rc ∧ i ≠ tc → w'.1 i = w.1 i) ∧ w'.2.2 = w.2.2
theorem cRdL_stop {sd cl rc tc : Nat} {K sp li fd ch : Int} {w : gS} (h : w.1 tc = 1) : ∀ (n : Nat) (t : Int), cRdL sd cl rc tc K sp li fd ch n t w = w
  | 0, _ => rfl
  | n + 1, t => by
    unfold cRdL
    split
    · rw [if_neg (by omega)]
    · rfl
theorem cRdL_ok {sd cl rc tc : Nat} (h1 : sd ≠ cl) (h2 : rc ≠ tc) {K sp li fd ch : Int} : ∀ (n k : Nat) (w : gS), k + n = 101 → k ≤ 100 → w.1 rc = (k : Int) → w.1 tc = 0 → (∀ j, j < k → w.2.1 sd j = spPace K sp fd j) → (∀ j, j ≤ k → w.2.1 cl j = coldF K fd ch j) → (∀ j, j < k → coldF K fd ch (j + 1) < li) → RdOk sd cl rc tc K sp li fd ch w (cRdL sd cl rc tc K sp li fd ch n (k : Int) w)
  | 0, k, w, hn, hk, _, _, _, _, _ => by omega
  | n + 1, k, w, hn, hk, hrc, htc, hsd, hcl, hli => by
    have hC : cRdC w cl K fd ch (k : Int) = coldF K fd ch (k + 1) := by
      show _ = if 0 < fd ∧ ((k : Int) + 1) % fd = 0 then (if 0 < coldF K fd ch k + spCold K ch k - 3 then coldF K fd ch k + spCold K ch k - 3 else 0) else coldF K fd ch k + spCold K ch k
      unfold cRdC
      rw [Int.toNat_natCast, hcl k (Nat.le_refl k)]
    have hone : ∀ (C T : Int), C = coldF K fd ch (k + 1) → (cRd1 w sd cl rc tc (k : Int) (spPace K sp fd k) C T).1 rc = ((k + 1 : Nat) : Int) ∧ (cRd1 w sd cl rc tc (k : Int) (spPace K sp fd k) C T).1 tc = T ∧ (∀ j, j < k + 1 → (cRd1 w sd cl rc tc (k : Int) (spPace K sp fd k) C T).2.1 sd j = spPace K sp fd j) ∧ (∀ j, j ≤ k + 1 → (cRd1 w sd cl rc tc (k : Int) (spPace K sp fd k) C T).2.1 cl j = coldF K fd ch j) ∧ (∀ i, i ≠ sd ∧ i ≠ cl → (cRd1 w sd cl rc tc (k : Int) (spPace K sp fd k) C T).2.1 i = w.2.1 i) ∧ (∀ i, i ≠ rc ∧ i ≠ tc → (cRd1 w sd cl rc tc (k : Int) (spPace K sp fd k) C T).1 i = w.1 i) := by
      intro C T eC
      have t1 : ((k : Int) + 1).toNat = k + 1 := by omega
      have rS : (cRd1 w sd cl rc tc (k : Int) (spPace K sp fd k) C T).2.1 sd = va_up (w.2.1 sd) k (spPace K sp fd k) := by
        show va_up (va_up w.2.1 sd _) cl _ sd = _
        rw [up_n _ _ h1, up_s, Int.toNat_natCast]
      have rC : (cRd1 w sd cl rc tc (k : Int) (spPace K sp fd k) C T).2.1 cl = va_up (w.2.1 cl) (k + 1) C := by
        show va_up (va_up w.2.1 sd _) cl _ cl = _
        rw [up_s, t1]
      refine ⟨?_, ?_, fun j hj => ?_, fun j hj => ?_, fun i hi => ?_, fun i hi => ?_⟩
      · show va_up (va_up w.1 rc _) tc _ rc = _
        rw [up_n _ _ h2, up_s]
        omega
      · show va_up (va_up w.1 rc _) tc _ tc = _
        rw [up_s]
      · rw [rS]
        by_cases q : j = k
        · rw [q, up_s]
        · rw [up_n _ _ q]
          exact hsd j (by omega)
      · rw [rC]
        by_cases q : j = k + 1
        · rw [q, up_s, eC]
        · rw [up_n _ _ q]
          exact hcl j (by omega)
      · show va_up (va_up w.2.1 sd _) cl _ i = _
        rw [up_n _ _ hi.2, up_n _ _ hi.1]
      · show va_up (va_up w.1 rc _) tc _ i = _
        rw [up_n _ _ hi.2, up_n _ _ hi.1]
    unfold cRdL
    by_cases hk1 : (k : Int) < 100
    · rw [if_pos hk1, if_pos htc]
      by_cases hc : li ≤ cRdC w cl K fd ch (k : Int)
      · rw [if_pos hc]
        obtain ⟨a1, a2, a3, a4, a5, a6⟩ := hone (cRdC w cl K fd ch (k : Int)) 1 hC
        rw [cRdL_stop a2]
        exact ⟨k + 1, ⟨a1, by omega, by omega⟩, a3, a4, fun j hj => hli j (by omega), Or.inl ⟨a2, by rw [← hC]; exact hc⟩, a5, a6, rfl⟩
      · rw [if_neg hc]
        obtain ⟨a1, a2, a3, a4, a5, a6⟩ := hone (cRdC w cl K fd ch (k : Int)) 0 hC
        have := cRdL_ok h1 h2 (K := K) (sp := sp) (li := li) (fd := fd) (ch := ch) n (k + 1) (cRd1 w sd cl rc tc (k : Int) (spPace K sp fd k) (cRdC w cl K fd ch (k : Int)) 0) (by omega) (by omega) a1 a2 a3 a4 (fun j hj => by
          by_cases q : j = k
          · rw [q, ← hC]
            omega
          · exact hli j (by omega))
        rw [show ((k + 1 : Nat) : Int) = (k : Int) + 1 by omega] at this
        obtain ⟨R, b1, b2, b3, b4, b5, b6, b7, b8⟩ := this
        exact ⟨R, b1, b2, b3, b4, b5, fun i hi => (b6 i hi).trans (a5 i hi), fun i hi => (b7 i hi).trans (a6 i hi), b8.trans rfl⟩
    · rw [if_neg hk1]
      have hk2 : k = 100 := by omega
      subst hk2
      exact ⟨100, ⟨hrc, by omega, by omega⟩, hsd, hcl, fun j hj => hli j (by omega), Or.inr ⟨htc, rfl, hli 99 (by omega)⟩, fun _ _ => rfl, fun _ _ => rfl, rfl⟩
/-- class and reference in the midst of a swim: k quarters are swum -/
def SmI (xs ys sd rc : Nat) (r : Nat) (s K sp li fd ch : Int) (R : Nat) (w m : gS) (k : Nat) : Prop := (w.1 rc = (R : Int) ∧ ∀ j, j < R → w.2.1 sd j = spPace K sp fd j) ∧ (m.2.1 34 s.toNat = K ∧ m.2.1 35 s.toNat = sp ∧ m.2.1 36 s.toNat = li ∧ m.2.1 37 s.toNat = fd ∧ m.1 21 = ch) ∧ ((∀ j, j < 36 → w.2.1 10 j = m.2.1 32 j) ∧ (∀ j, j < 36 → w.2.1 11 j = m.2.1 33 j) ∧ ∀ j, j < 288 → w.2.1 9 j = m.2.1 31 j) ∧ (∀ j, j ≤ k → w.2.1 xs j = m.2.1 38 (101 * r + j) ∧ w.2.1 ys j = m.2.1 39 (101 * r + j) ∧ (0 ≤ w.2.1 xs j ∧ w.2.1 xs j ≤ 239) ∧ (0 ≤ w.2.1 ys j ∧ w.2.1 ys j ≤ 119)) ∧ m.2.1 41 r = coldF K fd ch k
/-- how both end: Q quarters -/
def SmE (xs ys qi : Nat) (r : Nat) (K fd ch : Int) (R : Nat) (a b : Int × gS) : Prop := a.1 = b.1 ∧ ∃ Q : Nat, (1 ≤ Q ∧ Q ≤ R) ∧ a.2.1 qi = (Q : Int) ∧ b.2.2.1 40 r = (Q : Int) ∧ (∀ j, j ≤ Q → a.2.2.1 xs j = b.2.2.1 38 (101 * r + j) ∧ a.2.2.1 ys j = b.2.2.1 39 (101 * r + j) ∧ (0 ≤ a.2.2.1 xs j ∧ a.2.2.1 xs j ≤ 239) ∧ (0 ≤ a.2.2.1 ys j ∧ a.2.2.1 ys j ≤ 119)) ∧ b.2.2.1 41 r = coldF K fd ch (if a.1 = 2 then Q - 1 else Q)
theorem spCold_nn {K ch t : Int} (h1 : 0 ≤ ch) (h2 : 0 ≤ t) : 0 ≤ spCold K ch t := by
  unfold spCold spAt1
  split
  · omega
  · split <;> split <;> omega
theorem coldF_nn {K fd ch : Int} (h1 : 0 ≤ ch) : ∀ k, 0 ≤ coldF K fd ch k
  | 0 => Int.le_refl 0
  | k + 1 => by
    have h := coldF_nn (K := K) (fd := fd) h1 k
    have h2 := spCold_nn (K := K) (t := (k : Int)) h1 (by omega)
    unfold coldF
    split
    · split <;> omega
    · omega
theorem sim {xs ys sd qi rc : Nat} (hxy : xs ≠ ys) (hx : sd ≠ xs ∧ 9 ≠ xs ∧ 10 ≠ xs ∧ 11 ≠ xs) (hy : sd ≠ ys ∧ 9 ≠ ys ∧ 10 ≠ ys ∧ 11 ≠ ys) (hrq : rc ≠ qi) {r : Nat} {s q aim K sp li fd ch e0 : Int} {R : Nat} (hR : R ≤ 100) (hch : 0 ≤ ch) (hq0 : 0 ≤ q) (hli : ∀ j, j + 1 < R → coldF K fd ch (j + 1) < li) (he : (e0 = 1 ∧ li ≤ coldF K fd ch R) ∨ (e0 = 3 ∧ R = 100 ∧ coldF K fd ch 100 < li)) :
    ∀ (n k : Nat) (w m : gS), k + n = 101 → k < R → SmI xs ys sd rc r s K sp li fd ch R w m k → SmE xs ys qi r K fd ch R (cCrL xs ys sd qi rc q aim e0 n (k : Int) w) (mStep (r : Int) s q aim n (k : Int) ((101 * r + k : Nat) : Int) m)
  | 0, k, w, m, hn, hk, _ => by omega
  | n + 1, k, w, m, hn, hk, hI => by
    obtain ⟨⟨hrc, hsd⟩, ⟨m34, m35, m36, m37, m21⟩, ⟨t10, t11, t9⟩, hpl, hco⟩ := hI
    obtain ⟨hpx, hpy, hxr, hyr⟩ := hpl k (Nat.le_refl k)
    have tk : ((k : Int)).toNat = k := Int.toNat_natCast k
    have tk1 : ((k : Int) + 1).toNat = k + 1 := by omega
    have ta : (((101 * r + k : Nat) : Int)).toNat = 101 * r + k := Int.toNat_natCast _
    have ta1 : (((101 * r + k : Nat) : Int) + 1).toNat = 101 * r + (k + 1) := by omega
    have tr : ((r : Int)).toNat = r := Int.toNat_natCast r
    have hT : (w.2.1 ys k / 40 * 12 + (q + k) / 4 % 12).toNat < 36 := by omega
    have hW : cAl w sd (k : Int) aim = stW m s aim (k : Int) := by
      unfold cAl stW spWay
      rw [tk, hsd k hk, m34, m35, m37]
      by_cases h : aim % 2 = 0
      · rw [if_pos h, if_neg (by omega)]
      · rw [if_neg h, if_pos (by omega)]
    have hS : (stT m q (k : Int) ((101 * r + k : Nat) : Int)) = w.2.1 ys k / 40 * 12 + (q + k) / 4 % 12 := by
      unfold stT
      rw [ta, hpy]
    have hX : cX w xs ys sd (k : Int) (q + k) aim = stX m s q aim (k : Int) ((101 * r + k : Nat) : Int) := by
      unfold cX stX
      rw [hW, hS, tk, ta, hpx, t10 _ hT]
    have hY : cY w ys sd (k : Int) (q + k) aim = stY m s q aim (k : Int) ((101 * r + k : Nat) : Int) := by
      unfold cY stY
      rw [hW, hS, tk, ta, ← hpy, t11 _ hT]
    have hC : stC m (r : Int) s (k : Int) = coldF K fd ch (k + 1) := by
      have c0 := coldF_nn (K := K) (fd := fd) hch k
      have c1 := spCold_nn (K := K) (t := (k : Int)) hch (by omega)
      show _ = if 0 < fd ∧ ((k : Int) + 1) % fd = 0 then (if 0 < coldF K fd ch k + spCold K ch k - 3 then coldF K fd ch k + spCold K ch k - 3 else 0) else coldF K fd ch k + spCold K ch k
      unfold stC stC0
      rw [tr, hco, m34, m37, m21]
      by_cases h : 0 < fd ∧ ((k : Int) + 1) % fd = 0
      · rw [if_pos h, if_pos h]
        split <;> split <;> omega
      · rw [if_neg h, if_neg h]
        split <;> omega
    -- the class's state after a quarter
    have rX : ∀ (X Y : Int), (cStB w xs ys qi (k : Int) X Y).2.1 xs = va_up (w.2.1 xs) (k + 1) X := fun X Y => by
      show va_up (va_up w.2.1 xs _) ys _ xs = _
      rw [up_n _ _ hxy, up_s, tk1]
    have rY : ∀ (X Y : Int), (cStB w xs ys qi (k : Int) X Y).2.1 ys = va_up (w.2.1 ys) (k + 1) Y := fun X Y => by
      show va_up (va_up w.2.1 xs _) ys _ ys = _
      rw [up_s, tk1]
    have rO : ∀ (X Y : Int) (i : Nat), i ≠ xs → i ≠ ys → (cStB w xs ys qi (k : Int) X Y).2.1 i = w.2.1 i := fun X Y i h1 h2 => by
      show va_up (va_up w.2.1 xs _) ys _ i = _
      rw [up_n _ _ h2, up_n _ _ h1]
    have rQ : ∀ (X Y : Int), (cStB w xs ys qi (k : Int) X Y).1 qi = ((k + 1 : Nat) : Int) := fun X Y => by
      show va_up w.1 qi _ qi = _
      rw [up_s]
      omega
    have rR : ∀ (X Y : Int), (cStB w xs ys qi (k : Int) X Y).1 rc = (R : Int) := fun X Y => by
      show va_up w.1 qi _ rc = _
      rw [up_n _ _ hrq, hrc]
    -- places after a quarter
    have pl : ∀ (X Y : Int) (g : Nat → Nat → Int), g 38 = va_up (m.2.1 38) (101 * r + (k + 1)) X → g 39 = va_up (m.2.1 39) (101 * r + (k + 1)) Y → (0 ≤ X ∧ X ≤ 239) → (0 ≤ Y ∧ Y ≤ 119) → ∀ j, j ≤ k + 1 → (cStB w xs ys qi (k : Int) X Y).2.1 xs j = g 38 (101 * r + j) ∧ (cStB w xs ys qi (k : Int) X Y).2.1 ys j = g 39 (101 * r + j) ∧ (0 ≤ (cStB w xs ys qi (k : Int) X Y).2.1 xs j ∧ (cStB w xs ys qi (k : Int) X Y).2.1 xs j ≤ 239) ∧ (0 ≤ (cStB w xs ys qi (k : Int) X Y).2.1 ys j ∧ (cStB w xs ys qi (k : Int) X Y).2.1 ys j ≤ 119) := by
      intro X Y g g1 g2 hX0 hY0 j hj
      rw [rX, rY, g1, g2]
      by_cases e : j = k + 1
      · subst e
        rw [up_s, up_s, up_s, up_s]
        exact ⟨rfl, rfl, hX0, hY0⟩
      · rw [up_n _ _ e, up_n _ _ e, up_n _ _ (by omega), up_n _ _ (by omega)]
        exact hpl j (by omega)
    have mB : ∀ (X Y : Int), (stB m (r : Int) (k : Int) ((101 * r + k : Nat) : Int) X Y).2.1 38 = va_up (m.2.1 38) (101 * r + (k + 1)) X ∧ (stB m (r : Int) (k : Int) ((101 * r + k : Nat) : Int) X Y).2.1 39 = va_up (m.2.1 39) (101 * r + (k + 1)) Y ∧ (stB m (r : Int) (k : Int) ((101 * r + k : Nat) : Int) X Y).2.1 40 r = ((k + 1 : Nat) : Int) ∧ (stB m (r : Int) (k : Int) ((101 * r + k : Nat) : Int) X Y).2.1 41 = m.2.1 41 := fun X Y => by
      refine ⟨?_, ?_, ?_, rfl⟩
      · show va_up (m.2.1 38) (((101 * r + k : Nat) : Int) + 1).toNat X = _
        rw [ta1]
      · show va_up (m.2.1 39) (((101 * r + k : Nat) : Int) + 1).toNat Y = _
        rw [ta1]
      · show va_up (m.2.1 40) ((r : Int)).toNat ((k : Int) + 1) r = _
        rw [tr, up_s]
        omega
    have mD : ∀ (X Y C : Int), (stD m (r : Int) (k : Int) ((101 * r + k : Nat) : Int) X Y C).2.1 38 = va_up (m.2.1 38) (101 * r + (k + 1)) X ∧ (stD m (r : Int) (k : Int) ((101 * r + k : Nat) : Int) X Y C).2.1 39 = va_up (m.2.1 39) (101 * r + (k + 1)) Y ∧ (stD m (r : Int) (k : Int) ((101 * r + k : Nat) : Int) X Y C).2.1 40 r = ((k + 1 : Nat) : Int) ∧ (stD m (r : Int) (k : Int) ((101 * r + k : Nat) : Int) X Y C).2.1 41 r = C := fun X Y C => by
      refine ⟨(mB X Y).1, (mB X Y).2.1, (mB X Y).2.2.1, ?_⟩
      show va_up (m.2.1 41) ((r : Int)).toNat C r = _
      rw [tr, up_s]
    unfold cCrL mStep
    rw [if_pos (show (k : Int) < w.1 rc by rw [hrc]; omega), if_pos (show (k : Int) < 100 by omega)]
    by_cases hin : (0 ≤ stX m s q aim (k : Int) ((101 * r + k : Nat) : Int) ∧ stX m s q aim (k : Int) ((101 * r + k : Nat) : Int) ≤ 239) ∧ (0 ≤ stY m s q aim (k : Int) ((101 * r + k : Nat) : Int) ∧ stY m s q aim (k : Int) ((101 * r + k : Nat) : Int) ≤ 119)
    · have hst : cStay w xs ys sd qi (k : Int) (q + k) aim = (1, cStB w xs ys qi (k : Int) (stX m s q aim (k : Int) ((101 * r + k : Nat) : Int)) (stY m s q aim (k : Int) ((101 * r + k : Nat) : Int))) := by
        unfold cStay
        rw [hX, hY, if_pos hin]
      rw [hst, if_neg (show ¬ (1 : Int) = 0 by decide), if_pos hin]
      generalize hXX : stX m s q aim (k : Int) ((101 * r + k : Nat) : Int) = X at hin ⊢
      generalize hYY : stY m s q aim (k : Int) ((101 * r + k : Nat) : Int) = Y at hin ⊢
      dsimp only
      have hd : spDry ((cStB w xs ys qi (k : Int) X Y).2.1 9) ((cStB w xs ys qi (k : Int) X Y).2.1 xs ((k : Int) + 1).toNat) ((cStB w xs ys qi (k : Int) X Y).2.1 ys ((k : Int) + 1).toNat) = spDry (m.2.1 31) X Y := by
        rw [rO X Y 9 hx.2.1 hy.2.1, rX, rY, tk1, up_s, up_s]
        unfold spDry
        exact t9 _ (by omega)
      rw [hd, hC, m36]
      have pD := mD X Y (coldF K fd ch (k + 1))
      have hpl2 := pl X Y (stD m (r : Int) (k : Int) ((101 * r + k : Nat) : Int) X Y (coldF K fd ch (k + 1))).2.1 pD.1 pD.2.1 hin.1 hin.2
      by_cases hdry : spDry (m.2.1 31) X Y = 0
      · rw [if_pos hdry, if_pos hdry]
        by_cases hk1 : k + 1 < R
        · rw [if_neg (show ¬ li ≤ coldF K fd ch (k + 1) by have := hli k hk1; omega)]
          have := sim hxy hx hy hrq (s := s) (q := q) (aim := aim) (sp := sp) hR hch hq0 hli he n (k + 1) (cStB w xs ys qi (k : Int) X Y) (stD m (r : Int) (k : Int) ((101 * r + k : Nat) : Int) X Y (coldF K fd ch (k + 1))) (by omega) hk1 ⟨⟨rR X Y, fun j hj => by rw [rO X Y sd hx.1 hy.1]; exact hsd j hj⟩, ⟨m34, m35, m36, m37, m21⟩, ⟨fun j hj => by rw [rO X Y 10 hx.2.2.1 hy.2.2.1]; exact t10 j hj, fun j hj => by rw [rO X Y 11 hx.2.2.2 hy.2.2.2]; exact t11 j hj, fun j hj => by rw [rO X Y 9 hx.2.1 hy.2.1]; exact t9 j hj⟩, hpl2, pD.2.2.2⟩
          rw [show ((k + 1 : Nat) : Int) = (k : Int) + 1 by omega, show ((101 * r + (k + 1) : Nat) : Int) = ((101 * r + k : Nat) : Int) + 1 by omega] at this
          exact this
        · have hkR : k + 1 = R := by omega
          have hcl : cCrL xs ys sd qi rc q aim e0 n ((k : Int) + 1) (cStB w xs ys qi (k : Int) X Y) = (e0, cStB w xs ys qi (k : Int) X Y) := by
            cases n with
            | zero => rfl
            | succ n =>
              unfold cCrL
              rw [if_neg (by rw [rR]; omega)]
          rw [hcl]
          rcases he with ⟨e1, e2⟩ | ⟨e1, e2, e3⟩
          · rw [if_pos (by rw [hkR]; exact e2), e1]
            exact ⟨rfl, k + 1, ⟨by omega, by omega⟩, rQ X Y, pD.2.2.1, hpl2, pD.2.2.2⟩
          · rw [if_neg (by rw [hkR, e2]; omega)]
            have hms : ∀ z, mStep (r : Int) s q aim n ((k : Int) + 1) (((101 * r + k : Nat) : Int) + 1) z = (3, z) := fun z => by
              cases n with
              | zero => rfl
              | succ n =>
                unfold mStep
                rw [if_neg (by omega)]
            rw [hms, e1]
            exact ⟨rfl, k + 1, ⟨by omega, by omega⟩, rQ X Y, pD.2.2.1, hpl2, pD.2.2.2⟩
      · rw [if_neg hdry, if_neg hdry]
        exact ⟨rfl, k + 1, ⟨by omega, by omega⟩, rQ X Y, pD.2.2.1, hpl2, pD.2.2.2⟩
    · have hst : cStay w xs ys sd qi (k : Int) (q + k) aim = (0, cStB w xs ys qi (k : Int) (w.2.1 xs k) (w.2.1 ys k)) := by
        unfold cStay
        rw [hX, hY, if_neg hin, tk]
      rw [hst, if_pos rfl, if_neg hin, ta, ← hpx, ← hpy]
      have pB := mB (w.2.1 xs k) (w.2.1 ys k)
      refine ⟨rfl, k + 1, ⟨by omega, by omega⟩, rQ _ _, pB.2.2.1, pl _ _ _ pB.1 pB.2.1 hxr hyr, ?_⟩
      show (stB m (r : Int) (k : Int) ((101 * r + k : Nat) : Int) (w.2.1 xs k) (w.2.1 ys k)).2.1 41 r = coldF K fd ch (if (2 : Int) = 2 then k + 1 - 1 else k + 1)
      rw [pB.2.2.2, if_pos rfl]
      exact hco
