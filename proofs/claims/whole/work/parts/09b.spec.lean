def spAt1 (v : Int) : Int := if v < 1 then 1 else v
def okFed (f t : Int) : Prop := 0 < f ∧ (t + 1) % f = 0
def spPc (k sp t : Int) : Int := if k = 2 then (if t < 8 then sp + 4 else spAt1 (sp - t / 4)) else spAt1 (sp - t / 6)
def spPace (k sp f t : Int) : Int := if 0 < f ∧ (t + 1) % f = 0 then spPc k sp t / 2 else spPc k sp t
def spCold (k ch t : Int) : Int := if k = 0 ∨ k = 2 then ch + t / 8 else if k = 3 then spAt1 (spAt1 (ch + t / 8 - 2) / 2) else spAt1 (ch + t / 8 - 2)
def mSwimmer (u : gS) (k f c : Int) : Int × gS := if (0 ≤ k ∧ k ≤ 3) ∧ (1 ≤ f ∧ f ≤ 20) ∧ (1 ≤ c ∧ c ≤ 400) then (if u.1 23 = 10 then (-2, u) else (u.1 23, sI (sF (sF (sF (sF (sF u 34 (va_up (u.2.1 34) (u.1 23).toNat k)) 35 (va_up (u.2.1 35) (u.1 23).toNat f)) 36 (va_up (u.2.1 36) (u.1 23).toNat c)) 37 (va_up (u.2.1 37) (u.1 23).toNat 0)) 51 (va_up (u.2.1 51) (u.1 23).toNat 0)) 23 (u.1 23 + 1))) else (-1, u)
def mFeed (u : gS) (s n : Int) : Int × gS := if (0 ≤ s ∧ s ≤ u.1 23 - 1) ∧ (0 ≤ n ∧ n ≤ 40) then (u.2.1 37 s.toNat, sF u 37 (va_up (u.2.1 37) s.toNat n)) else (-1, u)
def mPace (u : gS) (s t w : Int) : Int := if (0 ≤ s ∧ s ≤ u.1 23 - 1) ∧ (0 ≤ t ∧ t ≤ 99) ∧ (0 ≤ w ∧ w ≤ 1) then (if w = 0 then spPace (u.2.1 34 s.toNat) (u.2.1 35 s.toNat) (u.2.1 37 s.toNat) t else spCold (u.2.1 34 s.toNat) (u.1 21) t) else -1
def mEnded (u : gS) (w : Int) : Int := if 0 ≤ w ∧ w ≤ 4 then (if u.1 24 = -1 then -3 else if w = 0 then u.2.1 38 (u.2.1 40 0).toNat else if w = 1 then u.2.1 39 (u.2.1 40 0).toNat else if w = 2 then u.2.1 40 0 else if w = 3 then u.2.1 41 0 else u.1 24) else -1
def mWhere (u : gS) (t : Int) : Int := if 0 ≤ t ∧ t ≤ 100 then (if u.1 24 = -1 ∨ u.2.1 40 0 < t then -3 else 1000 * u.2.1 38 t.toNat + u.2.1 39 t.toNat) else -1
def mShip (u : gS) (x y e n : Int) : Int × gS := if ((0 ≤ x ∧ x ≤ 239) ∧ (0 ≤ y ∧ y ≤ 119)) ∧ (-20 ≤ e ∧ e ≤ 20) ∧ (-20 ≤ n ∧ n ≤ 20) then (if u.1 25 = 8 then (-2, u) else (u.1 25, sI (sF (sF (sF (sF u 42 (va_up (u.2.1 42) (u.1 25).toNat x)) 43 (va_up (u.2.1 43) (u.1 25).toNat y)) 44 (va_up (u.2.1 44) (u.1 25).toNat e)) 45 (va_up (u.2.1 45) (u.1 25).toNat n)) 25 (u.1 25 + 1))) else (-1, u)
def mStroke (u : gS) (n : Int) : Int × gS := if 0 ≤ n ∧ n ≤ 99 then (if u.1 26 = 60 then (-2, u) else (u.1 26 + 1, sI (sF u 46 (va_up (u.2.1 46) (u.1 26).toNat n)) 26 (u.1 26 + 1))) else (-1, u)
def mTurn (u : gS) (s : Int) : Int × gS := if 0 ≤ s ∧ s ≤ u.1 23 - 1 then (if u.1 28 = 40 then (-2, u) else if u.1 27 = 0 then (-3, u) else (u.1 28 + 1, sI (sF u 48 (va_up (u.2.1 48) (u.1 28).toNat s)) 28 (u.1 28 + 1))) else (-1, u)
def mCalm (u : gS) (d b : Int) : Int × gS := if 0 ≤ d ∧ d ≤ 15 then (if u.2.1 49 d.toNat = b then 0 else 1, sF u 49 (va_up (u.2.1 49) d.toNat b)) else (-1, u)
def mSlot (u : gS) (s p k d : Int) : Int × gS := if (0 ≤ s ∧ s ≤ u.1 23 - 1) ∧ (0 ≤ p ∧ p ≤ 3) ∧ (1 ≤ k ∧ k ≤ 4) ∧ (0 ≤ d ∧ d ≤ 65535) then (if u.2.1 51 s.toNat = 0 then 1 else 0, sF (sF (sF u 50 (va_up (u.2.1 50) s.toNat p)) 51 (va_up (u.2.1 51) s.toNat k)) 52 (va_up (u.2.1 52) s.toNat d)) else (-1, u)
def spWeight (k sp li f : Int) : Int := if k = 0 then 10 + sp + f else if k = 2 then 10 + sp + f + li else if k = 1 then 10 + sp + f + 100 else 2 * (10 + sp + f + 100)
def mNoSw (u : gS) (d : Int) : Int := if 0 ≤ d ∧ d ≤ 7 then (if u.2.1 58 d.toNat = 0 then -11 else if u.2.1 58 d.toNat = 1 then 0 else -12) else -1
def mWeight (u : gS) (d : Int) : Int := if mNoSw u d < 0 then mNoSw u d else u.2.1 61 d.toNat
def mToss (u : gS) (d : Int) : Int := if mNoSw u d < 0 then mNoSw u d else if u.2.1 60 d.toNat = 0 then -15 else u.2.1 59 d.toNat
theorem spAt1_bnd {v a : Int} (h : v ≤ a) (ha : 1 ≤ a) : 1 ≤ spAt1 v ∧ spAt1 v ≤ a := by unfold spAt1; split <;> omega
theorem spPc_bnd {k sp t : Int} (hs : 0 ≤ sp ∧ sp ≤ 20) (ht : 0 ≤ t ∧ t ≤ 1000) : 0 ≤ spPc k sp t ∧ spPc k sp t ≤ 24 := by
  have h1 := spAt1_bnd (v := sp - t / 4) (a := 24) (by omega) (by omega)
  have h2 := spAt1_bnd (v := sp - t / 6) (a := 24) (by omega) (by omega)
  unfold spPc
  split
  · split <;> omega
  · omega
theorem spPace_bnd {k sp f t : Int} (hk : 0 ≤ k ∧ k ≤ 3) (hs : 0 ≤ sp ∧ sp ≤ 20) (ht : 0 ≤ t ∧ t ≤ 1000) : 0 ≤ spPace k sp f t ∧ spPace k sp f t ≤ 24 := by
  have h1 := spPc_bnd (k := k) hs ht
  unfold spPace
  split <;> omega
theorem spCold_bnd {k ch t : Int} (hk : 0 ≤ k ∧ k ≤ 3) (hc : 0 ≤ ch ∧ ch ≤ 20) (ht : 0 ≤ t ∧ t ≤ 1000) : 0 ≤ spCold k ch t ∧ spCold k ch t ≤ 145 := by
  unfold spCold spAt1
  split
  · omega
  · split
    · split <;> split <;> omega
    · split <;> omega
theorem aimE_bnd (j : Nat) : -1 ≤ aimE j ∧ aimE j ≤ 1 := by unfold aimE; split <;> omega
theorem aimN_bnd (j : Nat) : -1 ≤ aimN j ∧ aimN j ≤ 1 := by unfold aimN; split <;> omega
