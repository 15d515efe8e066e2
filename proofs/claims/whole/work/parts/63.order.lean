/-! ORDERS: the digits of both sides -/
theorem ushr_k : ∀ k : Fin 32, (((zI (k.val : Int)).toUInt32 &&& Int32.toUInt32 31).toBitVec % 32).toNat = k.val := by decide +kernel
theorem bShr_nn {N k : Nat} (h : N < 2147483648) (hk : k < 32) : bShr (N : Int) (k : Int) = ((N / 2 ^ k : Nat) : Int) := by
  unfold bShr
  rw [zI_nat N, pk_shrN (n := N) h (zI (k : Int) &&& 31) k (smod_k ⟨k, hk⟩), nI_toInt (Nat.lt_of_le_of_lt (Nat.div_le_self _ _) h)]
theorem bUshr_nn {N k : Nat} (h : N < 2147483648) (hk : k < 32) : bUshr (N : Int) (k : Int) = ((N / 2 ^ k : Nat) : Int) := by
  unfold bUshr
  rw [zI_nat N, pk_ushrN (n := N) (by omega) (zI (k : Int)) k (ushr_k ⟨k, hk⟩), nI_toInt (Nat.lt_of_le_of_lt (Nat.div_le_self _ _) h)]
def ordD (N z : Nat) : Nat := N / 2 ^ (4 * z)
theorem ordD_s (N z : Nat) : ordD N z / 16 = ordD N (z + 1) := by
  unfold ordD
  rw [Nat.div_div_eq_div_mul, show 4 * (z + 1) = 4 * z + 4 by omega, Nat.pow_add]
theorem ordD_lt {N z : Nat} (h : N < 2147483648) : ordD N z < 2147483648 := Nat.lt_of_le_of_lt (Nat.div_le_self _ _) h
theorem ordU {N z : Nat} (h : N < 2147483648) (hz : z ≤ 6) : bUshr (N : Int) (4 * (z : Int)) = (ordD N z : Int) := by
  rw [show (4 * (z : Int)) = ((4 * z : Nat) : Int) by omega, bUshr_nn h (by omega)]
  rfl
theorem ordS {N z : Nat} (h : N < 2147483648) (hz : z ≤ 6) : bShr (N : Int) (4 * (z : Int)) = (ordD N z : Int) := by
  rw [show (4 * (z : Int)) = ((4 * z : Nat) : Int) by omega, bShr_nn h (by omega)]
  rfl
theorem ordN {N z : Nat} (h : N < 2147483648) : bShr (ordD N z : Int) 4 = (ordD N (z + 1) : Int) := by
  have := bShr_nn (k := 4) (ordD_lt (z := z) h) (by decide)
  rw [show ((4 : Nat) : Int) = 4 from rfl] at this
  rw [this, show (2 : Nat) ^ 4 = 16 from rfl, ordD_s]
theorem ordD_0 {N z y : Nat} (h : ordD N z = 0) (hy : z ≤ y) : ordD N y = 0 := by
  unfold ordD at h ⊢
  have h1 : N < 2 ^ (4 * z) := by
    rcases Nat.div_eq_zero_iff.mp h with q | q
    · exact absurd q (Nat.ne_of_gt (Nat.pow_pos (by decide)))
    · exact q
  exact Nat.div_eq_of_lt (Nat.lt_of_lt_of_le h1 (Nat.pow_le_pow_right (by decide) (by omega)))
theorem cOsz_neg {cnt d : Int} (h : bUshr d 24 ≠ 0) : ∀ (n : Nat) (told sz : Int), cOsz cnt d n told sz = -1
  | 0, _, _ => rfl
  | n + 1, told, sz => by
    have hF : cOszF d sz = -1 := if_neg h
    unfold cOsz
    split
    · split
      · exact hF
      · split
        · split
          · exact cOsz_neg h n _ _
          · rfl
        · rfl
    · exact hF
theorem ush_neg {d : Int} (h1 : -2147483648 ≤ d) (h2 : d < 0) : bUshr d 24 ≠ 0 := by
  intro h
  have e : ∀ j, tb (bUshr d 24) j = false := fun j => by rw [h, tb_0]
  have h31 := e 7
  have hu : (((zI 24).toUInt32 &&& Int32.toUInt32 31).toBitVec % 32).toNat = 24 := by decide
  have hn : (((zI d).toUInt32 >>> ((zI 24).toUInt32 &&& Int32.toUInt32 31)).toInt32).toBitVec.toNat = (zI d).toBitVec.toNat / 2 ^ 24 := pk_ushr (zI d) (zI 24) 24 hu
  unfold bUshr at h
  have hz : ((zI d).toUInt32 >>> ((zI 24).toUInt32 &&& Int32.toUInt32 31)).toInt32 = 0 := by
    rw [← zI_of (((zI d).toUInt32 >>> ((zI 24).toUInt32 &&& Int32.toUInt32 31)).toInt32), h]
    rfl
  rw [hz, show (0 : Int32).toBitVec.toNat = 0 from rfl] at hn
  have hd := zI_toInt h1 (show d < 2147483648 by omega)
  have ht : (zI d).toInt = (zI d).toBitVec.toInt := rfl
  rw [BitVec.toInt_eq_toNat_cond] at ht
  have hlt : (zI d).toBitVec.toNat < 16777216 := by omega
  rw [if_pos (by omega)] at ht
  omega
theorem osz_eq {cnt : Int} {N : Nat} (h : N < 2147483648) : ∀ (n z : Nat) (told : Int), z + n = 7 → z ≤ 6 → cOsz cnt (N : Int) n told (z : Int) = mOrdL cnt (n + 1) (ordD N z : Int) (z : Int) told
  | 0, z, told, hz, hz6 => by omega
  | n + 1, z, told, hz, hz7 => by
    have hF : ∀ y : Int, cOszF (N : Int) y = if ordD N 6 = 0 then y else -1 := fun y => by
      unfold cOszF
      have := ordU (z := 6) h (by decide)
      rw [show (4 * ((6 : Nat) : Int)) = 24 from rfl] at this
      rw [this]
      by_cases q : ordD N 6 = 0
      · rw [if_pos (by rw [q]; rfl), if_pos q]
      · rw [if_neg (by omega), if_neg q]
    unfold cOsz
    rw [show mOrdL cnt (n + 1 + 1) (ordD N z : Int) (z : Int) told = if 0 < (ordD N z : Int) then (if (z : Int) = 6 then -1 else if 0 ≤ bAnd (ordD N z : Int) 15 - 1 ∧ bAnd (ordD N z : Int) 15 - 1 ≤ cnt - 1 then (if bAnd (bShr told (bAnd (ordD N z : Int) 15 - 1)) 1 = 1 then -1 else mOrdL cnt (n + 1) (bShr (ordD N z : Int) 4) ((z : Int) + 1) (bOr told (bShl 1 (bAnd (ordD N z : Int) 15 - 1)))) else -1) else (z : Int) from rfl]
    by_cases h6 : (z : Int) < 6
    · rw [if_pos h6, ordU h (by omega)]
      by_cases h0 : ordD N z = 0
      · rw [if_pos (show (ordD N z : Int) = 0 by omega), if_neg (show ¬ 0 < (ordD N z : Int) by omega), hF, if_pos (ordD_0 h0 (by omega))]
      · rw [if_neg (show ¬ (ordD N z : Int) = 0 by omega), if_pos (show 0 < (ordD N z : Int) by omega), if_neg (show ¬ (z : Int) = 6 by omega)]
        by_cases hd : 0 ≤ bAnd (ordD N z : Int) 15 - 1 ∧ bAnd (ordD N z : Int) 15 - 1 ≤ cnt - 1
        · rw [if_pos hd, if_pos hd]
          have b15 := bAnd_15 (ordD N z : Int)
          have hb := bShr_1 (a := told) (k := bAnd (ordD N z : Int) 15 - 1) hd.1 (by omega)
          by_cases hs : tb told (bAnd (ordD N z : Int) 15 - 1).toNat = true
          · rw [if_pos hs] at hb
            rw [hb, if_neg (show ¬ (1 : Int) = 0 by decide), if_pos (show (1 : Int) = 1 from rfl)]
          · rw [if_neg hs] at hb
            rw [hb, if_pos (show (0 : Int) = 0 from rfl), if_neg (show ¬ (0 : Int) = 1 by decide), ordN h, show ((z : Int) + 1) = ((z + 1 : Nat) : Int) by omega]
            exact osz_eq h n (z + 1) _ (by omega) (by omega)
        · rw [if_neg hd, if_neg hd]
    · have hz6 : z = 6 := by omega
      subst hz6
      rw [if_neg h6, hF]
      by_cases h0 : ordD N 6 = 0
      · rw [if_pos h0, if_neg (show ¬ 0 < (ordD N 6 : Int) by omega)]
      · rw [if_neg h0, if_pos (show 0 < (ordD N 6 : Int) by omega), if_pos (show ((6 : Nat) : Int) = 6 from rfl)]
theorem cOrdW_ok {d : Int} {M : Nat} : ∀ (f i : Nat) (w : gS), w.1 16 = (i : Int) → i ≤ M → M ≤ i + f → (cOrdW d (M : Int) f (i : Int) w).1 16 = (M : Int) ∧ (∀ j, j < i → (cOrdW d (M : Int) f (i : Int) w).2.1 23 j = w.2.1 23 j) ∧ (∀ j, i ≤ j → j < M → (cOrdW d (M : Int) f (i : Int) w).2.1 23 j = bAnd (bUshr d (4 * (j : Int))) 15 - 1) ∧ (∀ k, k ≠ 23 → (cOrdW d (M : Int) f (i : Int) w).2.1 k = w.2.1 k) ∧ (∀ k, k ≠ 16 → (cOrdW d (M : Int) f (i : Int) w).1 k = w.1 k) ∧ (cOrdW d (M : Int) f (i : Int) w).2.2 = w.2.2
  | 0, i, w, h1, h2, h3 => ⟨by rw [show M = i by omega]; exact h1, fun _ _ => rfl, fun j a b => by omega, fun _ _ => rfl, fun _ _ => rfl, rfl⟩
  | f + 1, i, w, h1, h2, h3 => by
    unfold cOrdW
    by_cases h : (i : Int) < (M : Int)
    · rw [if_pos h, h1, Int.toNat_natCast]
      have e16 : (sI (sF w 23 (va_up (w.2.1 23) i (bAnd (bUshr d (4 * (i : Int))) 15 - 1))) 16 ((i : Int) + 1)).1 16 = ((i + 1 : Nat) : Int) := by
        show va_up w.1 16 ((i : Int) + 1) 16 = _
        rw [up_s]
        omega
      have := cOrdW_ok (d := d) (M := M) f (i + 1) _ e16 (by omega) (by omega)
      rw [show ((i + 1 : Nat) : Int) = (i : Int) + 1 by omega] at this
      obtain ⟨a1, a2, a3, a4, a5, a6⟩ := this
      have r23 : (sI (sF w 23 (va_up (w.2.1 23) i (bAnd (bUshr d (4 * (i : Int))) 15 - 1))) 16 ((i : Int) + 1)).2.1 23 = va_up (w.2.1 23) i (bAnd (bUshr d (4 * (i : Int))) 15 - 1) := (show va_up w.2.1 23 (va_up (w.2.1 23) i (bAnd (bUshr d (4 * (i : Int))) 15 - 1)) 23 = va_up (w.2.1 23) i (bAnd (bUshr d (4 * (i : Int))) 15 - 1) from up_s _ _ _)
      refine ⟨a1, fun j hj => ?_, fun j h4 h5 => ?_, fun k hk => (a4 k hk).trans (up_n _ _ hk), fun k hk => (a5 k hk).trans (up_n _ _ hk), a6.trans rfl⟩
      · rw [a2 j (by omega), r23, up_n _ _ (by omega)]
      · by_cases e : j = i
        · rw [e, a2 i (by omega), r23, up_s]
        · exact a3 j (by omega) h5
    · rw [if_neg h]
      exact ⟨by rw [h1]; omega, fun _ _ => rfl, fun j a b => by omega, fun _ _ => rfl, fun _ _ => rfl, rfl⟩
theorem mOrdW_ok {d : Int} {M : Nat} : ∀ (f i : Nat) (w : gS), i ≤ M → M ≤ i + f → (∀ j, j < i → (mOrdW d (M : Int) f (i : Int) w).2.1 47 j = w.2.1 47 j) ∧ (∀ j, i ≤ j → j < M → (mOrdW d (M : Int) f (i : Int) w).2.1 47 j = bAnd (bShr d (4 * (j : Int))) 15 - 1) ∧ (∀ k, k ≠ 47 → (mOrdW d (M : Int) f (i : Int) w).2.1 k = w.2.1 k) ∧ (mOrdW d (M : Int) f (i : Int) w).1 = w.1 ∧ (mOrdW d (M : Int) f (i : Int) w).2.2 = w.2.2
  | 0, i, w, h2, h3 => ⟨fun _ _ => rfl, fun j a b => by omega, fun _ _ => rfl, rfl, rfl⟩
  | f + 1, i, w, h2, h3 => by
    unfold mOrdW
    by_cases h : (i : Int) < (M : Int)
    · rw [if_pos h, Int.toNat_natCast]
      have := mOrdW_ok (d := d) (M := M) f (i + 1) (sF w 47 (va_up (w.2.1 47) i (bAnd (bShr d (4 * (i : Int))) 15 - 1))) (by omega) (by omega)
      rw [show ((i + 1 : Nat) : Int) = (i : Int) + 1 by omega] at this
      obtain ⟨a2, a3, a4, a5, a6⟩ := this
      have r47 : (sF w 47 (va_up (w.2.1 47) i (bAnd (bShr d (4 * (i : Int))) 15 - 1))).2.1 47 = va_up (w.2.1 47) i (bAnd (bShr d (4 * (i : Int))) 15 - 1) := (show va_up w.2.1 47 (va_up (w.2.1 47) i (bAnd (bShr d (4 * (i : Int))) 15 - 1)) 47 = va_up (w.2.1 47) i (bAnd (bShr d (4 * (i : Int))) 15 - 1) from up_s _ _ _)
      refine ⟨fun j hj => ?_, fun j h4 h5 => ?_, fun k hk => (a4 k hk).trans (up_n _ _ hk), a5.trans rfl, a6.trans rfl⟩
      · rw [a2 j (by omega), r47, up_n _ _ (by omega)]
      · by_cases e : j = i
        · rw [e, a2 i (by omega), r47, up_s]
        · exact a3 j (by omega) h5
    · rw [if_neg h]
      exact ⟨fun _ _ => rfl, fun j a b => by omega, fun _ _ => rfl, rfl, rfl⟩
