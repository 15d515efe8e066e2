/-! THE LATEST SWIM and the ships near it: both sides agree -/
def rLat (u : gS) : Prop := (u.1 24 = -1 ∧ u.1 6 = 0) ∨ ((0 ≤ u.1 24 ∧ u.1 24 ≤ 9) ∧ u.1 5 = u.1 24 ∧ (1 ≤ u.1 6 ∧ u.1 6 ≤ 100) ∧ u.2.1 40 0 = u.1 6 ∧ u.2.1 41 0 = u.1 7 ∧ ∀ j : Nat, (j : Int) ≤ u.1 6 → u.2.1 13 j = u.2.1 38 j ∧ u.2.1 14 j = u.2.1 39 j)
theorem spNr_congr {X X' Y Y' : Nat → Int} {q x y e n nr : Int} (h : ∀ j : Nat, (j : Int) ≤ q → X j = X' j ∧ Y j = Y' j) : ∀ (k : Nat) (t : Int), 0 ≤ t → spNr X Y q x y e n nr k t = spNr X' Y' q x y e n nr k t
  | 0, _, _ => rfl
  | k + 1, t, ht => by
    unfold spNr
    by_cases hq : t < q
    · have h1 := h (t + 1).toNat (by omega)
      rw [if_pos hq, if_pos hq, h1.1, h1.2, spNr_congr h k (t + 1) (by omega)]
    · rw [if_neg hq, if_neg hq]
theorem bOr_0 {b : Int} (h1 : -2147483648 ≤ b) (h2 : b < 2147483648) : bOr b 0 = b := tb_ext (bOr_bnd b 0) ⟨h1, h2⟩ (fun d hd => by rw [tb_or, tb_0, Bool.or_false])
theorem nr_eq {u : gS} (hl : rLat u) (h6 : u.1 6 ≠ 0) (h2 : u.1 2 = u.1 22) (k : Int) : cNr u (u.2.1 42) (u.2.1 43) (u.2.1 44) (u.2.1 45) k = mNr u k := by
  rcases hl with ⟨_, h⟩ | ⟨_, _, _, h40, _, hp⟩
  · exact absurd h h6
  · unfold cNr mNr
    rw [h40, h2]
    exact spNr_congr hp 101 0 (by decide)
theorem near_eq {u : gS} (hl : rLat u) (h2 : u.1 2 = u.1 22) (h3 : u.1 3 = u.1 25) (k : Int) : cNear u (u.2.1 42) (u.2.1 43) (u.2.1 44) (u.2.1 45) k = mNear u k := by
  unfold cNear mNear
  rw [h3]
  by_cases hk : 0 ≤ k ∧ k ≤ u.1 25 - 1
  · rw [if_pos hk, if_pos hk]
    by_cases h6 : u.1 6 ≤ 0
    · rw [if_pos h6, if_pos (by rcases hl with h | h <;> omega)]
    · rw [if_neg h6, if_neg (by rcases hl with h | h <;> omega), nr_eq hl (by omega) h2]
  · rw [if_neg hk, if_neg hk]
theorem lanL_eq {u : gS} (hl : rLat u) (h6 : u.1 6 ≠ 0) (h2 : u.1 2 = u.1 22) (h3 : u.1 3 = u.1 25) : ∀ (n : Nat) (k b : Int), -2147483648 ≤ b ∧ b < 2147483648 → cLanL u (u.2.1 42) (u.2.1 43) (u.2.1 44) (u.2.1 45) n k b = mLanL u n k b
  | 0, _, _, _ => rfl
  | n + 1, k, b, hb => by
    unfold cLanL mLanL
    rw [h3]
    by_cases hk : k < u.1 25
    · rw [if_pos hk, if_pos hk, nr_eq hl h6 h2, bOr_0 hb.1 hb.2]
      by_cases hn : mNr u k = -4
      · rw [if_pos hn, if_pos hn]
        exact lanL_eq hl h6 h2 h3 n (k + 1) b hb
      · rw [if_neg hn, if_neg hn]
        exact lanL_eq hl h6 h2 h3 n (k + 1) _ (bOr_bnd _ _)
    · rw [if_neg hk, if_neg hk]
theorem lanes_eq {u : gS} (hl : rLat u) (h2 : u.1 2 = u.1 22) (h3 : u.1 3 = u.1 25) : cLanes u (u.2.1 42) (u.2.1 43) (u.2.1 44) (u.2.1 45) = mLanes u := by
  unfold cLanes mLanes
  by_cases h6 : u.1 6 ≤ 0
  · rw [if_pos h6, if_pos (by rcases hl with h | h <;> omega)]
  · rw [if_neg h6, if_neg (by rcases hl with h | h <;> omega)]
    exact lanL_eq hl (by omega) h2 h3 9 0 0 ⟨by decide, by decide⟩
theorem ended_eq {u : gS} (hl : rLat u) (w : Int) : cEnded u w = mEnded u w := by
  unfold cEnded mEnded
  by_cases hw : 0 ≤ w ∧ w ≤ 4
  · rw [if_pos hw, if_pos hw]
    rcases hl with ⟨a, b⟩ | ⟨a, a5, b, h40, h41, hp⟩
    · rw [if_pos (by omega), if_pos a]
    · have hq := hp (u.1 6).toNat (by omega)
      rw [if_neg (show ¬ u.1 6 ≤ 0 by omega), if_neg (show ¬ u.1 24 = -1 by omega), h40, h41, hq.1, hq.2, a5]
  · rw [if_neg hw, if_neg hw]
theorem where_eq {u : gS} (hl : rLat u) (t : Int) : cWhere u t = mWhere u t := by
  unfold cWhere mWhere
  by_cases ht : 0 ≤ t ∧ t ≤ 100
  · rw [if_pos ht, if_pos ht]
    rcases hl with ⟨a, b⟩ | ⟨a, _, b, h40, _, hp⟩
    · rw [if_pos (Or.inl (by omega)), if_pos (Or.inl a)]
    · rw [h40]
      by_cases hq : u.1 6 < t
      · rw [if_pos (Or.inr hq), if_pos (Or.inr hq)]
      · have := hp t.toNat (by omega)
        rw [if_neg (by omega), if_neg (by omega), this.1, this.2]
  · rw [if_neg ht, if_neg ht]
