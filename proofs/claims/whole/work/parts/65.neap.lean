/-! DAYS OF A NEAP: both sides agree -/
def rN (u : gS) : Prop := (∀ d, d < 16 → tb (u.1 18) d = decide (u.2.1 49 d = 1)) ∧ (∀ s, s < 10 → (u.2.1 25 s = 1 ↔ 0 < u.2.1 51 s)) ∧ ∀ s, s < 10 → u.2.1 26 s = u.2.1 50 s ∧ u.2.1 27 s = u.2.1 51 s ∧ u.2.1 28 s = u.2.1 52 s
theorem rN.can {u : gS} (h : rN u) : ∀ s e, s < 10 → e < 16 → cCan u s e = mCan u s e := fun s e hs he => by
  unfold cCan mCan
  rw [h.1 e he, (h.2.2 s hs).2.2, Bool.and_comm]
theorem rN.gone {u : gS} (h : rN u) (p : Int) : ∀ s, s < 10 → cGone u p 0 s = mGone0 u p s := fun s hs => by
  unfold cGone mGone0
  rw [tb_0, (h.2.2 s hs).1, show decide (u.2.1 25 s = 1) = decide (0 < u.2.1 51 s) from decide_eq_decide.mpr (h.2.1 s hs)]
  simp
theorem rN.most {u : gS} (h : rN u) (p : Int) : cMost u 0 p 0 = mMost0 u p 0 := by
  unfold cMost mMost0
  rw [mx_congr (can := cCan u) (can' := mCan u) (gone := cGone u p 0) (gone' := mGone0 u p) (n := 16 - (0 : Int).toNat) (d := (0 : Int).toNat) (fun s e hs he => h.can s e hs (by have := he.2; omega)) (h.gone p)]
theorem rN.done {u : gS} (h : rN u) : cDone u = mDone u := by
  have : ∀ k, cDoneL u k = mDoneL u k := fun k => by
    induction k with
    | zero => rfl
    | succ k ih =>
      show cDoneL u k + cMost u 0 (k : Int) 0 = mDoneL u k + mMost0 u (k : Int) 0
      rw [ih, h.most]
  exact this 4
theorem pkL_sl {ok : Nat → Bool} {sl sl' : Nat → Int} (h : ∀ j, j < 10 → sl j = sl' j) : ∀ (n s : Nat) (who : Int), who ≤ 9 → s + n = 10 → pkL ok sl n s who = pkL ok sl' n s who
  | 0, _, _, _, _ => rfl
  | n + 1, s, who, hw, hs => by
    unfold pkL
    rw [h s (by omega)]
    by_cases q : who < 0
    · by_cases o : ok s = true
      · rw [if_pos ⟨o, Or.inl q⟩, if_pos ⟨o, Or.inl q⟩]
        exact pkL_sl h n (s + 1) _ (by omega) (by omega)
      · rw [if_neg (fun z => o z.1), if_neg (fun z => o z.1)]
        exact pkL_sl h n (s + 1) _ hw (by omega)
    · rw [h who.toNat (by omega)]
      refine pkL_sl h n (s + 1) _ ?_ (by omega)
      split <;> omega
theorem wgL_sl {can : Nat → Nat → Bool} {sl sl' : Nat → Int} (h : ∀ j, j < 10 → sl j = sl' j) : ∀ (n d : Nat) (gone : Nat → Bool) (who : Int), wgL can sl n d gone who = wgL can sl' n d gone who
  | 0, _, _, _ => rfl
  | n + 1, d, gone, who => by
    have e : pkv can sl d gone = pkv can sl' d gone := pkL_sl h 10 0 (-1) (by decide) rfl
    unfold wgL
    rw [e]
    exact wgL_sl h n _ _ _
theorem rN.who {u : gS} (h : rN u) {d p : Int} (h1 : 0 ≤ d) (h2 : d ≤ 15) : cWho u d p = mWho u d p := by
  unfold cWho mWho
  rw [wgL_sl (sl := u.2.1 27) (sl' := u.2.1 51) (fun j hj => (h.2.2 j hj).2.1)]
  exact wg_congr h.can (d.toNat + 1) 0 _ _ (-1) (by omega) (h.gone p)
theorem rN.goes {u : gS} (h : rN u) (d p : Int) : cGoes u d p = mGoes u d p := by
  unfold cGoes mGoes
  by_cases q : (0 ≤ d ∧ d ≤ 15) ∧ (0 ≤ p ∧ p ≤ 3)
  · rw [if_pos q, if_pos q, h.who q.1.1 q.1.2]
    have b := wgL_bnd (mCan u) (u.2.1 51) (d.toNat + 1) 0 (mGone0 u p) (-1) (by decide) (by decide)
    have b : -1 ≤ mWho u d p ∧ mWho u d p ≤ 9 := b
    by_cases z : mWho u d p = -1
    · rw [if_pos z, if_pos (by omega)]
    · rw [if_neg z, if_neg (by omega)]
  · rw [if_neg q, if_neg q]
