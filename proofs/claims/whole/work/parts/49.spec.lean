theorem mNone_f : ∀ (n : Nat) (i : Int) (w : gS), 0 ≤ i → 10 - i < n → (∀ j : Nat, (j : Int) < i → w.2.1 54 j = 0) → ∃ f : Nat → Int, mNone n i w = sF w 54 f ∧ ∀ j, j < 10 → f j = 0
  | 0, i, w, h1, h2, h3 => ⟨w.2.1 54, by
      show w = sF w 54 (w.2.1 54)
      simp only [sF]
      rw [up_self], fun j hj => h3 j (by omega)⟩
  | n + 1, i, w, h1, h2, h3 => by
    by_cases h : i < 10
    · obtain ⟨f, e, hf⟩ := mNone_f n (i + 1) (sF w 54 (va_up (w.2.1 54) i.toNat 0)) (by omega) (by omega) (fun j hj => by
        show va_up w.2.1 54 (va_up (w.2.1 54) i.toNat 0) 54 j = 0
        rw [up_s]
        by_cases k : j = i.toNat
        · rw [k, up_s]
        · rw [up_n _ _ k]
          exact h3 j (by omega))
      refine ⟨f, ?_, hf⟩
      unfold mNone
      rw [if_pos h, e]
      simp only [sF, up_up]
    · refine ⟨w.2.1 54, ?_, fun j hj => h3 j (by omega)⟩
      unfold mNone
      rw [if_neg h]
      simp only [sF]
      rw [up_self]
theorem mxB_congr {ok ok' : Nat → Bool} {f f' : Nat → Nat} : ∀ {k b : Nat}, (∀ s, s < k → ok s = ok' s) → (∀ s, s < k → f s = f' s) → mxB ok f k b = mxB ok' f' k b
  | 0, b, _, _ => rfl
  | k + 1, b, h1, h2 => by
    unfold mxB
    rw [h1 k (Nat.lt_succ_self k), h2 k (Nat.lt_succ_self k)]
    exact mxB_congr (fun s hs => h1 s (by omega)) (fun s hs => h2 s (by omega))
theorem mx_congr {can can' : Nat → Nat → Bool} : ∀ {n d : Nat} {gone gone' : Nat → Bool}, (∀ s e, s < 10 → mtIn d n e → can s e = can' s e) → (∀ s, s < 10 → gone s = gone' s) → mx can n d gone = mx can' n d gone'
  | 0, _, _, _, _, _ => rfl
  | n + 1, d, gone, gone', h1, h2 => by
    have hs : ∀ s e, s < 10 → mtIn (d + 1) n e → can s e = can' s e := fun s e a b => h1 s e a ⟨by have := b.1; omega, by have := b.2; omega⟩
    unfold mx
    rw [mx_congr (n := n) (d := d + 1) hs h2]
    refine mxB_congr (fun s hs2 => ?_) (fun s hs2 => mx_congr hs (fun j hj => ?_))
    · rw [h1 s d hs2 ⟨Nat.le_refl d, by omega⟩, h2 s hs2]
    · unfold upB
      split
      · rfl
      · exact h2 j hj
def mGone0 (u : gS) (p : Int) : Nat → Bool := fun s => !(decide (0 < u.2.1 51 s) && decide (u.2.1 50 s = p))
def mMost0 (u : gS) (p d : Int) : Int := (mx (mCan u) (16 - d.toNat) d.toNat (mGone0 u p) : Nat)
theorem mMost_0 (u : gS) (p d : Int) {H A B C f : Nat → Int} (hf : ∀ j, j < 10 → f j = 0) : mMost (mNp (sF u 54 f) H A B C) p d = mMost0 u p d := by
  unfold mMost mMost0
  rw [mx_congr (can := mCan (mNp (sF u 54 f) H A B C)) (can' := mCan u) (gone' := mGone0 u p) (fun s e _ _ => rfl) (fun s hs => ?_)]
  show (!(decide (f s = 0) && decide (0 < u.2.1 51 s) && decide (u.2.1 50 s = p))) = _
  rw [hf s hs]
  rfl
def mDoneL (u : gS) : Nat → Int
  | 0 => 0
  | k + 1 => mDoneL u k + mMost0 u (k : Int) 0
def mDone (u : gS) : Int := mDoneL u 4
theorem mMost_bnd (u : gS) {p d : Int} (h1 : 0 ≤ d) (h2 : d ≤ 16) : 0 ≤ mMost u p d ∧ mMost u p d ≤ 16 := by
  unfold mMost
  have := mx_le10 (mCan u) (16 - d.toNat) d.toNat (mGone u p)
  omega
theorem pk_end {ok : Nat → Bool} {sl : Nat → Int} : ∀ {n s : Nat} {who : Int}, (∀ j, s ≤ j → j < s + n → ok j = false) → pkL ok sl n s who = who
  | 0, _, _, _ => rfl
  | n + 1, s, who, h => by
    unfold pkL
    rw [if_neg (fun q => by rw [h s (Nat.le_refl s) (by omega)] at q; exact absurd q.1 (by decide))]
    exact pk_end (fun j h1 h2 => h j (by omega) (by omega))
theorem pk_pos {ok : Nat → Bool} {sl : Nat → Int} : ∀ {n s : Nat} {who : Int}, 0 ≤ who → 0 ≤ pkL ok sl n s who
  | 0, _, _, h => h
  | n + 1, s, who, h => by
    unfold pkL
    refine pk_pos ?_
    split <;> omega
theorem pk_m2 {ok : Nat → Bool} {sl : Nat → Int} : ∀ (n s : Nat), pkL ok sl n s (-2) = if pkL ok sl n s (-1) < 0 then -2 else pkL ok sl n s (-1)
  | 0, _ => rfl
  | n + 1, s => by
    have e : ∀ x : Int, pkL ok sl (n + 1) s x = pkL ok sl n (s + 1) (if ok s = true ∧ (x < 0 ∨ sl s < sl x.toNat) then (s : Int) else x) := fun _ => rfl
    by_cases h : ok s = true
    · have e2 : pkL ok sl (n + 1) s (-2) = pkL ok sl n (s + 1) (s : Int) := by rw [e, if_pos ⟨h, Or.inl (by decide)⟩]
      have e1 : pkL ok sl (n + 1) s (-1) = pkL ok sl n (s + 1) (s : Int) := by rw [e, if_pos ⟨h, Or.inl (by decide)⟩]
      rw [e2, e1, if_neg (Int.not_lt.mpr (pk_pos (Int.natCast_nonneg s)))]
    · have e2 : pkL ok sl (n + 1) s (-2) = pkL ok sl n (s + 1) (-2) := by rw [e, if_neg (fun q => h q.1)]
      have e1 : pkL ok sl (n + 1) s (-1) = pkL ok sl n (s + 1) (-1) := by rw [e, if_neg (fun q => h q.1)]
      rw [e2, e1]
      exact pk_m2 n (s + 1)
theorem pk_ok {ok : Nat → Bool} {sl : Nat → Int} : ∀ {n s : Nat} {who : Int}, (0 ≤ who → ok who.toNat = true) → 0 ≤ pkL ok sl n s who → ok (pkL ok sl n s who).toNat = true
  | 0, _, _, h, h0 => h h0
  | n + 1, s, who, h, h0 => by
    unfold pkL at h0 ⊢
    refine pk_ok (fun q => ?_) h0
    by_cases k : ok s = true ∧ (who < 0 ∨ sl s < sl who.toNat)
    · rw [if_pos k]
      exact k.1
    · rw [if_neg k] at q ⊢
      exact h q
theorem pk_none {ok : Nat → Bool} {sl : Nat → Int} : ∀ {n s : Nat} {who : Int}, pkL ok sl n s who < 0 → ∀ j, s ≤ j → j < s + n → ok j = false
  | 0, s, who, h, j, h1, h2 => by omega
  | n + 1, s, who, h, j, h1, h2 => by
    unfold pkL at h
    by_cases k : ok s = true ∧ (who < 0 ∨ sl s < sl who.toNat)
    · rw [if_pos k] at h
      have := pk_pos (ok := ok) (sl := sl) (n := n) (s := s + 1) (who := (s : Int)) (by omega)
      omega
    · rw [if_neg k] at h
      by_cases e : j = s
      · subst e
        have hw : who < 0 := Int.not_le.mp (fun q => by
          have := pk_pos (ok := ok) (sl := sl) (n := n) (s := j + 1) q
          omega)
        exact Bool.eq_false_iff.mpr (fun q => k ⟨q, Or.inl hw⟩)
      · exact pk_none h j (by omega) (by omega)
/-- none is chosen on day d: the most doesn't fall -/
theorem mx_stay {can : Nat → Nat → Bool} {sl : Nat → Int} {d : Nat} {gone : Nat → Bool} {who : Int} (hd : d ≤ 15) (h : pkL (okD can d gone) sl 10 0 who < 0) : mx can (15 - d) (d + 1) gone = mx can (16 - d) d gone := by
  have e : 16 - d = (15 - d) + 1 := by omega
  rcases mxB_or (fun s => can s d && !gone s) (fun s => mx can (15 - d) (d + 1) (upB gone s)) 10 (mx can (15 - d) (d + 1) gone) with q | ⟨s, h1, h2, h3⟩
  · rw [e]
    exact q.symm
  · have := pk_none h s (Nat.zero_le s) (by omega)
    have h4 : okD can d gone s = true := okD_iff.mpr ⟨by
      simp only [Bool.and_eq_true, Bool.not_eq_true'] at h2
      exact ⟨h2.2, h2.1⟩, by
      rw [e]
      exact h3.symm⟩
    rw [this] at h4
    exact absurd h4 (by decide)
theorem mGone_up (u : gS) (p : Int) {s : Nat} {H A B C F : Nat → Int} : mGone (mNp (sF u 54 (va_up F s 1)) H A B C) p = upB (mGone (mNp (sF u 54 F) H A B C) p) s := by
  funext j
  unfold upB
  by_cases h : j = s
  · rw [if_pos h]
    show (!(decide (va_up F s 1 j = 0) && _ && _)) = true
    rw [h, up_s]
    rfl
  · rw [if_neg h]
    show (!(decide (va_up F s 1 j = 0) && _ && _)) = (!(decide (F j = 0) && _ && _))
    rw [up_n _ _ h]
    rfl
theorem mNp_54 (u : gS) (H A B C F : Nat → Int) : sF (mNp u H A B C) 54 F = mNp (sF u 54 F) H A B C := by
  unfold mNp
  simp only [sF]
  refine Prod.ext rfl (Prod.ext ?_ rfl)
  funext j
  simp only [va_up]
  by_cases h : j = 54 <;> simp [h]
theorem fix_back {u : gS} {k : Nat} {H A B C : Nat → Int} (h : u.2.1 54 k = 0) : sF (mNp (sF u 54 (va_up (u.2.1 54) k 1)) H A B C) 54 (va_up ((mNp (sF u 54 (va_up (u.2.1 54) k 1)) H A B C).2.1 54) k 0) = mNp u H A B C := by
  have e : va_up ((mNp (sF u 54 (va_up (u.2.1 54) k 1)) H A B C).2.1 54) k 0 = u.2.1 54 := by
    show va_up (va_up (u.2.1 54) k 1) k 0 = u.2.1 54
    rw [up_up]
    funext j
    by_cases q : j = k
    · rw [q, up_s, h]
    · rw [up_n _ _ q]
  rw [e, mNp_54]
  simp only [sF, up_up, up_self]
def mGoesOn (u : gS) (d p : Int) : Int := pkL (okD (mCan u) d.toNat (mGone u p)) (u.2.1 51) 10 0 (-2)
def mWho (u : gS) (d p : Int) : Int := wgL (mCan u) (u.2.1 51) (d.toNat + 1) 0 (mGone0 u p) (-1)
def mGoes (u : gS) (d p : Int) : Int := if (0 ≤ d ∧ d ≤ 15) ∧ (0 ≤ p ∧ p ≤ 3) then (if mWho u d p < 0 then -2 else mWho u d p) else -1
theorem pkL_bnd2 (ok : Nat → Bool) (sl : Nat → Int) : ∀ n s who, -2 ≤ who → who ≤ 9 → s + n = 10 → -2 ≤ pkL ok sl n s who ∧ pkL ok sl n s who ≤ 9
  | 0, s, who, h1, h2, _ => ⟨h1, h2⟩
  | n + 1, s, who, h1, h2, h3 => by
    unfold pkL
    refine pkL_bnd2 ok sl n (s + 1) _ ?_ ?_ (by omega)
    · split <;> omega
    · split <;> omega
theorem pkv_congr {can can' : Nat → Nat → Bool} {sl : Nat → Int} {d : Nat} {gone gone' : Nat → Bool} (hd : d ≤ 15) (h1 : ∀ s e, s < 10 → e < 16 → can s e = can' s e) (h2 : ∀ s, s < 10 → gone s = gone' s) : ∀ n s who, s + n = 10 → pkL (okD can d gone) sl n s who = pkL (okD can' d gone') sl n s who
  | 0, _, _, _ => rfl
  | n + 1, s, who, h => by
    have e : okD can d gone s = okD can' d gone' s := by
      unfold okD
      rw [h1 s d (by omega) (by omega), h2 s (by omega), mx_congr (can := can) (can' := can') (gone := gone) (gone' := gone') (n := 16 - d) (d := d) (fun s e a b => h1 s e a (by have := b.2; omega)) h2, mx_congr (can := can) (can' := can') (gone := upB gone s) (gone' := upB gone' s) (n := 15 - d) (d := d + 1) (fun s e a b => h1 s e a (by have := b.2; omega)) (fun j hj => by
        unfold upB
        split
        · rfl
        · exact h2 j hj)]
    unfold pkL
    rw [e]
    exact pkv_congr hd h1 h2 n (s + 1) _ (by omega)
theorem wg_congr {can can' : Nat → Nat → Bool} {sl : Nat → Int} (h1 : ∀ s e, s < 10 → e < 16 → can s e = can' s e) : ∀ (n d : Nat) (gone gone' : Nat → Bool) (who : Int), d + n ≤ 16 → (∀ s, s < 10 → gone s = gone' s) → wgL can sl n d gone who = wgL can' sl n d gone' who
  | 0, _, _, _, _, _, _ => rfl
  | n + 1, d, gone, gone', who, h, h2 => by
    have e : pkv can sl d gone = pkv can' sl d gone' := pkv_congr (by omega) h1 h2 10 0 (-1) rfl
    unfold wgL
    rw [e]
    refine wg_congr h1 n (d + 1) _ _ _ (by omega) (fun s hs => ?_)
    split
    · unfold upB
      split
      · rfl
      · exact h2 s hs
    · exact h2 s hs
