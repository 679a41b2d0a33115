/-! a command, as the class and as the model read it -/
def mRel (r : Bool × Cur) (q : Nat × Bool) (k : Nat) (vs : Nat → Nat) : Prop := r.2.1 = q.1 ∧ r.1 = q.2 ∧ (r.1 = true → r.2.2.1 = k ∧ ∀ j, j < k → r.2.2.2 j = vs j)
theorem mRel_sign {x : Nat → Nat} {ℓ s : Nat} {u : Cur} {vs : Nat → Nat} (h : tHere x ℓ u.1 = some s) : mRel (tSign x ℓ s (u.1, 0, u.2.2)) (u.1 + 1, true) 0 vs := by
  unfold tSign
  rw [if_pos h]
  exact ⟨rfl, rfl, fun _ => ⟨rfl, fun j hj => absurd hj (Nat.not_lt_zero j)⟩⟩
theorem mDg_f {x : Nat → Nat} {ℓ lo hi p : Nat} : mDg x ℓ lo hi p false = (p, false, lo) := by
  unfold mDg
  cases tDig x ℓ p lo hi <;> rfl
theorem mTw_f {x : Nat → Nat} {ℓ most p : Nat} : (mTw x ℓ most p false).1 = p ∧ (mTw x ℓ most p false).2.1 = false := by
  unfold mTw
  simp only [mDg_f]
  exact ⟨trivial, trivial⟩
theorem mLt_f {x : Nat → Nat} {ℓ p : Nat} : (mLt x ℓ p false).1 = p ∧ (mLt x ℓ p false).2.1 = false := by
  unfold mLt
  rw [mLs_f]
  exact ⟨rfl, rfl⟩
theorem mRel_tell {u : Cur} {k v : Nat} {vs : Nat → Nat} (hk : k < 4) (h1 : u.2.1 = k) (h2 : ∀ j, j < k → u.2.2 j = vs j) : mRel (tTell u v) (u.1, true) (k + 1) (fun j => if j = k then v else vs j) := by
  unfold tTell
  rw [if_pos (by omega)]
  refine ⟨rfl, rfl, fun _ => ⟨by show u.2.1 + 1 = k + 1; omega, fun j hj => ?_⟩⟩
  show (if j = u.2.1 then v else u.2.2 j) = if j = k then v else vs j
  rw [h1]
  by_cases e : j = k
  · rw [if_pos e, if_pos e]
  · rw [if_neg e, if_neg e]; exact h2 j (by omega)
theorem mRel_digit {x : Nat → Nat} {ℓ lo hi p k : Nat} {g : Bool} {r : Bool × Cur} {vs : Nat → Nat} (h : mRel r (p, g) k vs) (hk : k < 4) : mRel (tAnd r (tDigit x ℓ lo hi)) ((mDg x ℓ lo hi p g).1, (mDg x ℓ lo hi p g).2.1) (k + 1) (fun j => if j = k then (mDg x ℓ lo hi p g).2.2 else vs j) := by
  obtain ⟨h1, h2, h3⟩ := h
  simp only at h1 h2
  subst h1
  cases g with
  | false =>
    rw [tAnd_f h2, mDg_f]
    exact ⟨rfl, rfl, fun z => by cases z⟩
  | true =>
    obtain ⟨a1, a2⟩ := h3 h2
    rw [tAnd_t h2]
    cases hd : tDig x ℓ r.2.1 lo hi with
    | none =>
      rw [tDigit_n hd]
      have e : mDg x ℓ lo hi r.2.1 true = (r.2.1, false, lo) := by unfold mDg; rw [hd]
      rw [e]
      exact ⟨rfl, rfl, fun z => by cases z⟩
    | some d =>
      rw [tDigit_y hd]
      have e : mDg x ℓ lo hi r.2.1 true = (r.2.1 + 1, true, d) := by unfold mDg; rw [hd]; rfl
      rw [e]
      have := mRel_tell (u := tGo r.2 1) (v := d) hk a1 a2
      exact this
theorem mTw_y {x : Nat → Nat} {ℓ most p t d : Nat} (ht : tDig x ℓ p 0 (most / 10) = some t) (hd : tDig x ℓ (p + 1) 0 (if t = most / 10 then most % 10 else 9) = some d) : mTw x ℓ most p true = (p + 2, true, 10 * t + d) := by
  have e : mDg x ℓ 0 (most / 10) p true = (p + 1, true, t) := by unfold mDg; rw [ht]; rfl
  unfold mTw
  simp only [e]
  have e2 : mDg x ℓ 0 (if t = most / 10 then most % 10 else 9) (p + 1) true = (p + 1 + 1, true, d) := by unfold mDg; rw [hd]; rfl
  simp only [e2]
theorem mTw_m {x : Nat → Nat} {ℓ most p t : Nat} (ht : tDig x ℓ p 0 (most / 10) = some t) (hd : tDig x ℓ (p + 1) 0 (if t = most / 10 then most % 10 else 9) = none) : (mTw x ℓ most p true).1 = p + 1 ∧ (mTw x ℓ most p true).2.1 = false := by
  have e : mDg x ℓ 0 (most / 10) p true = (p + 1, true, t) := by unfold mDg; rw [ht]; rfl
  unfold mTw
  simp only [e]
  have e2 : mDg x ℓ 0 (if t = most / 10 then most % 10 else 9) (p + 1) true = (p + 1, false, 0) := by unfold mDg; rw [hd]
  simp only [e2]
  exact ⟨trivial, trivial⟩
theorem mTw_n {x : Nat → Nat} {ℓ most p : Nat} (ht : tDig x ℓ p 0 (most / 10) = none) : (mTw x ℓ most p true).1 = p ∧ (mTw x ℓ most p true).2.1 = false := by
  have e : mDg x ℓ 0 (most / 10) p true = (p, false, 0) := by unfold mDg; rw [ht]
  unfold mTw
  simp only [e, mDg_f]
  exact ⟨trivial, trivial⟩
theorem mRel_two {x : Nat → Nat} {ℓ most p k : Nat} {g : Bool} {r : Bool × Cur} {vs : Nat → Nat} (h : mRel r (p, g) k vs) (hk : k < 4) : mRel (tAnd r (tPair x ℓ most)) ((mTw x ℓ most p g).1, (mTw x ℓ most p g).2.1) (k + 1) (fun j => if j = k then (mTw x ℓ most p g).2.2 else vs j) := by
  obtain ⟨h1, h2, h3⟩ := h
  simp only at h1 h2
  subst h1
  cases g with
  | false =>
    rw [tAnd_f h2, mTw_f.1, mTw_f.2]
    exact ⟨rfl, rfl, fun z => by cases z⟩
  | true =>
    obtain ⟨a1, a2⟩ := h3 h2
    rw [tAnd_t h2]
    cases ht : tDig x ℓ r.2.1 0 (most / 10) with
    | none =>
      rw [tPair_n ht, (mTw_n ht).1, (mTw_n ht).2]
      exact ⟨rfl, rfl, fun z => by cases z⟩
    | some t =>
      cases hd : tDig x ℓ (r.2.1 + 1) 0 (if t = most / 10 then most % 10 else 9) with
      | none =>
        rw [tPair_m ht hd, (mTw_m ht hd).1, (mTw_m ht hd).2]
        exact ⟨rfl, rfl, fun z => by cases z⟩
      | some d =>
        rw [tPair_y ht hd, mTw_y ht hd]
        have := mRel_tell (u := tGo r.2 2) (v := 10 * t + d) hk a1 a2
        exact this
theorem mRel_letters {x : Nat → Nat} {ℓ p k : Nat} {g : Bool} {r : Bool × Cur} {vs : Nat → Nat} (h : mRel r (p, g) k vs) (hk : k ≤ 2) : mRel (tAnd r (tLetters x ℓ)) ((mLt x ℓ p g).1, (mLt x ℓ p g).2.1) (k + 2) (fun j => if j = k + 1 then (mLt x ℓ p g).2.2.2 else if j = k then (mLt x ℓ p g).2.2.1 else vs j) := by
  obtain ⟨h1, h2, h3⟩ := h
  simp only at h1 h2
  subst h1
  cases g with
  | false =>
    rw [tAnd_f h2, mLt_f.1, mLt_f.2]
    exact ⟨rfl, rfl, fun z => by cases z⟩
  | true =>
    obtain ⟨a1, a2⟩ := h3 h2
    rw [tAnd_t h2]
    by_cases hm : tLm x ℓ r.2.1 = 0
    · rw [(mLt_0 hm).1, (mLt_0 hm).2]
      unfold tLetters
      rw [if_pos hm]
      exact ⟨rfl, rfl, fun z => by cases z⟩
    · rw [tLetters_at (by omega) hm]
      unfold tSign
      by_cases hd : tHere x ℓ (r.2.1 + tLm x ℓ r.2.1) = some 46
      · rw [if_pos hd, mLt_y hm hd]
        refine ⟨rfl, rfl, fun _ => ⟨by show r.2.2.1 + 2 = k + 2; omega, fun j hj => ?_⟩⟩
        show (if j = r.2.2.1 + 1 then tLc x r.2.1 (tLm x ℓ r.2.1) else if j = r.2.2.1 then tLm x ℓ r.2.1 else r.2.2.2 j) = if j = k + 1 then tLc x r.2.1 (tLm x ℓ r.2.1) else if j = k then tLm x ℓ r.2.1 else vs j
        rw [a1]
        by_cases e1 : j = k + 1
        · rw [if_pos e1, if_pos e1]
        · rw [if_neg e1, if_neg e1]
          by_cases e2 : j = k
          · rw [if_pos e2, if_pos e2]
          · rw [if_neg e2, if_neg e2]; exact a2 j (by omega)
      · rw [if_neg hd, (mLt_n hm hd).1, (mLt_n hm hd).2]
        exact ⟨rfl, rfl, fun z => by cases z⟩
theorem tLc_26 {x : Nat → Nat} {ℓ p : Nat} : ∀ {i : Nat}, (∀ j, j < i → tAZ x ℓ (p + j) = true) → tLc x p i < 26 ^ i
  | 0, _ => Nat.lt_succ_self 0
  | i + 1, h => by
    have h1 := tLc_26 (x := x) (ℓ := ℓ) (p := p) (i := i) (fun j hj => h j (by omega))
    have h2 := h i (by omega)
    unfold tAZ at h2
    cases hh : tHere x ℓ (p + i) with
    | none => rw [hh] at h2; cases h2
    | some s =>
      rw [hh] at h2
      have h3 := of_decide_eq_true h2
      have h4 := (tHere_lt hh).2
      rw [tLc, Nat.pow_succ]
      omega
theorem mLt_code {x : Nat → Nat} {ℓ p : Nat} (h : (mLt x ℓ p true).2.1 = true) : sCode (mLt x ℓ p true).2.2.1 (mLt x ℓ p true).2.2.2 = true ∧ (mLt x ℓ p true).2.2.1 ≤ 4 ∧ (mLt x ℓ p true).2.2.2 < 456976 := by
  by_cases hm : tLm x ℓ p = 0
  · rw [(mLt_0 hm).2] at h; cases h
  · by_cases hd : tHere x ℓ (p + tLm x ℓ p) = some 46
    · rw [mLt_y hm hd]
      have h4 := tLm_le x ℓ p
      have h5 := tLc_26 (x := x) (ℓ := ℓ) (p := p) (i := tLm x ℓ p) tLm_all
      have h6 : 26 ^ tLm x ℓ p ≤ 26 ^ 4 := Nat.pow_le_pow_right (by decide) h4
      have h7 : (26 : Nat) ^ 4 = 456976 := by decide
      exact ⟨decide_eq_true ⟨by show 1 ≤ tLm x ℓ p; omega, h4, h5⟩, h4, by show tLc x p (tLm x ℓ p) < _; omega⟩
    · rw [(mLt_n hm hd).2] at h; cases h

