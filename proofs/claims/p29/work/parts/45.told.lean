/-! THE TEXT THAT IS TOLD: its commands, one behind another, are read without an error -/
def dig (x : Nat → Nat) (p lo hi : Nat) : Prop := 48 + lo ≤ x p ∧ x p ≤ 48 + hi
def tSh (x : Nat → Nat) (p e : Nat) : Prop :=
  (x p = 112 ∧ dig x (p + 1) 0 9 ∧ dig x (p + 2) 0 9 ∧ dig x (p + 3) 0 5 ∧ dig x (p + 4) 0 3 ∧ e = p + 5) ∨
  (x p = 103 ∧ x (p + 1) = 48 ∧ dig x (p + 2) 0 9 ∧ x (p + 3) = 48 ∧ dig x (p + 4) 0 9 ∧ (65 ≤ x (p + 5) ∧ x (p + 5) ≤ 90) ∧ x (p + 6) = 46 ∧ e = p + 7) ∨
  (x p = 99 ∧ dig x (p + 1) 0 3 ∧ (65 ≤ x (p + 2) ∧ x (p + 2) ≤ 90) ∧ x (p + 3) = 46 ∧ e = p + 4) ∨
  (x p = 121 ∧ dig x (p + 1) 1 9 ∧ e = p + 2) ∨
  (x p = 98 ∧ x (p + 1) = 48 ∧ dig x (p + 2) 0 9 ∧ dig x (p + 3) 0 3 ∧ e = p + 4) ∨
  (x p = 115 ∧ dig x (p + 1) 0 2 ∧ dig x (p + 2) 0 9 ∧ e = p + 3)
theorem tSh.lt {x : Nat → Nat} {p e : Nat} (h : tSh x p e) : p < e := by
  unfold tSh at h
  omega
theorem tSh.cong {x y : Nat → Nat} {p e : Nat} (hc : ∀ j, j < e → y j = x j) (h : tSh x p e) : tSh y p e := by
  have hd : ∀ {q lo hi}, q < e → dig x q lo hi → dig y q lo hi := fun hq h => by unfold dig at h ⊢; rw [hc _ hq]; exact h
  rcases h with ⟨a, b, c, d, f, g⟩ | ⟨a, b, c, d, f, g, i, j⟩ | ⟨a, b, c, d, f⟩ | ⟨a, b, c⟩ | ⟨a, b, c, d, f⟩ | ⟨a, b, c, d⟩
  · exact Or.inl ⟨(hc _ (by omega)).trans a, hd (by omega) b, hd (by omega) c, hd (by omega) d, hd (by omega) f, g⟩
  · exact Or.inr (Or.inl ⟨(hc _ (by omega)).trans a, (hc _ (by omega)).trans b, hd (by omega) c, (hc _ (by omega)).trans d, hd (by omega) f, by rw [hc _ (by omega)]; exact g, (hc _ (by omega)).trans i, j⟩)
  · exact Or.inr (Or.inr (Or.inl ⟨(hc _ (by omega)).trans a, hd (by omega) b, by rw [hc _ (by omega)]; exact c, (hc _ (by omega)).trans d, f⟩))
  · exact Or.inr (Or.inr (Or.inr (Or.inl ⟨(hc _ (by omega)).trans a, hd (by omega) b, c⟩)))
  · exact Or.inr (Or.inr (Or.inr (Or.inr (Or.inl ⟨(hc _ (by omega)).trans a, (hc _ (by omega)).trans b, hd (by omega) c, hd (by omega) d, f⟩))))
  · exact Or.inr (Or.inr (Or.inr (Or.inr (Or.inr ⟨(hc _ (by omega)).trans a, hd (by omega) b, hd (by omega) c, d⟩))))
def tOk (r : Bool × Cur) (p t : Nat) : Prop := r.1 = true ∧ r.2.1 = p ∧ r.2.2.1 = t
theorem tAnd_ok {r : Bool × Cur} {f : Cur → Bool × Cur} {p t p' t' : Nat} (h : tOk r p t) (hf : ∀ u : Cur, u.1 = p → u.2.1 = t → tOk (f u) p' t') : tOk (tAnd r f) p' t' := by
  rw [tAnd_t h.1]
  exact hf _ h.2.1 h.2.2
theorem tHere_at {x : Nat → Nat} {ℓ p : Nat} (h : p < ℓ) : tHere x ℓ p = some (x p) := if_pos h
theorem tSign_ok {x : Nat → Nat} {ℓ s p : Nat} {u : Cur} (hu : u.1 = p) (h : p < ℓ) (hs : x p = s) : tOk (tSign x ℓ s u) (p + 1) u.2.1 := by
  unfold tSign
  rw [hu, tHere_at h, hs, if_pos rfl]
  exact ⟨rfl, by rw [← hu]; rfl, rfl⟩
theorem tTell_ok {u : Cur} {v p t : Nat} (hu : u.1 = p) (ht : u.2.1 = t) (h : t < 4) : tOk (tTell u v) p (t + 1) := by
  unfold tTell
  rw [ht, if_pos h]
  exact ⟨rfl, hu, rfl⟩
theorem tDig_at {x : Nat → Nat} {ℓ p lo hi : Nat} (h : p < ℓ) (hd : dig x p lo hi) : tDig x ℓ p lo hi = some (x p - 48) := by
  unfold tDig
  rw [tHere_at h]
  exact if_pos hd
theorem tDigit_ok {x : Nat → Nat} {ℓ lo hi p t : Nat} {u : Cur} (hu : u.1 = p) (ht : u.2.1 = t) (h : p < ℓ) (hd : dig x p lo hi) (h4 : t < 4) : tOk (tDigit x ℓ lo hi u) (p + 1) (t + 1) := by
  unfold tDigit
  rw [hu, tDig_at h hd]
  exact tTell_ok (by rw [← hu]; rfl) ht h4
theorem tPair_ok {x : Nat → Nat} {ℓ p t : Nat} {u : Cur} (hu : u.1 = p) (ht : u.2.1 = t) (h : p + 1 < ℓ) (hd : dig x p 0 9) (hd2 : dig x (p + 1) 0 9) (h4 : t < 4) : tOk (tPair x ℓ 99 u) (p + 2) (t + 1) := by
  unfold tPair
  rw [hu, tDig_at (hi := 99 / 10) (by omega) hd]
  have e : (if x p - 48 = 99 / 10 then 99 % 10 else 9) = 9 := by split <;> rfl
  simp only [e, tDig_at h hd2]
  exact tTell_ok (by rw [← hu]; rfl) ht h4
theorem tPair_ok0 {x : Nat → Nat} {ℓ p t : Nat} {u : Cur} (hu : u.1 = p) (ht : u.2.1 = t) (h : p + 1 < ℓ) (hd : x p = 48) (hd2 : dig x (p + 1) 0 9) (h4 : t < 4) : tOk (tPair x ℓ 11 u) (p + 2) (t + 1) := by
  unfold tPair
  rw [hu, tDig_at (hi := 11 / 10) (by omega) (by unfold dig; omega)]
  have e : (if x p - 48 = 11 / 10 then 11 % 10 else 9) = 9 := if_neg (by omega)
  simp only [e, tDig_at h hd2]
  exact tTell_ok (by rw [← hu]; rfl) ht h4
theorem tLetters_ok {x : Nat → Nat} {ℓ p t : Nat} {u : Cur} (hu : u.1 = p) (ht : u.2.1 = t) (h : p + 1 < ℓ) (hc : 65 ≤ x p ∧ x p ≤ 90) (hs : x (p + 1) = 46) (h4 : t + 1 < 4) : tOk (tLetters x ℓ u) (p + 2) (t + 2) := by
  have hm : tLm x ℓ p = 1 := by
    have e : fst (fun i => !tAZ x ℓ (p + i)) 4 = some 1 := by
      refine fst_of (by decide) ?_ fun j hj => ?_
      · unfold tAZ
        rw [tHere_at h]
        simp [hs]
      · have e : j = 0 := by omega
        subst e
        unfold tAZ
        rw [tHere_at (show p + 0 < ℓ by omega)]
        simp [hc]
    unfold tLm
    rw [e]
  unfold tLetters
  rw [hu, hm, if_neg (by decide)]
  refine tAnd_ok (p := p + 1) (t := t + 2) (tAnd_ok (p := p + 1) (t := t + 1) (tTell_ok (by rw [← hu]; rfl) ht (by omega)) (fun w h1 h2 => tTell_ok h1 h2 (by omega))) (fun w h1 h2 => ?_)
  have := tSign_ok (x := x) (ℓ := ℓ) (s := 46) h1 h hs
  rw [h2] at this
  exact this
theorem tCmd_sh {x : Nat → Nat} {ℓ p e : Nat} (h : tSh x p e) (hℓ : e ≤ ℓ) {u : Cur} (hu : u.1 = p) : (tCmd x ℓ u).1 = true ∧ (tCmd x ℓ u).2.1 = e := by
  have hp := h.lt
  have key : ∀ {t}, tOk (tCmd x ℓ u) e t → (tCmd x ℓ u).1 = true ∧ (tCmd x ℓ u).2.1 = e := fun h => ⟨h.1, h.2.1⟩
  have here : tHere x ℓ u.1 = some (x p) := by rw [hu]; exact tHere_at (by omega)
  have sg : ∀ s, x p = s → tOk (tSign x ℓ s (u.1, 0, u.2.2)) (p + 1) 0 := fun s hs => tSign_ok (u := (u.1, 0, u.2.2)) hu (by omega) hs
  rcases h with ⟨a, b, c, d, f, g⟩ | ⟨a, b, c, d, f, g, i, j⟩ | ⟨a, b, c, d, f⟩ | ⟨a, b, c⟩ | ⟨a, b, c, d, f⟩ | ⟨a, b, c, d⟩
  · refine key (t := 3) ?_
    unfold tCmd
    rw [here, a, if_pos rfl, g]
    exact tAnd_ok (tAnd_ok (tAnd_ok (sg 112 a) (fun w h1 h2 => tPair_ok h1 h2 (by omega) b c (by omega))) (fun w h1 h2 => tDigit_ok h1 h2 (by omega) d (by omega))) (fun w h1 h2 => tDigit_ok h1 h2 (by omega) f (by omega))
  · refine key (t := 4) ?_
    unfold tCmd
    rw [here, a, if_neg (by decide), if_pos rfl, j]
    exact tAnd_ok (tAnd_ok (tAnd_ok (sg 103 a) (fun w h1 h2 => tPair_ok0 h1 h2 (by omega) b c (by omega))) (fun w h1 h2 => tPair_ok0 h1 h2 (by omega) d f (by omega))) (fun w h1 h2 => tLetters_ok h1 h2 (by omega) g i (by omega))
  · refine key (t := 3) ?_
    unfold tCmd
    rw [here, a, if_neg (by decide), if_neg (by decide), if_pos rfl, f]
    exact tAnd_ok (tAnd_ok (sg 99 a) (fun w h1 h2 => tDigit_ok h1 h2 (by omega) b (by omega))) (fun w h1 h2 => tLetters_ok h1 h2 (by omega) c d (by omega))
  · refine key (t := 1) ?_
    unfold tCmd
    rw [here, a, if_neg (by decide), if_neg (by decide), if_neg (by decide), if_pos rfl, c]
    exact tAnd_ok (sg 121 a) (fun w h1 h2 => tDigit_ok h1 h2 (by omega) b (by omega))
  · refine key (t := 2) ?_
    unfold tCmd
    rw [here, a, if_neg (by decide), if_neg (by decide), if_neg (by decide), if_neg (by decide), if_pos rfl, f]
    exact tAnd_ok (tAnd_ok (sg 98 a) (fun w h1 h2 => tPair_ok0 h1 h2 (by omega) b c (by omega))) (fun w h1 h2 => tDigit_ok h1 h2 (by omega) d (by omega))
  · refine key (t := 2) ?_
    unfold tCmd
    rw [here, a, if_neg (by decide), if_neg (by decide), if_neg (by decide), if_neg (by decide), if_neg (by decide), if_pos rfl, d]
    exact tAnd_ok (tAnd_ok (sg 115 a) (fun w h1 h2 => tDigit_ok h1 h2 (by omega) b (by omega))) (fun w h1 h2 => tDigit_ok h1 h2 (by omega) c (by omega))
/-- n commands from place 1 to e -/
def tCh (x : Nat → Nat) : Nat → Nat → Prop
  | 0, e => e = 1
  | n + 1, e => ∃ m, tCh x n m ∧ tSh x m e
theorem tCh.cong {x y : Nat → Nat} : ∀ {n e : Nat}, (∀ j, j < e → y j = x j) → tCh x n e → tCh y n e
  | 0, _, _, h => h
  | n + 1, e, hc, ⟨m, h1, h2⟩ => ⟨m, h1.cong (fun j hj => hc j (by have := h2.lt; omega)), h2.cong hc⟩
theorem tCh.run {x : Nat → Nat} {ℓ : Nat} : ∀ {n e : Nat}, tCh x n e → e ≤ ℓ → ∀ (k : Nat) (u : Cur), u.1 = 1 → ∃ u' : Cur, u'.1 = e ∧ tRun x ℓ (n + k) u = tRun x ℓ k u'
  | 0, e, h, _, k, u, hu => ⟨u, by rw [hu]; exact h.symm, by rw [Nat.zero_add]⟩
  | n + 1, e, ⟨m, h1, h2⟩, hl, k, u, hu => by
    have hlt := h2.lt
    obtain ⟨u1, g1, g2⟩ := tCh.run (ℓ := ℓ) (n := n) (e := m) h1 (by omega) (k + 1) u hu
    obtain ⟨c1, c2⟩ := tCmd_sh h2 hl g1
    refine ⟨_, c2, ?_⟩
    rw [show n + 1 + k = n + (k + 1) by omega, g2, tRun_y (by omega) c1]
theorem tErr_no {x : Nat → Nat} {ℓ n : Nat} {u : Cur} (h0 : x 0 = 82) (h1 : 1 ≤ ℓ) (hc : tCh x n ℓ) (hn : n ≤ 120) : tErr x ℓ u = none := by
  obtain ⟨g1, g2, g3⟩ := tSign_ok (x := x) (ℓ := ℓ) (s := 82) (p := 0) (u := (0, u.2)) rfl h1 h0
  have e1 : (tHead x ℓ u).1 = true := g1
  have e2 : (tHead x ℓ u).2.1 = 1 := g2
  obtain ⟨u', q1, q2⟩ := hc.run (Nat.le_refl ℓ) (120 - n) _ e2
  rw [show n + (120 - n) = 120 by omega, tRun_end (n := 120 - n) (u := u') (by omega)] at q2
  unfold tErr
  rw [if_neg (by rw [e1]; decide), q2, if_pos rfl]
/-! what is written -/
def tPut (x : Nat → Nat) (ℓ v : Nat) : Nat → Nat := fun j => if j = ℓ then v else x j
def putL (x : Nat → Nat) (ℓ : Nat) : List Nat → Nat → Nat
  | [] => x
  | v :: vs => putL (tPut x ℓ v) (ℓ + 1) vs
theorem tPut_lt {x : Nat → Nat} {ℓ v j : Nat} (h : j < ℓ) : tPut x ℓ v j = x j := if_neg (by omega)
theorem tPut_at {x : Nat → Nat} {ℓ v : Nat} : tPut x ℓ v ℓ = v := if_pos rfl
theorem putL_lt {j : Nat} : ∀ {vs : List Nat} {ℓ : Nat} {x : Nat → Nat}, j < ℓ → putL x ℓ vs j = x j
  | [], _, _, _ => rfl
  | v :: vs, ℓ, x, h => by rw [putL, putL_lt (by omega), tPut_lt h]
theorem putL_at : ∀ {vs : List Nat} {x : Nat → Nat} {ℓ i v : Nat}, vs[i]? = some v → putL x ℓ vs (ℓ + i) = v
  | [], _, _, i, v, h => by cases h
  | w :: vs, x, ℓ, 0, v, h => by
    cases h
    show putL (tPut x ℓ w) (ℓ + 1) vs ℓ = w
    rw [putL_lt (by omega), tPut_at]
  | w :: vs, x, ℓ, i + 1, v, h => by
    rw [putL, show ℓ + (i + 1) = ℓ + 1 + i by omega]
    exact putL_at (by simpa using h)
def pV (y : Nat) : List Nat := [112, 48 + y % 3, 48 + y % 10, 48 + y / 3 % 2, 48 + y / 5 % 2]
def gV (y : Nat) : List Nat := [103, 48, 48 + y % 4, 48, 48 + y / 4 % 4, 65 + y % 3, 46, 99, 48 + y / 7 % 2, 65 + y % 3, 46, 121, 49]
def eV9 (X : Nat) : List Nat := [115, 48, 49 + X % 3, 98, 48, 49, 48 + X % 4, 115, 50, 48 + X % 10, 99, 48, 65, 46]
def pT (X : Nat) (x : Nat → Nat) : Nat → Nat → Nat
  | 0 => tPut x 0 82
  | k + 1 => putL (pT X x k) (1 + 5 * k) (pV (X / 2 ^ k))
def gT (X : Nat) (x : Nat → Nat) : Nat → Nat → Nat
  | 0 => pT X x 4
  | k + 1 => putL (gT X x k) (21 + 13 * k) (gV (X / 2 ^ k))
def fL (X : Nat) : Nat := 21 + 13 * (1 + X % 4) + 14
def fT (X : Nat) (x : Nat → Nat) : Nat → Nat := putL (gT X x (1 + X % 4)) (21 + 13 * (1 + X % 4)) (eV9 X)
theorem pT_ch (X : Nat) (x : Nat → Nat) : ∀ k, pT X x k 0 = 82 ∧ tCh (pT X x k) k (1 + 5 * k)
  | 0 => ⟨tPut_at, rfl⟩
  | k + 1 => by
    obtain ⟨h1, h2⟩ := pT_ch X x k
    refine ⟨(putL_lt (by omega)).trans h1, 1 + 5 * k, h2.cong (fun j hj => putL_lt hj), Or.inl ?_⟩
    rw [pT]
    generalize pT X x k = z
    generalize X / 2 ^ k = y
    have a0 : putL z (1 + 5 * k) (pV y) (1 + 5 * k + 0) = _ := putL_at (i := 0) rfl
    have a1 : putL z (1 + 5 * k) (pV y) (1 + 5 * k + 1) = _ := putL_at (i := 1) rfl
    have a2 : putL z (1 + 5 * k) (pV y) (1 + 5 * k + 2) = _ := putL_at (i := 2) rfl
    have a3 : putL z (1 + 5 * k) (pV y) (1 + 5 * k + 3) = _ := putL_at (i := 3) rfl
    have a4 : putL z (1 + 5 * k) (pV y) (1 + 5 * k + 4) = _ := putL_at (i := 4) rfl
    refine ⟨a0, ?_, ?_, ?_, ?_, by omega⟩
    · unfold dig; rw [a1]; omega
    · unfold dig; rw [a2]; omega
    · unfold dig; rw [a3]; omega
    · unfold dig; rw [a4]; omega
theorem gT_ch (X : Nat) (x : Nat → Nat) : ∀ k, gT X x k 0 = 82 ∧ tCh (gT X x k) (4 + 3 * k) (21 + 13 * k)
  | 0 => pT_ch X x 4
  | k + 1 => by
    obtain ⟨h1, h2⟩ := gT_ch X x k
    have h3 : tCh (gT X x (k + 1)) (4 + 3 * k) (21 + 13 * k) := h2.cong (fun j hj => putL_lt hj)
    refine ⟨(putL_lt (by omega)).trans h1, ?_⟩
    rw [gT] at h3 ⊢
    generalize gT X x k = z at h3 ⊢
    generalize X / 2 ^ k = y at h3 ⊢
    have a0 : putL z (21 + 13 * k) (gV y) (21 + 13 * k + 0) = _ := putL_at (i := 0) rfl
    have a1 : putL z (21 + 13 * k) (gV y) (21 + 13 * k + 1) = _ := putL_at (i := 1) rfl
    have a2 : putL z (21 + 13 * k) (gV y) (21 + 13 * k + 2) = _ := putL_at (i := 2) rfl
    have a3 : putL z (21 + 13 * k) (gV y) (21 + 13 * k + 3) = _ := putL_at (i := 3) rfl
    have a4 : putL z (21 + 13 * k) (gV y) (21 + 13 * k + 4) = _ := putL_at (i := 4) rfl
    have a5 : putL z (21 + 13 * k) (gV y) (21 + 13 * k + 5) = _ := putL_at (i := 5) rfl
    have a6 : putL z (21 + 13 * k) (gV y) (21 + 13 * k + 6) = _ := putL_at (i := 6) rfl
    have a7 : putL z (21 + 13 * k) (gV y) (21 + 13 * k + 7) = _ := putL_at (i := 7) rfl
    have a8 : putL z (21 + 13 * k) (gV y) (21 + 13 * k + 8) = _ := putL_at (i := 8) rfl
    have a9 : putL z (21 + 13 * k) (gV y) (21 + 13 * k + 9) = _ := putL_at (i := 9) rfl
    have a10 : putL z (21 + 13 * k) (gV y) (21 + 13 * k + 10) = _ := putL_at (i := 10) rfl
    have a11 : putL z (21 + 13 * k) (gV y) (21 + 13 * k + 11) = _ := putL_at (i := 11) rfl
    have a12 : putL z (21 + 13 * k) (gV y) (21 + 13 * k + 12) = _ := putL_at (i := 12) rfl
    rw [show 4 + 3 * (k + 1) = 4 + 3 * k + 1 + 1 + 1 by omega]
    refine ⟨21 + 13 * k + 11, ⟨21 + 13 * k + 7, ⟨21 + 13 * k, h3, Or.inr (Or.inl ?_)⟩, Or.inr (Or.inr (Or.inl ?_))⟩, Or.inr (Or.inr (Or.inr (Or.inl ?_)))⟩
    · refine ⟨a0, a1, ?_, a3, ?_, ?_, a6, by omega⟩
      · unfold dig; rw [a2]; omega
      · unfold dig; rw [a4]; omega
      · rw [a5]; omega
    · refine ⟨a7, ?_, ?_, a10, by omega⟩
      · unfold dig; rw [show 21 + 13 * k + 7 + 1 = 21 + 13 * k + 8 by omega, a8]; omega
      · rw [show 21 + 13 * k + 7 + 2 = 21 + 13 * k + 9 by omega, a9]; omega
    · refine ⟨a11, ?_, by omega⟩
      unfold dig; rw [show 21 + 13 * k + 11 + 1 = 21 + 13 * k + 12 by omega, a12]; omega
theorem fT_ok (X : Nat) (x : Nat → Nat) (u : Cur) : tErr (fT X x) (fL X) u = none := by
  obtain ⟨h1, h2⟩ := gT_ch X x (1 + X % 4)
  unfold fT fL
  have hm : X % 4 < 4 := Nat.mod_lt _ (by decide)
  generalize gT X x (1 + X % 4) = z at h1 h2 ⊢
  generalize hk : 21 + 13 * (1 + X % 4) = k at h2 ⊢
  have h3 : tCh (putL z k (eV9 X)) (4 + 3 * (1 + X % 4)) k := h2.cong (fun j hj => putL_lt hj)
  have h0 : putL z k (eV9 X) 0 = 82 := (putL_lt (by omega)).trans h1
  have a0 : putL z k (eV9 X) (k + 0) = _ := putL_at (i := 0) rfl
  have a1 : putL z k (eV9 X) (k + 1) = _ := putL_at (i := 1) rfl
  have a2 : putL z k (eV9 X) (k + 2) = _ := putL_at (i := 2) rfl
  have a3 : putL z k (eV9 X) (k + 3) = _ := putL_at (i := 3) rfl
  have a4 : putL z k (eV9 X) (k + 4) = _ := putL_at (i := 4) rfl
  have a5 : putL z k (eV9 X) (k + 5) = _ := putL_at (i := 5) rfl
  have a6 : putL z k (eV9 X) (k + 6) = _ := putL_at (i := 6) rfl
  have a7 : putL z k (eV9 X) (k + 7) = _ := putL_at (i := 7) rfl
  have a8 : putL z k (eV9 X) (k + 8) = _ := putL_at (i := 8) rfl
  have a9 : putL z k (eV9 X) (k + 9) = _ := putL_at (i := 9) rfl
  have a10 : putL z k (eV9 X) (k + 10) = _ := putL_at (i := 10) rfl
  have a11 : putL z k (eV9 X) (k + 11) = _ := putL_at (i := 11) rfl
  have a12 : putL z k (eV9 X) (k + 12) = _ := putL_at (i := 12) rfl
  have a13 : putL z k (eV9 X) (k + 13) = _ := putL_at (i := 13) rfl
  refine tErr_no (n := 4 + 3 * (1 + X % 4) + 1 + 1 + 1 + 1) h0 (by omega) ⟨k + 10, ⟨k + 7, ⟨k + 3, ⟨k, h3, ?_⟩, ?_⟩, ?_⟩, ?_⟩ (by omega)
  · refine Or.inr (Or.inr (Or.inr (Or.inr (Or.inr ⟨a0, ?_, ?_, by omega⟩))))
    · unfold dig; rw [a1]; omega
    · unfold dig; rw [a2]; omega
  · refine Or.inr (Or.inr (Or.inr (Or.inr (Or.inl ⟨a3, a4, ?_, ?_, by omega⟩))))
    · unfold dig; rw [show k + 3 + 2 = k + 5 by omega, a5]; omega
    · unfold dig; rw [show k + 3 + 3 = k + 6 by omega, a6]; omega
  · refine Or.inr (Or.inr (Or.inr (Or.inr (Or.inr ⟨a7, ?_, ?_, by omega⟩))))
    · unfold dig; rw [show k + 7 + 1 = k + 8 by omega, a8]; omega
    · unfold dig; rw [show k + 7 + 2 = k + 9 by omega, a9]; omega
  · refine Or.inr (Or.inr (Or.inl ⟨a10, ?_, ?_, a13, by omega⟩))
    · unfold dig; rw [show k + 10 + 1 = k + 11 by omega, a11]; omega
    · rw [show k + 10 + 2 = k + 12 by omega, a12]; omega
