/-! a text is read alike, and told alike -/
def tSt (u v : Cur) : Prop := u.1 = v.1 ∧ u.2.1 = v.2.1 ∧ ∀ j, j < u.2.1 → u.2.2 j = v.2.2 j
def tEe (r s : Bool × Cur) : Prop := r.1 = s.1 ∧ tSt r.2 s.2
theorem tTell_e {u v : Cur} (h : tSt u v) (a : Nat) : tEe (tTell u a) (tTell v a) := by
  unfold tTell
  rw [h.2.1]
  split
  · refine ⟨rfl, h.1, rfl, fun j hj => ?_⟩
    have hj : j < v.2.1 + 1 := hj
    show (if j = v.2.1 then a else u.2.2 j) = (if j = v.2.1 then a else v.2.2 j)
    split
    · rfl
    · exact h.2.2 j (by rw [h.2.1]; omega)
  · exact ⟨rfl, h⟩
theorem tGo_e {u v : Cur} (h : tSt u v) (a : Nat) : tSt (tGo u a) (tGo v a) := ⟨congrArg (· + a) h.1, h.2⟩
theorem tAnd_e {r s : Bool × Cur} {f : Cur → Bool × Cur} (h : tEe r s) (hf : ∀ u v, tSt u v → tEe (f u) (f v)) : tEe (tAnd r f) (tAnd s f) := by
  unfold tAnd
  rw [h.1]
  split
  · exact hf _ _ h.2
  · exact ⟨rfl, h.2⟩
theorem tSign_e {x : Nat → Nat} {ℓ s : Nat} {u v : Cur} (h : tSt u v) : tEe (tSign x ℓ s u) (tSign x ℓ s v) := by
  unfold tSign
  rw [h.1]
  split
  · exact ⟨rfl, tGo_e h 1⟩
  · exact ⟨rfl, h⟩
theorem tDigit_e {x : Nat → Nat} {ℓ lo hi : Nat} {u v : Cur} (h : tSt u v) : tEe (tDigit x ℓ lo hi u) (tDigit x ℓ lo hi v) := by
  cases hd : tDig x ℓ u.1 lo hi with
  | none => rw [tDigit_n hd, tDigit_n (h.1 ▸ hd)]; exact ⟨rfl, h⟩
  | some d => rw [tDigit_y hd, tDigit_y (h.1 ▸ hd)]; exact tTell_e (tGo_e h 1) d
theorem tPair_e {x : Nat → Nat} {ℓ m : Nat} {u v : Cur} (h : tSt u v) : tEe (tPair x ℓ m u) (tPair x ℓ m v) := by
  cases ht : tDig x ℓ u.1 0 (m / 10) with
  | none => rw [tPair_n ht, tPair_n (h.1 ▸ ht)]; exact ⟨rfl, h⟩
  | some t =>
    cases hd : tDig x ℓ (u.1 + 1) 0 (if t = m / 10 then m % 10 else 9) with
    | none => rw [tPair_m ht hd, tPair_m (h.1 ▸ ht) (h.1 ▸ hd)]; exact ⟨rfl, tGo_e h 1⟩
    | some d => rw [tPair_y ht hd, tPair_y (h.1 ▸ ht) (h.1 ▸ hd)]; exact tTell_e (tGo_e h 2) _
theorem tLetters_e {x : Nat → Nat} {ℓ : Nat} {u v : Cur} (h : tSt u v) : tEe (tLetters x ℓ u) (tLetters x ℓ v) := by
  unfold tLetters
  rw [h.1]
  split
  · exact ⟨rfl, h⟩
  · exact tAnd_e (tAnd_e (tTell_e (tGo_e h _) _) (fun a b hab => tTell_e hab _)) (fun a b hab => tSign_e hab)
theorem tCmd_e {x : Nat → Nat} {ℓ : Nat} {u v : Cur} (h : u.1 = v.1) : tEe (tCmd x ℓ u) (tCmd x ℓ v) := by
  unfold tCmd
  rw [← h]
  have h0 : tSt (u.1, 0, u.2.2) (u.1, 0, v.2.2) := ⟨rfl, rfl, fun j hj => absurd hj (Nat.not_lt_zero j)⟩
  split
  · exact tAnd_e (tAnd_e (tAnd_e (tSign_e h0) (fun a b q => tPair_e q)) (fun a b q => tDigit_e q)) (fun a b q => tDigit_e q)
  split
  · exact tAnd_e (tAnd_e (tAnd_e (tSign_e h0) (fun a b q => tPair_e q)) (fun a b q => tPair_e q)) (fun a b q => tLetters_e q)
  split
  · exact tAnd_e (tAnd_e (tSign_e h0) (fun a b q => tDigit_e q)) (fun a b q => tLetters_e q)
  split
  · exact tAnd_e (tSign_e h0) (fun a b q => tDigit_e q)
  split
  · exact tAnd_e (tAnd_e (tSign_e h0) (fun a b q => tPair_e q)) (fun a b q => tDigit_e q)
  split
  · exact tAnd_e (tAnd_e (tSign_e h0) (fun a b q => tDigit_e q)) (fun a b q => tDigit_e q)
  · exact ⟨rfl, h0⟩
theorem tTell_up (u : Cur) (a : Nat) : (tTell u a).2.1 ≤ u.1 := by
  unfold tTell
  split
  · exact Nat.le_refl _
  · exact Nat.le_refl _
theorem tAnd_up {r : Bool × Cur} {f : Cur → Bool × Cur} {a n m : Nat} (h : r.2.1 ≤ a + n) (hf : ∀ w, (f w).2.1 ≤ w.1 + m) : (tAnd r f).2.1 ≤ a + (n + m) := by
  unfold tAnd
  split
  · have := hf r.2; omega
  · show r.2.1 ≤ _; omega
theorem tSign_up (x : Nat → Nat) (ℓ s : Nat) (u : Cur) : (tSign x ℓ s u).2.1 ≤ u.1 + 1 := by
  unfold tSign
  split
  · exact Nat.le_refl _
  · exact Nat.le_succ _
theorem tDigit_up (x : Nat → Nat) (ℓ lo hi : Nat) (u : Cur) : (tDigit x ℓ lo hi u).2.1 ≤ u.1 + 1 := by
  cases hd : tDig x ℓ u.1 lo hi with
  | none => rw [tDigit_n hd]; exact Nat.le_succ _
  | some d => rw [tDigit_y hd]; exact tTell_up _ _
theorem tPair_up (x : Nat → Nat) (ℓ m : Nat) (u : Cur) : (tPair x ℓ m u).2.1 ≤ u.1 + 2 := by
  cases ht : tDig x ℓ u.1 0 (m / 10) with
  | none => rw [tPair_n ht]; exact Nat.le_add_right _ _
  | some t =>
    cases hd : tDig x ℓ (u.1 + 1) 0 (if t = m / 10 then m % 10 else 9) with
    | none => rw [tPair_m ht hd]; exact Nat.le_succ _
    | some d => rw [tPair_y ht hd]; exact tTell_up _ _
theorem tLetters_up (x : Nat → Nat) (ℓ : Nat) (u : Cur) : (tLetters x ℓ u).2.1 ≤ u.1 + 5 := by
  have hm := tLm_le x ℓ u.1
  unfold tLetters
  split
  · exact Nat.le_add_right _ _
  · have h1 := tTell_up (tGo u (tLm x ℓ u.1)) (tLm x ℓ u.1)
    have h2 : (tTell (tGo u (tLm x ℓ u.1)) (tLm x ℓ u.1)).2.1 ≤ u.1 + 4 := Nat.le_trans h1 (by show u.1 + tLm x ℓ u.1 ≤ _; omega)
    exact tAnd_up (n := 4) (m := 1) (tAnd_up (n := 4) (m := 0) h2 (fun w => tTell_up w _)) (fun w => tSign_up x ℓ 46 w)
theorem tCmd_up (x : Nat → Nat) (ℓ : Nat) (u : Cur) : (tCmd x ℓ u).2.1 ≤ u.1 + 10 := by
  unfold tCmd
  split
  · exact Nat.le_trans (tAnd_up (n := 4) (m := 1) (tAnd_up (n := 3) (m := 1) (tAnd_up (n := 1) (m := 2) (tSign_up x ℓ 112 (u.1, 0, u.2.2)) (tPair_up x ℓ 99)) (tDigit_up x ℓ 0 5)) (tDigit_up x ℓ 0 3)) (by omega)
  split
  · exact tAnd_up (n := 5) (m := 5) (tAnd_up (n := 3) (m := 2) (tAnd_up (n := 1) (m := 2) (tSign_up x ℓ 103 (u.1, 0, u.2.2)) (tPair_up x ℓ 11)) (tPair_up x ℓ 11)) (tLetters_up x ℓ)
  split
  · exact Nat.le_trans (tAnd_up (n := 2) (m := 5) (tAnd_up (n := 1) (m := 1) (tSign_up x ℓ 99 (u.1, 0, u.2.2)) (tDigit_up x ℓ 0 3)) (tLetters_up x ℓ)) (by omega)
  split
  · exact Nat.le_trans (tAnd_up (n := 1) (m := 1) (tSign_up x ℓ 121 (u.1, 0, u.2.2)) (tDigit_up x ℓ 1 9)) (by omega)
  split
  · exact Nat.le_trans (tAnd_up (n := 3) (m := 1) (tAnd_up (n := 1) (m := 2) (tSign_up x ℓ 98 (u.1, 0, u.2.2)) (tPair_up x ℓ 11)) (tDigit_up x ℓ 0 3)) (by omega)
  split
  · exact Nat.le_trans (tAnd_up (n := 2) (m := 1) (tAnd_up (n := 1) (m := 1) (tSign_up x ℓ 115 (u.1, 0, u.2.2)) (tDigit_up x ℓ 0 2)) (tDigit_up x ℓ 0 9)) (by omega)
  · exact Nat.le_add_right _ _
theorem tRun_up (x : Nat → Nat) (ℓ : Nat) : ∀ (n : Nat) (u : Cur), (tRun x ℓ n u).2.1 ≤ u.1 + 10 * n
  | 0, u => Nat.le_refl _
  | n + 1, u => by
    have h1 := tCmd_up x ℓ u
    rw [tRun]
    split
    · split
      · have h2 := tRun_up x ℓ n (tCmd x ℓ u).2; omega
      · show (tCmd x ℓ u).2.1 ≤ _; omega
    · show u.1 ≤ _; omega
theorem tErr_b {x : Nat → Nat} {ℓ : Nat} {u : Cur} {k : Nat} (h : tErr x ℓ u = some k) : k < 2 ^ 31 := by
  have h1 : (tHead x ℓ u).2.1 ≤ 0 + 1 := tSign_up x ℓ 82 (0, u.2)
  have h2 := tRun_up x ℓ 120 (tHead x ℓ u).2
  unfold tErr at h
  split at h
  · cases h; omega
  · split at h
    · cases h
    · cases h; omega
theorem tErr_head {x : Nat → Nat} {ℓ : Nat} {u : Cur} (h : tErr x ℓ u = none) : (tHead x ℓ u).2.1 = 1 := by
  unfold tErr at h
  split at h
  · cases h
  · rename_i q
    unfold tHead tSign at q ⊢
    split
    · rfl
    · rename_i q2
      exact absurd (by rw [if_neg q2]) q
/-! a text that is carried out -/
def sLd (x : Nat → Nat) (ℓ : Nat) : Nat → Cur → St → Nat → St × Nat
  | 0, _, σ, q => (σ, q)
  | n + 1, u, σ, q => if (tCmd x ℓ u).1 = true then sLd x ℓ n (tCmd x ℓ u).2 (sObey σ (tHere x ℓ u.1) (tCmd x ℓ u).2.2.2).1 (if (sObey σ (tHere x ℓ u.1) (tCmd x ℓ u).2.2.2).2 = true then q else q + 1) else (σ, q)
theorem sLd_y {x : Nat → Nat} {ℓ n q : Nat} {u : Cur} {σ : St} (h : (tCmd x ℓ u).1 = true) : sLd x ℓ (n + 1) u σ q = sLd x ℓ n (tCmd x ℓ u).2 (sObey σ (tHere x ℓ u.1) (tCmd x ℓ u).2.2.2).1 (if (sObey σ (tHere x ℓ u.1) (tCmd x ℓ u).2.2.2).2 = true then q else q + 1) := by rw [sLd, if_pos h]
theorem sLd_stop {x : Nat → Nat} {ℓ q : Nat} {u : Cur} {σ : St} (h : (tCmd x ℓ u).1 = false) : ∀ n, sLd x ℓ n u σ q = (σ, q)
  | 0 => rfl
  | n + 1 => by rw [sLd, if_neg (by rw [h]; decide)]
theorem sObey_e {σ : St} {k : Option Nat} {f g : Nat → Nat} (h : ∀ j, j < tKn k → f j = g j) : sObey σ k f = sObey σ k g := by
  by_cases h1 : k = some 112
  · have e := tKn_p h1; rw [sObey_p h1, sObey_p h1, h 0 (by omega), h 1 (by omega), h 2 (by omega)]
  by_cases h2 : k = some 103
  · have e := tKn_g h2; rw [sObey_g h2, sObey_g h2, h 0 (by omega), h 1 (by omega), h 2 (by omega), h 3 (by omega)]
  by_cases h3 : k = some 99
  · have e := tKn_c h3; rw [sObey_c h3, sObey_c h3, h 0 (by omega), h 1 (by omega), h 2 (by omega)]
  by_cases h4 : k = some 121
  · have e := tKn_y h4; rw [sObey_y h4, sObey_y h4, h 0 (by omega)]
  by_cases h5 : k = some 98
  · have e := tKn_b h5; rw [sObey_b h5, sObey_b h5, h 0 (by omega), h 1 (by omega)]
  by_cases h6 : k = some 115
  · have e := tKn_s h6; rw [sObey_s h6, sObey_s h6, h 0 (by omega), h 1 (by omega)]
  rw [sObey_d h5 h3 h2 h1 h6 h4, sObey_d h5 h3 h2 h1 h6 h4]
theorem sLd_e {x : Nat → Nat} {ℓ : Nat} : ∀ {n : Nat} {u v : Cur} {σ : St} {q : Nat}, u.1 = v.1 → sLd x ℓ n u σ q = sLd x ℓ n v σ q
  | 0, u, v, σ, q, h => rfl
  | n + 1, u, v, σ, q, h => by
    have k := tCmd_e (x := x) (ℓ := ℓ) h
    rw [sLd, sLd, k.1]
    split
    · rename_i z
      have e : sObey σ (tHere x ℓ u.1) (tCmd x ℓ u).2.2.2 = sObey σ (tHere x ℓ v.1) (tCmd x ℓ v).2.2.2 := by
        rw [← h]
        exact sObey_e (fun j hj => k.2.2.2 j (Nat.lt_of_lt_of_le hj (tCmd_ct (k.1.trans z))))
      rw [e]
      exact sLd_e k.2.1
    · rfl
theorem eIv_new : eIv regNew 0 := by
  refine ⟨⟨?_, ?_, ?_⟩, fun i _ => ?_, fun p => ?_, fun k => ?_, fun k hk => ?_, ⟨⟨?_, ?_⟩, fun j => ?_⟩, fun f j hf => ?_⟩ <;> simp [regNew] at *
  omega
set_option maxHeartbeats 4000000 in
set_option maxRecDepth 20000 in
theorem c_X10_load {h : eH} {n b ℓ c : Nat} {σ : St} {x : Nat → Nat} {τ τs : Nat → St} {us : Nat → Nat} (hO : eNB h b σ x ℓ c τ us τs) (he : tErr x ℓ (0, 0, fun _ => 0) = none) : kX10_load [.ref b] h n (.inl (some (.int (nI (sLd x ℓ 120 (1, 0, fun _ => 0) regNew 0).2))), (fun g => eNB g b (sLd x ℓ 120 (1, 0, fun _ => 0) regNew 0).1 x ℓ 0 τ (fun _ => 0) τs ∧ eFr h g b (b + 317)), some n) 0 0 := by
  refine eM.of RX10 "load" [(0, .ref b)] pn_X10 rfl rfl (Nat.le_of_ble_eq_true rfl) rfl ?_
  obtain ⟨o0, ⟨k0, u0, oT, hsm⟩, oR, ⟨ρ, oR2⟩, ⟨f0, oP⟩, oS, ⟨wt, oW⟩⟩ := id hO
  have hx := oT.2.2.2.2
  have FR : eFr h h b (b + 317) := eFr.rf
  refine ev_aload_n dX10_load_0 rfl rfl ?_
  refine ev_getfield dX10_load_1 fl_X10_12 (by first | assumption | omega | exact ePp.ob (by assumption) | exact eNm.ob (by assumption) | exact eRg.ob (by assumption) | exact eTx.ob (by assumption) | exact ePa.ob (by assumption) | exact eSe.ob (by assumption) | exact eSl.ob (by assumption)) rfl ?_
  refine ev_callVi dX10_load_4 (c_X9_firstError oT hsm) rfl lk_X10_67 (by first | assumption | omega | exact ePp.ob (by assumption) | exact eNm.ob (by assumption) | exact eRg.ob (by assumption) | exact eTx.ob (by assumption) | exact ePa.ob (by assumption) | exact eSe.ob (by assumption) | exact eSl.ob (by assumption)) ⟨Nat.le_of_ble_eq_true rfl, Nat.le_of_ble_eq_true rfl⟩ rfl (Nat.le_of_ble_eq_true rfl) ⟨by first | exact Nat.le_of_ble_eq_true rfl | omega, by first | exact Nat.le_of_ble_eq_true rfl | omega⟩ (fun g_4 hg_4 => ?_)
  obtain ⟨w_4, fr_4⟩ := hg_4
  first | replace o0 := eArr.fr o0 (fr_4 _ (by omega)) | replace o0 := Eq.trans (fr_4 _ (by omega)) o0 | replace o0 := eBo.fr o0 (fr_4 _ (by omega)) | replace o0 := ePp.fr1 o0 (fun a _ _ => fr_4 a (by omega)) | replace o0 := eNm.fr1 o0 (fun a _ _ => fr_4 a (by omega)) | replace o0 := eRg.fr o0 (fun a _ _ => fr_4 a (by omega)) | replace o0 := eTx.fr o0 (fun a _ _ => fr_4 a (by omega)) | replace o0 := ePa.fr o0 (fun a _ _ => fr_4 a (by omega)) | replace o0 := eRf.fr o0 (fr_4 _ (by omega)) | replace o0 := eSl.fr o0 (fun a _ _ => fr_4 a (by omega)) | replace o0 := eSe.fr o0 (fun a _ _ => fr_4 a (by omega)) | replace o0 := z_4 o0 | replace o0 := z_4
  replace oT := w_4
  first | replace oR := eArr.fr oR (fr_4 _ (by omega)) | replace oR := Eq.trans (fr_4 _ (by omega)) oR | replace oR := eBo.fr oR (fr_4 _ (by omega)) | replace oR := ePp.fr1 oR (fun a _ _ => fr_4 a (by omega)) | replace oR := eNm.fr1 oR (fun a _ _ => fr_4 a (by omega)) | replace oR := eRg.fr oR (fun a _ _ => fr_4 a (by omega)) | replace oR := eTx.fr oR (fun a _ _ => fr_4 a (by omega)) | replace oR := ePa.fr oR (fun a _ _ => fr_4 a (by omega)) | replace oR := eRf.fr oR (fr_4 _ (by omega)) | replace oR := eSl.fr oR (fun a _ _ => fr_4 a (by omega)) | replace oR := eSe.fr oR (fun a _ _ => fr_4 a (by omega)) | replace oR := z_4 oR | replace oR := z_4
  first | replace oR2 := eArr.fr oR2 (fr_4 _ (by omega)) | replace oR2 := Eq.trans (fr_4 _ (by omega)) oR2 | replace oR2 := eBo.fr oR2 (fr_4 _ (by omega)) | replace oR2 := ePp.fr1 oR2 (fun a _ _ => fr_4 a (by omega)) | replace oR2 := eNm.fr1 oR2 (fun a _ _ => fr_4 a (by omega)) | replace oR2 := eRg.fr oR2 (fun a _ _ => fr_4 a (by omega)) | replace oR2 := eTx.fr oR2 (fun a _ _ => fr_4 a (by omega)) | replace oR2 := ePa.fr oR2 (fun a _ _ => fr_4 a (by omega)) | replace oR2 := eRf.fr oR2 (fr_4 _ (by omega)) | replace oR2 := eSl.fr oR2 (fun a _ _ => fr_4 a (by omega)) | replace oR2 := eSe.fr oR2 (fun a _ _ => fr_4 a (by omega)) | replace oR2 := z_4 oR2 | replace oR2 := z_4
  first | replace oP := eArr.fr oP (fr_4 _ (by omega)) | replace oP := Eq.trans (fr_4 _ (by omega)) oP | replace oP := eBo.fr oP (fr_4 _ (by omega)) | replace oP := ePp.fr1 oP (fun a _ _ => fr_4 a (by omega)) | replace oP := eNm.fr1 oP (fun a _ _ => fr_4 a (by omega)) | replace oP := eRg.fr oP (fun a _ _ => fr_4 a (by omega)) | replace oP := eTx.fr oP (fun a _ _ => fr_4 a (by omega)) | replace oP := ePa.fr oP (fun a _ _ => fr_4 a (by omega)) | replace oP := eRf.fr oP (fr_4 _ (by omega)) | replace oP := eSl.fr oP (fun a _ _ => fr_4 a (by omega)) | replace oP := eSe.fr oP (fun a _ _ => fr_4 a (by omega)) | replace oP := z_4 oP | replace oP := z_4
  first | replace oS := eArr.fr oS (fr_4 _ (by omega)) | replace oS := Eq.trans (fr_4 _ (by omega)) oS | replace oS := eBo.fr oS (fr_4 _ (by omega)) | replace oS := ePp.fr1 oS (fun a _ _ => fr_4 a (by omega)) | replace oS := eNm.fr1 oS (fun a _ _ => fr_4 a (by omega)) | replace oS := eRg.fr oS (fun a _ _ => fr_4 a (by omega)) | replace oS := eTx.fr oS (fun a _ _ => fr_4 a (by omega)) | replace oS := ePa.fr oS (fun a _ _ => fr_4 a (by omega)) | replace oS := eRf.fr oS (fr_4 _ (by omega)) | replace oS := eSl.fr oS (fun a _ _ => fr_4 a (by omega)) | replace oS := eSe.fr oS (fun a _ _ => fr_4 a (by omega)) | replace oS := z_4 oS | replace oS := z_4
  first | replace oW := eArr.fr oW (fr_4 _ (by omega)) | replace oW := Eq.trans (fr_4 _ (by omega)) oW | replace oW := eBo.fr oW (fr_4 _ (by omega)) | replace oW := ePp.fr1 oW (fun a _ _ => fr_4 a (by omega)) | replace oW := eNm.fr1 oW (fun a _ _ => fr_4 a (by omega)) | replace oW := eRg.fr oW (fun a _ _ => fr_4 a (by omega)) | replace oW := eTx.fr oW (fun a _ _ => fr_4 a (by omega)) | replace oW := ePa.fr oW (fun a _ _ => fr_4 a (by omega)) | replace oW := eRf.fr oW (fr_4 _ (by omega)) | replace oW := eSl.fr oW (fun a _ _ => fr_4 a (by omega)) | replace oW := eSe.fr oW (fun a _ _ => fr_4 a (by omega)) | replace oW := z_4 oW | replace oW := z_4
  first | replace FR := eFr.trans FR (eFr.one fr_4 (by omega) (by omega)) | replace FR := eFr.trans FR (eFr.wide fr_4 (by omega) (by omega))
  obtain ⟨k1, u1, oT, hsm1⟩ := oT
  refine ev_iconst (v := -1) dX10_load_7 (by decide) ?_
  first | ((with_reducible show eV _ _ _ (Value.int (nI _) :: Value.int (nI _) :: _) _ _ _ _); refine ev_icmp_eqN (tgt := 21) dX10_load_8 (by decide) (by omega) (by omega) (fun c_8 => ?_) (fun c_8 => ?_)) | ((with_reducible show eV _ _ _ (Value.int (-1) :: Value.int (oI _) :: _) _ _ _ _); refine ev_icmp_eqO (tgt := 21) dX10_load_8 (by decide) (by intro k9 h9; exact tErr_b h9) (fun c_8 => ?_) (fun c_8 => ?_)) | ((with_reducible show eV _ _ _ (Value.int (oI _) :: Value.int (nI _) :: _) _ _ _ _); refine ev_icmp_eqNO (tgt := 21) dX10_load_8 (by decide) (by omega) (by intro k9 h9; exact tErr_b h9) (fun c_8 => ?_) (fun c_8 => ?_)) | ((with_reducible show eV _ _ _ (Value.int (nI _) :: Value.int (oI _) :: _) _ _ _ _); refine ev_icmp_eqON (tgt := 21) dX10_load_8 (by decide) (by omega) (by intro k9 h9; exact tErr_b h9) (fun c_8 => ?_) (fun c_8 => ?_)) | ((with_reducible show eV _ _ _ (Value.int (nI _) :: _) _ _ _ _); refine ev_icmp_eqZN (tgt := 21) dX10_load_8 (by decide) (by omega) (fun c_8 => ?_) (fun c_8 => ?_)) | ((with_reducible show eV _ _ _ (_ :: Value.int (nI _) :: _) _ _ _ _); refine ev_icmp_eqNZ (tgt := 21) dX10_load_8 (by decide) (by omega) (fun c_8 => ?_) (fun c_8 => ?_)) | (refine ev_icmp_eqZZ (tgt := 21) dX10_load_8 (by decide) (fun c_8 => ?_) (fun c_8 => ?_))
  · refine ev_aload_n dX10_load_21 rfl rfl ?_
    refine ev_getfield dX10_load_22 fl_X10_19 (by first | assumption | omega | exact ePp.ob (by assumption) | exact eNm.ob (by assumption) | exact eRg.ob (by assumption) | exact eTx.ob (by assumption) | exact ePa.ob (by assumption) | exact eSe.ob (by assumption) | exact eSl.ob (by assumption)) rfl ?_
    refine ev_callVv dX10_load_25 (c_X5_empty oR) rfl lk_X10_73 (by first | assumption | omega | exact ePp.ob (by assumption) | exact eNm.ob (by assumption) | exact eRg.ob (by assumption) | exact eTx.ob (by assumption) | exact ePa.ob (by assumption) | exact eSe.ob (by assumption) | exact eSl.ob (by assumption)) ⟨Nat.le_of_ble_eq_true rfl, Nat.le_of_ble_eq_true rfl⟩ rfl (Nat.le_of_ble_eq_true rfl) ⟨by first | exact Nat.le_of_ble_eq_true rfl | omega, by first | exact Nat.le_of_ble_eq_true rfl | omega⟩ (fun g_25 hg_25 => ?_)
    obtain ⟨w_25, fr_25⟩ := hg_25
    first | replace o0 := eArr.fr o0 (fr_25 _ (by omega)) | replace o0 := Eq.trans (fr_25 _ (by omega)) o0 | replace o0 := eBo.fr o0 (fr_25 _ (by omega)) | replace o0 := ePp.fr1 o0 (fun a _ _ => fr_25 a (by omega)) | replace o0 := eNm.fr1 o0 (fun a _ _ => fr_25 a (by omega)) | replace o0 := eRg.fr o0 (fun a _ _ => fr_25 a (by omega)) | replace o0 := eTx.fr o0 (fun a _ _ => fr_25 a (by omega)) | replace o0 := ePa.fr o0 (fun a _ _ => fr_25 a (by omega)) | replace o0 := eRf.fr o0 (fr_25 _ (by omega)) | replace o0 := eSl.fr o0 (fun a _ _ => fr_25 a (by omega)) | replace o0 := eSe.fr o0 (fun a _ _ => fr_25 a (by omega)) | replace o0 := z_25 o0 | replace o0 := z_25
    first | replace oT := eArr.fr oT (fr_25 _ (by omega)) | replace oT := Eq.trans (fr_25 _ (by omega)) oT | replace oT := eBo.fr oT (fr_25 _ (by omega)) | replace oT := ePp.fr1 oT (fun a _ _ => fr_25 a (by omega)) | replace oT := eNm.fr1 oT (fun a _ _ => fr_25 a (by omega)) | replace oT := eRg.fr oT (fun a _ _ => fr_25 a (by omega)) | replace oT := eTx.fr oT (fun a _ _ => fr_25 a (by omega)) | replace oT := ePa.fr oT (fun a _ _ => fr_25 a (by omega)) | replace oT := eRf.fr oT (fr_25 _ (by omega)) | replace oT := eSl.fr oT (fun a _ _ => fr_25 a (by omega)) | replace oT := eSe.fr oT (fun a _ _ => fr_25 a (by omega)) | replace oT := z_25 oT | replace oT := z_25
    replace oR := w_25
    first | replace oR2 := eArr.fr oR2 (fr_25 _ (by omega)) | replace oR2 := Eq.trans (fr_25 _ (by omega)) oR2 | replace oR2 := eBo.fr oR2 (fr_25 _ (by omega)) | replace oR2 := ePp.fr1 oR2 (fun a _ _ => fr_25 a (by omega)) | replace oR2 := eNm.fr1 oR2 (fun a _ _ => fr_25 a (by omega)) | replace oR2 := eRg.fr oR2 (fun a _ _ => fr_25 a (by omega)) | replace oR2 := eTx.fr oR2 (fun a _ _ => fr_25 a (by omega)) | replace oR2 := ePa.fr oR2 (fun a _ _ => fr_25 a (by omega)) | replace oR2 := eRf.fr oR2 (fr_25 _ (by omega)) | replace oR2 := eSl.fr oR2 (fun a _ _ => fr_25 a (by omega)) | replace oR2 := eSe.fr oR2 (fun a _ _ => fr_25 a (by omega)) | replace oR2 := z_25 oR2 | replace oR2 := z_25
    first | replace oP := eArr.fr oP (fr_25 _ (by omega)) | replace oP := Eq.trans (fr_25 _ (by omega)) oP | replace oP := eBo.fr oP (fr_25 _ (by omega)) | replace oP := ePp.fr1 oP (fun a _ _ => fr_25 a (by omega)) | replace oP := eNm.fr1 oP (fun a _ _ => fr_25 a (by omega)) | replace oP := eRg.fr oP (fun a _ _ => fr_25 a (by omega)) | replace oP := eTx.fr oP (fun a _ _ => fr_25 a (by omega)) | replace oP := ePa.fr oP (fun a _ _ => fr_25 a (by omega)) | replace oP := eRf.fr oP (fr_25 _ (by omega)) | replace oP := eSl.fr oP (fun a _ _ => fr_25 a (by omega)) | replace oP := eSe.fr oP (fun a _ _ => fr_25 a (by omega)) | replace oP := z_25 oP | replace oP := z_25
    first | replace oS := eArr.fr oS (fr_25 _ (by omega)) | replace oS := Eq.trans (fr_25 _ (by omega)) oS | replace oS := eBo.fr oS (fr_25 _ (by omega)) | replace oS := ePp.fr1 oS (fun a _ _ => fr_25 a (by omega)) | replace oS := eNm.fr1 oS (fun a _ _ => fr_25 a (by omega)) | replace oS := eRg.fr oS (fun a _ _ => fr_25 a (by omega)) | replace oS := eTx.fr oS (fun a _ _ => fr_25 a (by omega)) | replace oS := ePa.fr oS (fun a _ _ => fr_25 a (by omega)) | replace oS := eRf.fr oS (fr_25 _ (by omega)) | replace oS := eSl.fr oS (fun a _ _ => fr_25 a (by omega)) | replace oS := eSe.fr oS (fun a _ _ => fr_25 a (by omega)) | replace oS := z_25 oS | replace oS := z_25
    first | replace oW := eArr.fr oW (fr_25 _ (by omega)) | replace oW := Eq.trans (fr_25 _ (by omega)) oW | replace oW := eBo.fr oW (fr_25 _ (by omega)) | replace oW := ePp.fr1 oW (fun a _ _ => fr_25 a (by omega)) | replace oW := eNm.fr1 oW (fun a _ _ => fr_25 a (by omega)) | replace oW := eRg.fr oW (fun a _ _ => fr_25 a (by omega)) | replace oW := eTx.fr oW (fun a _ _ => fr_25 a (by omega)) | replace oW := ePa.fr oW (fun a _ _ => fr_25 a (by omega)) | replace oW := eRf.fr oW (fr_25 _ (by omega)) | replace oW := eSl.fr oW (fun a _ _ => fr_25 a (by omega)) | replace oW := eSe.fr oW (fun a _ _ => fr_25 a (by omega)) | replace oW := z_25 oW | replace oW := z_25
    first | replace FR := eFr.trans FR (eFr.one fr_25 (by omega) (by omega)) | replace FR := eFr.trans FR (eFr.wide fr_25 (by omega) (by omega))
    refine ev_aload_n dX10_load_28 rfl rfl ?_
    refine ev_getfield dX10_load_29 fl_X10_29 (by first | assumption | omega | exact ePp.ob (by assumption) | exact eNm.ob (by assumption) | exact eRg.ob (by assumption) | exact eTx.ob (by assumption) | exact ePa.ob (by assumption) | exact eSe.ob (by assumption) | exact eSl.ob (by assumption)) rfl ?_
    refine ev_callVv dX10_load_32 (c_X3_forgetAll oP) rfl lk_X10_76 (by first | assumption | omega | exact ePp.ob (by assumption) | exact eNm.ob (by assumption) | exact eRg.ob (by assumption) | exact eTx.ob (by assumption) | exact ePa.ob (by assumption) | exact eSe.ob (by assumption) | exact eSl.ob (by assumption)) ⟨Nat.le_of_ble_eq_true rfl, Nat.le_of_ble_eq_true rfl⟩ rfl (Nat.le_of_ble_eq_true rfl) ⟨by first | exact Nat.le_of_ble_eq_true rfl | omega, by first | exact Nat.le_of_ble_eq_true rfl | omega⟩ (fun g_32 hg_32 => ?_)
    obtain ⟨w_32, fr_32⟩ := hg_32
    first | replace o0 := eArr.fr o0 (fr_32 _ (by omega)) | replace o0 := Eq.trans (fr_32 _ (by omega)) o0 | replace o0 := eBo.fr o0 (fr_32 _ (by omega)) | replace o0 := ePp.fr1 o0 (fun a _ _ => fr_32 a (by omega)) | replace o0 := eNm.fr1 o0 (fun a _ _ => fr_32 a (by omega)) | replace o0 := eRg.fr o0 (fun a _ _ => fr_32 a (by omega)) | replace o0 := eTx.fr o0 (fun a _ _ => fr_32 a (by omega)) | replace o0 := ePa.fr o0 (fun a _ _ => fr_32 a (by omega)) | replace o0 := eRf.fr o0 (fr_32 _ (by omega)) | replace o0 := eSl.fr o0 (fun a _ _ => fr_32 a (by omega)) | replace o0 := eSe.fr o0 (fun a _ _ => fr_32 a (by omega)) | replace o0 := z_32 o0 | replace o0 := z_32
    first | replace oT := eArr.fr oT (fr_32 _ (by omega)) | replace oT := Eq.trans (fr_32 _ (by omega)) oT | replace oT := eBo.fr oT (fr_32 _ (by omega)) | replace oT := ePp.fr1 oT (fun a _ _ => fr_32 a (by omega)) | replace oT := eNm.fr1 oT (fun a _ _ => fr_32 a (by omega)) | replace oT := eRg.fr oT (fun a _ _ => fr_32 a (by omega)) | replace oT := eTx.fr oT (fun a _ _ => fr_32 a (by omega)) | replace oT := ePa.fr oT (fun a _ _ => fr_32 a (by omega)) | replace oT := eRf.fr oT (fr_32 _ (by omega)) | replace oT := eSl.fr oT (fun a _ _ => fr_32 a (by omega)) | replace oT := eSe.fr oT (fun a _ _ => fr_32 a (by omega)) | replace oT := z_32 oT | replace oT := z_32
    first | replace oR := eArr.fr oR (fr_32 _ (by omega)) | replace oR := Eq.trans (fr_32 _ (by omega)) oR | replace oR := eBo.fr oR (fr_32 _ (by omega)) | replace oR := ePp.fr1 oR (fun a _ _ => fr_32 a (by omega)) | replace oR := eNm.fr1 oR (fun a _ _ => fr_32 a (by omega)) | replace oR := eRg.fr oR (fun a _ _ => fr_32 a (by omega)) | replace oR := eTx.fr oR (fun a _ _ => fr_32 a (by omega)) | replace oR := ePa.fr oR (fun a _ _ => fr_32 a (by omega)) | replace oR := eRf.fr oR (fr_32 _ (by omega)) | replace oR := eSl.fr oR (fun a _ _ => fr_32 a (by omega)) | replace oR := eSe.fr oR (fun a _ _ => fr_32 a (by omega)) | replace oR := z_32 oR | replace oR := z_32
    first | replace oR2 := eArr.fr oR2 (fr_32 _ (by omega)) | replace oR2 := Eq.trans (fr_32 _ (by omega)) oR2 | replace oR2 := eBo.fr oR2 (fr_32 _ (by omega)) | replace oR2 := ePp.fr1 oR2 (fun a _ _ => fr_32 a (by omega)) | replace oR2 := eNm.fr1 oR2 (fun a _ _ => fr_32 a (by omega)) | replace oR2 := eRg.fr oR2 (fun a _ _ => fr_32 a (by omega)) | replace oR2 := eTx.fr oR2 (fun a _ _ => fr_32 a (by omega)) | replace oR2 := ePa.fr oR2 (fun a _ _ => fr_32 a (by omega)) | replace oR2 := eRf.fr oR2 (fr_32 _ (by omega)) | replace oR2 := eSl.fr oR2 (fun a _ _ => fr_32 a (by omega)) | replace oR2 := eSe.fr oR2 (fun a _ _ => fr_32 a (by omega)) | replace oR2 := z_32 oR2 | replace oR2 := z_32
    replace oP := w_32
    first | replace oS := eArr.fr oS (fr_32 _ (by omega)) | replace oS := Eq.trans (fr_32 _ (by omega)) oS | replace oS := eBo.fr oS (fr_32 _ (by omega)) | replace oS := ePp.fr1 oS (fun a _ _ => fr_32 a (by omega)) | replace oS := eNm.fr1 oS (fun a _ _ => fr_32 a (by omega)) | replace oS := eRg.fr oS (fun a _ _ => fr_32 a (by omega)) | replace oS := eTx.fr oS (fun a _ _ => fr_32 a (by omega)) | replace oS := ePa.fr oS (fun a _ _ => fr_32 a (by omega)) | replace oS := eRf.fr oS (fr_32 _ (by omega)) | replace oS := eSl.fr oS (fun a _ _ => fr_32 a (by omega)) | replace oS := eSe.fr oS (fun a _ _ => fr_32 a (by omega)) | replace oS := z_32 oS | replace oS := z_32
    first | replace oW := eArr.fr oW (fr_32 _ (by omega)) | replace oW := Eq.trans (fr_32 _ (by omega)) oW | replace oW := eBo.fr oW (fr_32 _ (by omega)) | replace oW := ePp.fr1 oW (fun a _ _ => fr_32 a (by omega)) | replace oW := eNm.fr1 oW (fun a _ _ => fr_32 a (by omega)) | replace oW := eRg.fr oW (fun a _ _ => fr_32 a (by omega)) | replace oW := eTx.fr oW (fun a _ _ => fr_32 a (by omega)) | replace oW := ePa.fr oW (fun a _ _ => fr_32 a (by omega)) | replace oW := eRf.fr oW (fr_32 _ (by omega)) | replace oW := eSl.fr oW (fun a _ _ => fr_32 a (by omega)) | replace oW := eSe.fr oW (fun a _ _ => fr_32 a (by omega)) | replace oW := z_32 oW | replace oW := z_32
    first | replace FR := eFr.trans FR (eFr.one fr_32 (by omega) (by omega)) | replace FR := eFr.trans FR (eFr.wide fr_32 (by omega) (by omega))
    refine ev_aload_n dX10_load_35 rfl rfl ?_
    refine ev_getfield dX10_load_36 fl_X10_36 (by first | assumption | omega | exact ePp.ob (by assumption) | exact eNm.ob (by assumption) | exact eRg.ob (by assumption) | exact eTx.ob (by assumption) | exact ePa.ob (by assumption) | exact eSe.ob (by assumption) | exact eSl.ob (by assumption)) rfl ?_
    refine ev_callVv dX10_load_39 (c_X8_forgetAll oS) rfl lk_X10_79 (by first | assumption | omega | exact ePp.ob (by assumption) | exact eNm.ob (by assumption) | exact eRg.ob (by assumption) | exact eTx.ob (by assumption) | exact ePa.ob (by assumption) | exact eSe.ob (by assumption) | exact eSl.ob (by assumption)) ⟨Nat.le_of_ble_eq_true rfl, Nat.le_of_ble_eq_true rfl⟩ rfl (Nat.le_of_ble_eq_true rfl) ⟨by first | exact Nat.le_of_ble_eq_true rfl | omega, by first | exact Nat.le_of_ble_eq_true rfl | omega⟩ (fun g_39 hg_39 => ?_)
    obtain ⟨w_39, fr_39⟩ := hg_39
    first | replace o0 := eArr.fr o0 (fr_39 _ (by omega)) | replace o0 := Eq.trans (fr_39 _ (by omega)) o0 | replace o0 := eBo.fr o0 (fr_39 _ (by omega)) | replace o0 := ePp.fr1 o0 (fun a _ _ => fr_39 a (by omega)) | replace o0 := eNm.fr1 o0 (fun a _ _ => fr_39 a (by omega)) | replace o0 := eRg.fr o0 (fun a _ _ => fr_39 a (by omega)) | replace o0 := eTx.fr o0 (fun a _ _ => fr_39 a (by omega)) | replace o0 := ePa.fr o0 (fun a _ _ => fr_39 a (by omega)) | replace o0 := eRf.fr o0 (fr_39 _ (by omega)) | replace o0 := eSl.fr o0 (fun a _ _ => fr_39 a (by omega)) | replace o0 := eSe.fr o0 (fun a _ _ => fr_39 a (by omega)) | replace o0 := z_39 o0 | replace o0 := z_39
    first | replace oT := eArr.fr oT (fr_39 _ (by omega)) | replace oT := Eq.trans (fr_39 _ (by omega)) oT | replace oT := eBo.fr oT (fr_39 _ (by omega)) | replace oT := ePp.fr1 oT (fun a _ _ => fr_39 a (by omega)) | replace oT := eNm.fr1 oT (fun a _ _ => fr_39 a (by omega)) | replace oT := eRg.fr oT (fun a _ _ => fr_39 a (by omega)) | replace oT := eTx.fr oT (fun a _ _ => fr_39 a (by omega)) | replace oT := ePa.fr oT (fun a _ _ => fr_39 a (by omega)) | replace oT := eRf.fr oT (fr_39 _ (by omega)) | replace oT := eSl.fr oT (fun a _ _ => fr_39 a (by omega)) | replace oT := eSe.fr oT (fun a _ _ => fr_39 a (by omega)) | replace oT := z_39 oT | replace oT := z_39
    first | replace oR := eArr.fr oR (fr_39 _ (by omega)) | replace oR := Eq.trans (fr_39 _ (by omega)) oR | replace oR := eBo.fr oR (fr_39 _ (by omega)) | replace oR := ePp.fr1 oR (fun a _ _ => fr_39 a (by omega)) | replace oR := eNm.fr1 oR (fun a _ _ => fr_39 a (by omega)) | replace oR := eRg.fr oR (fun a _ _ => fr_39 a (by omega)) | replace oR := eTx.fr oR (fun a _ _ => fr_39 a (by omega)) | replace oR := ePa.fr oR (fun a _ _ => fr_39 a (by omega)) | replace oR := eRf.fr oR (fr_39 _ (by omega)) | replace oR := eSl.fr oR (fun a _ _ => fr_39 a (by omega)) | replace oR := eSe.fr oR (fun a _ _ => fr_39 a (by omega)) | replace oR := z_39 oR | replace oR := z_39
    first | replace oR2 := eArr.fr oR2 (fr_39 _ (by omega)) | replace oR2 := Eq.trans (fr_39 _ (by omega)) oR2 | replace oR2 := eBo.fr oR2 (fr_39 _ (by omega)) | replace oR2 := ePp.fr1 oR2 (fun a _ _ => fr_39 a (by omega)) | replace oR2 := eNm.fr1 oR2 (fun a _ _ => fr_39 a (by omega)) | replace oR2 := eRg.fr oR2 (fun a _ _ => fr_39 a (by omega)) | replace oR2 := eTx.fr oR2 (fun a _ _ => fr_39 a (by omega)) | replace oR2 := ePa.fr oR2 (fun a _ _ => fr_39 a (by omega)) | replace oR2 := eRf.fr oR2 (fr_39 _ (by omega)) | replace oR2 := eSl.fr oR2 (fun a _ _ => fr_39 a (by omega)) | replace oR2 := eSe.fr oR2 (fun a _ _ => fr_39 a (by omega)) | replace oR2 := z_39 oR2 | replace oR2 := z_39
    first | replace oP := eArr.fr oP (fr_39 _ (by omega)) | replace oP := Eq.trans (fr_39 _ (by omega)) oP | replace oP := eBo.fr oP (fr_39 _ (by omega)) | replace oP := ePp.fr1 oP (fun a _ _ => fr_39 a (by omega)) | replace oP := eNm.fr1 oP (fun a _ _ => fr_39 a (by omega)) | replace oP := eRg.fr oP (fun a _ _ => fr_39 a (by omega)) | replace oP := eTx.fr oP (fun a _ _ => fr_39 a (by omega)) | replace oP := ePa.fr oP (fun a _ _ => fr_39 a (by omega)) | replace oP := eRf.fr oP (fr_39 _ (by omega)) | replace oP := eSl.fr oP (fun a _ _ => fr_39 a (by omega)) | replace oP := eSe.fr oP (fun a _ _ => fr_39 a (by omega)) | replace oP := z_39 oP | replace oP := z_39
    replace oS := w_39
    first | replace oW := eArr.fr oW (fr_39 _ (by omega)) | replace oW := Eq.trans (fr_39 _ (by omega)) oW | replace oW := eBo.fr oW (fr_39 _ (by omega)) | replace oW := ePp.fr1 oW (fun a _ _ => fr_39 a (by omega)) | replace oW := eNm.fr1 oW (fun a _ _ => fr_39 a (by omega)) | replace oW := eRg.fr oW (fun a _ _ => fr_39 a (by omega)) | replace oW := eTx.fr oW (fun a _ _ => fr_39 a (by omega)) | replace oW := ePa.fr oW (fun a _ _ => fr_39 a (by omega)) | replace oW := eRf.fr oW (fr_39 _ (by omega)) | replace oW := eSl.fr oW (fun a _ _ => fr_39 a (by omega)) | replace oW := eSe.fr oW (fun a _ _ => fr_39 a (by omega)) | replace oW := z_39 oW | replace oW := z_39
    first | replace FR := eFr.trans FR (eFr.one fr_39 (by omega) (by omega)) | replace FR := eFr.trans FR (eFr.wide fr_39 (by omega) (by omega))
    refine ev_iconst (v := nI 0) dX10_load_42 rfl ?_
    refine ev_istore_n dX10_load_43 rfl (Nat.le_of_ble_eq_true rfl) ?_
    refine ev_aload_n dX10_load_44 rfl rfl ?_
    refine ev_getfield dX10_load_45 fl_X10_12 (by first | assumption | omega | exact ePp.ob (by assumption) | exact eNm.ob (by assumption) | exact eRg.ob (by assumption) | exact eTx.ob (by assumption) | exact ePa.ob (by assumption) | exact eSe.ob (by assumption) | exact eSl.ob (by assumption)) rfl ?_
    refine ev_callVi dX10_load_48 (c_X9_readHead oT) rfl lk_X10_80 (by first | assumption | omega | exact ePp.ob (by assumption) | exact eNm.ob (by assumption) | exact eRg.ob (by assumption) | exact eTx.ob (by assumption) | exact ePa.ob (by assumption) | exact eSe.ob (by assumption) | exact eSl.ob (by assumption)) ⟨Nat.le_of_ble_eq_true rfl, Nat.le_of_ble_eq_true rfl⟩ rfl (Nat.le_of_ble_eq_true rfl) ⟨by first | exact Nat.le_of_ble_eq_true rfl | omega, by first | exact Nat.le_of_ble_eq_true rfl | omega⟩ (fun g_48 hg_48 => ?_)
    obtain ⟨w_48, fr_48⟩ := hg_48
    first | replace o0 := eArr.fr o0 (fr_48 _ (by omega)) | replace o0 := Eq.trans (fr_48 _ (by omega)) o0 | replace o0 := eBo.fr o0 (fr_48 _ (by omega)) | replace o0 := ePp.fr1 o0 (fun a _ _ => fr_48 a (by omega)) | replace o0 := eNm.fr1 o0 (fun a _ _ => fr_48 a (by omega)) | replace o0 := eRg.fr o0 (fun a _ _ => fr_48 a (by omega)) | replace o0 := eTx.fr o0 (fun a _ _ => fr_48 a (by omega)) | replace o0 := ePa.fr o0 (fun a _ _ => fr_48 a (by omega)) | replace o0 := eRf.fr o0 (fr_48 _ (by omega)) | replace o0 := eSl.fr o0 (fun a _ _ => fr_48 a (by omega)) | replace o0 := eSe.fr o0 (fun a _ _ => fr_48 a (by omega)) | replace o0 := z_48 o0 | replace o0 := z_48
    replace oT := w_48
    first | replace oR := eArr.fr oR (fr_48 _ (by omega)) | replace oR := Eq.trans (fr_48 _ (by omega)) oR | replace oR := eBo.fr oR (fr_48 _ (by omega)) | replace oR := ePp.fr1 oR (fun a _ _ => fr_48 a (by omega)) | replace oR := eNm.fr1 oR (fun a _ _ => fr_48 a (by omega)) | replace oR := eRg.fr oR (fun a _ _ => fr_48 a (by omega)) | replace oR := eTx.fr oR (fun a _ _ => fr_48 a (by omega)) | replace oR := ePa.fr oR (fun a _ _ => fr_48 a (by omega)) | replace oR := eRf.fr oR (fr_48 _ (by omega)) | replace oR := eSl.fr oR (fun a _ _ => fr_48 a (by omega)) | replace oR := eSe.fr oR (fun a _ _ => fr_48 a (by omega)) | replace oR := z_48 oR | replace oR := z_48
    first | replace oR2 := eArr.fr oR2 (fr_48 _ (by omega)) | replace oR2 := Eq.trans (fr_48 _ (by omega)) oR2 | replace oR2 := eBo.fr oR2 (fr_48 _ (by omega)) | replace oR2 := ePp.fr1 oR2 (fun a _ _ => fr_48 a (by omega)) | replace oR2 := eNm.fr1 oR2 (fun a _ _ => fr_48 a (by omega)) | replace oR2 := eRg.fr oR2 (fun a _ _ => fr_48 a (by omega)) | replace oR2 := eTx.fr oR2 (fun a _ _ => fr_48 a (by omega)) | replace oR2 := ePa.fr oR2 (fun a _ _ => fr_48 a (by omega)) | replace oR2 := eRf.fr oR2 (fr_48 _ (by omega)) | replace oR2 := eSl.fr oR2 (fun a _ _ => fr_48 a (by omega)) | replace oR2 := eSe.fr oR2 (fun a _ _ => fr_48 a (by omega)) | replace oR2 := z_48 oR2 | replace oR2 := z_48
    first | replace oP := eArr.fr oP (fr_48 _ (by omega)) | replace oP := Eq.trans (fr_48 _ (by omega)) oP | replace oP := eBo.fr oP (fr_48 _ (by omega)) | replace oP := ePp.fr1 oP (fun a _ _ => fr_48 a (by omega)) | replace oP := eNm.fr1 oP (fun a _ _ => fr_48 a (by omega)) | replace oP := eRg.fr oP (fun a _ _ => fr_48 a (by omega)) | replace oP := eTx.fr oP (fun a _ _ => fr_48 a (by omega)) | replace oP := ePa.fr oP (fun a _ _ => fr_48 a (by omega)) | replace oP := eRf.fr oP (fr_48 _ (by omega)) | replace oP := eSl.fr oP (fun a _ _ => fr_48 a (by omega)) | replace oP := eSe.fr oP (fun a _ _ => fr_48 a (by omega)) | replace oP := z_48 oP | replace oP := z_48
    first | replace oS := eArr.fr oS (fr_48 _ (by omega)) | replace oS := Eq.trans (fr_48 _ (by omega)) oS | replace oS := eBo.fr oS (fr_48 _ (by omega)) | replace oS := ePp.fr1 oS (fun a _ _ => fr_48 a (by omega)) | replace oS := eNm.fr1 oS (fun a _ _ => fr_48 a (by omega)) | replace oS := eRg.fr oS (fun a _ _ => fr_48 a (by omega)) | replace oS := eTx.fr oS (fun a _ _ => fr_48 a (by omega)) | replace oS := ePa.fr oS (fun a _ _ => fr_48 a (by omega)) | replace oS := eRf.fr oS (fr_48 _ (by omega)) | replace oS := eSl.fr oS (fun a _ _ => fr_48 a (by omega)) | replace oS := eSe.fr oS (fun a _ _ => fr_48 a (by omega)) | replace oS := z_48 oS | replace oS := z_48
    first | replace oW := eArr.fr oW (fr_48 _ (by omega)) | replace oW := Eq.trans (fr_48 _ (by omega)) oW | replace oW := eBo.fr oW (fr_48 _ (by omega)) | replace oW := ePp.fr1 oW (fun a _ _ => fr_48 a (by omega)) | replace oW := eNm.fr1 oW (fun a _ _ => fr_48 a (by omega)) | replace oW := eRg.fr oW (fun a _ _ => fr_48 a (by omega)) | replace oW := eTx.fr oW (fun a _ _ => fr_48 a (by omega)) | replace oW := ePa.fr oW (fun a _ _ => fr_48 a (by omega)) | replace oW := eRf.fr oW (fr_48 _ (by omega)) | replace oW := eSl.fr oW (fun a _ _ => fr_48 a (by omega)) | replace oW := eSe.fr oW (fun a _ _ => fr_48 a (by omega)) | replace oW := z_48 oW | replace oW := z_48
    first | replace FR := eFr.trans FR (eFr.one fr_48 (by omega) (by omega)) | replace FR := eFr.trans FR (eFr.wide fr_48 (by omega) (by omega))
    have hh1 := tErr_head ((tErr_0 x ℓ u1 (0, 0, fun _ => 0)).trans he)
    have hsm2 := tHead_sm (x := x) (ℓ := ℓ) hsm1
    refine ev_pop dX10_load_51 rfl ?_
    refine ev_iconst (v := nI 0) dX10_load_52 rfl ?_
    refine ev_istore_n dX10_load_53 rfl (Nat.le_of_ble_eq_true rfl) ?_
    have H_54 : ∀ (d_54 : Nat) (i q : Nat) (g : eH) (kk : Option Nat) (w : Cur) (ψ : St), d_54 = 120 - i → (i ≤ 120) → (q ≤ i) → (sLd x ℓ (120 - i) w ψ q = sLd x ℓ 120 (1, 0, fun _ => 0) regNew 0) → (eIv ψ i) → (tSm w) → (eTx g (b + 1) x ℓ kk w) → (eRg g (b + 4) ψ) → (eFr g_48 g (b + 1) (b + 21)) → eV mX10_load 54 [(0, .ref b), (1, .int (nI q)), (2, .int (nI i))] [] (g, n, 0, 0) (.inl (some (.int (nI (sLd x ℓ 120 (1, 0, fun _ => 0) regNew 0).2))), (fun g => eNB g b (sLd x ℓ 120 (1, 0, fun _ => 0) regNew 0).1 x ℓ 0 τ (fun _ => 0) τs ∧ eFr h g b (b + 317)), some n) 0 0 := by
      intro d_54
      induction d_54 using Nat.strongRecOn with
      | _ d_54 ih_54 =>
      intro i q g kk w ψ hd_54 hi hq hw hJ hsw hg hgR F2
      have p0 := (F2 _ (by omega)).trans o0
      refine ev_iload_n dX10_load_54 rfl rfl ?_
      refine ev_bipush (v := nI 120) dX10_load_55 rfl ?_
      first | ((with_reducible show eV _ _ _ (Value.int (nI _) :: Value.int (nI _) :: _) _ _ _ _); refine ev_icmp_geN (tgt := 93) dX10_load_57 (by decide) (by omega) (by omega) (fun c_57 => ?_) (fun c_57 => ?_)) | ((with_reducible show eV _ _ _ (Value.int (nI _) :: _) _ _ _ _); refine ev_icmp_geZN (tgt := 93) dX10_load_57 (by decide) (by omega) (fun c_57 => ?_) (fun c_57 => ?_)) | ((with_reducible show eV _ _ _ (_ :: Value.int (nI _) :: _) _ _ _ _); refine ev_icmp_geNZ (tgt := 93) dX10_load_57 (by decide) (by omega) (fun c_57 => ?_) (fun c_57 => ?_)) | (refine ev_icmp_geZZ (tgt := 93) dX10_load_57 (by decide) (fun c_57 => ?_) (fun c_57 => ?_))
      · have key : sLd x ℓ 120 (1, 0, fun _ => 0) regNew 0 = (ψ, q) := by first | exact hw.symm.trans (sLd_stop c_67 _) | (rw [← hw, show 120 - i = 0 by omega]; rfl)
        refine ev_iload_n dX10_load_93 rfl rfl ?_
        exact ev_iret dX10_load_94 rfl rfl (by rw [key]) (by exact ⟨⟨p0, ⟨_, _, hg, by first | exact hsw | exact tCmd_sm hx hsw⟩, by rw [key]; exact hgR, ⟨ρ, oR2.fr (fun a _ _ => F2 a (by omega))⟩, ⟨f0, oP.fr (fun a _ _ => F2 a (by omega))⟩, oS.fr (fun a _ _ => F2 a (by omega)), ⟨wt, oW.fr (fun a _ _ => F2 a (by omega))⟩⟩, FR.trans (F2.wide (by omega) (by omega))⟩) (fun _ e => Option.some.inj e) (Nat.le_of_ble_eq_true rfl) (Nat.le_of_ble_eq_true rfl)
      · have e120 : 120 - i = (120 - (i + 1)) + 1 := by omega
        refine ev_aload_n dX10_load_60 rfl rfl ?_
        refine ev_getfield dX10_load_61 fl_X10_12 (by first | assumption | omega | exact ePp.ob (by assumption) | exact eNm.ob (by assumption) | exact eRg.ob (by assumption) | exact eTx.ob (by assumption) | exact ePa.ob (by assumption) | exact eSe.ob (by assumption) | exact eSl.ob (by assumption)) rfl ?_
        refine ev_callVi dX10_load_64 (c_X9_readCommand hg) rfl lk_X10_84 (by first | assumption | omega | exact ePp.ob (by assumption) | exact eNm.ob (by assumption) | exact eRg.ob (by assumption) | exact eTx.ob (by assumption) | exact ePa.ob (by assumption) | exact eSe.ob (by assumption) | exact eSl.ob (by assumption)) ⟨Nat.le_of_ble_eq_true rfl, Nat.le_of_ble_eq_true rfl⟩ rfl (Nat.le_of_ble_eq_true rfl) ⟨by first | exact Nat.le_of_ble_eq_true rfl | omega, by first | exact Nat.le_of_ble_eq_true rfl | omega⟩ (fun g_64 hg_64 => ?_)
        obtain ⟨w_64, fr_64⟩ := hg_64
        first | replace p0 := eArr.fr p0 (fr_64 _ (by omega)) | replace p0 := Eq.trans (fr_64 _ (by omega)) p0 | replace p0 := eBo.fr p0 (fr_64 _ (by omega)) | replace p0 := ePp.fr1 p0 (fun a _ _ => fr_64 a (by omega)) | replace p0 := eNm.fr1 p0 (fun a _ _ => fr_64 a (by omega)) | replace p0 := eRg.fr p0 (fun a _ _ => fr_64 a (by omega)) | replace p0 := eTx.fr p0 (fun a _ _ => fr_64 a (by omega)) | replace p0 := ePa.fr p0 (fun a _ _ => fr_64 a (by omega)) | replace p0 := eRf.fr p0 (fr_64 _ (by omega)) | replace p0 := eSl.fr p0 (fun a _ _ => fr_64 a (by omega)) | replace p0 := eSe.fr p0 (fun a _ _ => fr_64 a (by omega)) | replace p0 := z_64 p0 | replace p0 := z_64
        replace hg := w_64
        first | replace hgR := eArr.fr hgR (fr_64 _ (by omega)) | replace hgR := Eq.trans (fr_64 _ (by omega)) hgR | replace hgR := eBo.fr hgR (fr_64 _ (by omega)) | replace hgR := ePp.fr1 hgR (fun a _ _ => fr_64 a (by omega)) | replace hgR := eNm.fr1 hgR (fun a _ _ => fr_64 a (by omega)) | replace hgR := eRg.fr hgR (fun a _ _ => fr_64 a (by omega)) | replace hgR := eTx.fr hgR (fun a _ _ => fr_64 a (by omega)) | replace hgR := ePa.fr hgR (fun a _ _ => fr_64 a (by omega)) | replace hgR := eRf.fr hgR (fr_64 _ (by omega)) | replace hgR := eSl.fr hgR (fun a _ _ => fr_64 a (by omega)) | replace hgR := eSe.fr hgR (fun a _ _ => fr_64 a (by omega)) | replace hgR := z_64 hgR | replace hgR := z_64
        first | replace F2 := eFr.trans F2 (eFr.one fr_64 (by omega) (by omega)) | replace F2 := eFr.trans F2 (eFr.wide fr_64 (by omega) (by omega))
        first | ((with_reducible show eV _ _ _ (Value.int (bI _) :: _) _ _ _ _); refine ev_if_eqB (tgt := 93) dX10_load_67 (by decide) (fun c_67 => ?_) (fun c_67 => ?_)) | ((with_reducible show eV _ _ _ (Value.int (nI _) :: _) _ _ _ _); refine ev_if_eqN (tgt := 93) dX10_load_67 (by decide) (by omega) (fun c_67 => ?_) (fun c_67 => ?_)) | (refine ev_if_eqZ (tgt := 93) dX10_load_67 (by decide) (fun c_67 => ?_) (fun c_67 => ?_))
        · have key : sLd x ℓ 120 (1, 0, fun _ => 0) regNew 0 = (ψ, q) := by first | exact hw.symm.trans (sLd_stop c_67 _) | (rw [← hw, show 120 - i = 0 by omega]; rfl)
          refine ev_iload_n dX10_load_93 rfl rfl ?_
          exact ev_iret dX10_load_94 rfl rfl (by rw [key]) (by exact ⟨⟨p0, ⟨_, _, hg, by first | exact hsw | exact tCmd_sm hx hsw⟩, by rw [key]; exact hgR, ⟨ρ, oR2.fr (fun a _ _ => F2 a (by omega))⟩, ⟨f0, oP.fr (fun a _ _ => F2 a (by omega))⟩, oS.fr (fun a _ _ => F2 a (by omega)), ⟨wt, oW.fr (fun a _ _ => F2 a (by omega))⟩⟩, FR.trans (F2.wide (by omega) (by omega))⟩) (fun _ e => Option.some.inj e) (Nat.le_of_ble_eq_true rfl) (Nat.le_of_ble_eq_true rfl)
        · have hs2 := tCmd_sm (ℓ := ℓ) hx hsw
          refine ev_aload_n dX10_load_70 rfl rfl ?_
          refine ev_getfield dX10_load_71 fl_X10_19 (by first | assumption | omega | exact ePp.ob (by assumption) | exact eNm.ob (by assumption) | exact eRg.ob (by assumption) | exact eTx.ob (by assumption) | exact ePa.ob (by assumption) | exact eSe.ob (by assumption) | exact eSl.ob (by assumption)) rfl ?_
          refine ev_aload_n dX10_load_74 rfl rfl ?_
          refine ev_getfield dX10_load_75 fl_X10_12 (by first | assumption | omega | exact ePp.ob (by assumption) | exact eNm.ob (by assumption) | exact eRg.ob (by assumption) | exact eTx.ob (by assumption) | exact ePa.ob (by assumption) | exact eSe.ob (by assumption) | exact eSl.ob (by assumption)) rfl ?_
          refine ev_callVi dX10_load_78 (c_X5_obeys hgR hJ (by omega) hg (tHere_b hx) (tCmd_ct c_67) hs2) rfl lk_X10_87 (by first | assumption | omega | exact ePp.ob (by assumption) | exact eNm.ob (by assumption) | exact eRg.ob (by assumption) | exact eTx.ob (by assumption) | exact ePa.ob (by assumption) | exact eSe.ob (by assumption) | exact eSl.ob (by assumption)) ⟨Nat.le_of_ble_eq_true rfl, Nat.le_of_ble_eq_true rfl⟩ rfl (Nat.le_of_ble_eq_true rfl) ⟨by first | exact Nat.le_of_ble_eq_true rfl | omega, by first | exact Nat.le_of_ble_eq_true rfl | omega⟩ (fun g_78 hg_78 => ?_)
          obtain ⟨w_78, fr_78⟩ := hg_78
          first | replace p0 := eArr.fr p0 (fr_78 _ (by omega)) | replace p0 := Eq.trans (fr_78 _ (by omega)) p0 | replace p0 := eBo.fr p0 (fr_78 _ (by omega)) | replace p0 := ePp.fr1 p0 (fun a _ _ => fr_78 a (by omega)) | replace p0 := eNm.fr1 p0 (fun a _ _ => fr_78 a (by omega)) | replace p0 := eRg.fr p0 (fun a _ _ => fr_78 a (by omega)) | replace p0 := eTx.fr p0 (fun a _ _ => fr_78 a (by omega)) | replace p0 := ePa.fr p0 (fun a _ _ => fr_78 a (by omega)) | replace p0 := eRf.fr p0 (fr_78 _ (by omega)) | replace p0 := eSl.fr p0 (fun a _ _ => fr_78 a (by omega)) | replace p0 := eSe.fr p0 (fun a _ _ => fr_78 a (by omega)) | replace p0 := z_78 p0 | replace p0 := z_78
          first | replace hg := eArr.fr hg (fr_78 _ (by omega)) | replace hg := Eq.trans (fr_78 _ (by omega)) hg | replace hg := eBo.fr hg (fr_78 _ (by omega)) | replace hg := ePp.fr1 hg (fun a _ _ => fr_78 a (by omega)) | replace hg := eNm.fr1 hg (fun a _ _ => fr_78 a (by omega)) | replace hg := eRg.fr hg (fun a _ _ => fr_78 a (by omega)) | replace hg := eTx.fr hg (fun a _ _ => fr_78 a (by omega)) | replace hg := ePa.fr hg (fun a _ _ => fr_78 a (by omega)) | replace hg := eRf.fr hg (fr_78 _ (by omega)) | replace hg := eSl.fr hg (fun a _ _ => fr_78 a (by omega)) | replace hg := eSe.fr hg (fun a _ _ => fr_78 a (by omega)) | replace hg := z_78 hg | replace hg := z_78
          replace hgR := w_78
          first | replace F2 := eFr.trans F2 (eFr.one fr_78 (by omega) (by omega)) | replace F2 := eFr.trans F2 (eFr.wide fr_78 (by omega) (by omega))
          first | ((with_reducible show eV _ _ _ (Value.int (bI _) :: _) _ _ _ _); refine ev_if_neB (tgt := 87) dX10_load_81 (by decide) (fun c_81 => ?_) (fun c_81 => ?_)) | ((with_reducible show eV _ _ _ (Value.int (nI _) :: _) _ _ _ _); refine ev_if_neN (tgt := 87) dX10_load_81 (by decide) (by omega) (fun c_81 => ?_) (fun c_81 => ?_)) | (refine ev_if_neZ (tgt := 87) dX10_load_81 (by decide) (fun c_81 => ?_) (fun c_81 => ?_))
          · first | refine ev_iincN dX10_load_87 rfl (Nat.le_of_ble_eq_true rfl) ?_ | refine ev_iinc dX10_load_87 rfl rfl (Nat.le_of_ble_eq_true rfl) ?_
            refine ev_goto (tgt := 54) dX10_load_90 (by decide) ?_
            first | (exact (ih_54 _ (by omega) (i + 1) q _ _ _ _ rfl (by first | omega | assumption | rfl) (by first | omega | assumption | rfl) (by first | (rw [← hw, e120, sLd_y c_67, if_pos c_81]; done) | (rw [← hw, e120, sLd_y c_67, if_neg (by rw [c_81]; decide)]; done)) (by exact hJ.obey) (by exact hs2) (by first | omega | assumption | rfl) (by first | omega | assumption | rfl) (by first | omega | assumption | rfl)).sub1 ⟨rfl, rfl, rfl, trivial⟩ rfl) | (exact (ih_54 _ (by omega) (i + 1) (q + 1) _ _ _ _ rfl (by first | omega | assumption | rfl) (by first | omega | assumption | rfl) (by first | (rw [← hw, e120, sLd_y c_67, if_pos c_81]; done) | (rw [← hw, e120, sLd_y c_67, if_neg (by rw [c_81]; decide)]; done)) (by exact hJ.obey) (by exact hs2) (by first | omega | assumption | rfl) (by first | omega | assumption | rfl) (by first | omega | assumption | rfl)).sub1 ⟨rfl, rfl, rfl, trivial⟩ rfl)
          · first | refine ev_iincN dX10_load_84 rfl (Nat.le_of_ble_eq_true rfl) ?_ | refine ev_iinc dX10_load_84 rfl rfl (Nat.le_of_ble_eq_true rfl) ?_
            first | refine ev_iincN dX10_load_87 rfl (Nat.le_of_ble_eq_true rfl) ?_ | refine ev_iinc dX10_load_87 rfl rfl (Nat.le_of_ble_eq_true rfl) ?_
            refine ev_goto (tgt := 54) dX10_load_90 (by decide) ?_
            first | (exact (ih_54 _ (by omega) (i + 1) q _ _ _ _ rfl (by first | omega | assumption | rfl) (by first | omega | assumption | rfl) (by first | (rw [← hw, e120, sLd_y c_67, if_pos c_81]; done) | (rw [← hw, e120, sLd_y c_67, if_neg (by rw [c_81]; decide)]; done)) (by exact hJ.obey) (by exact hs2) (by first | omega | assumption | rfl) (by first | omega | assumption | rfl) (by first | omega | assumption | rfl)).sub1 ⟨rfl, rfl, rfl, trivial⟩ rfl) | (exact (ih_54 _ (by omega) (i + 1) (q + 1) _ _ _ _ rfl (by first | omega | assumption | rfl) (by first | omega | assumption | rfl) (by first | (rw [← hw, e120, sLd_y c_67, if_pos c_81]; done) | (rw [← hw, e120, sLd_y c_67, if_neg (by rw [c_81]; decide)]; done)) (by exact hJ.obey) (by exact hs2) (by first | omega | assumption | rfl) (by first | omega | assumption | rfl) (by first | omega | assumption | rfl)).sub1 ⟨rfl, rfl, rfl, trivial⟩ rfl)
    exact (H_54 _ 0 0 g_48 _ _ _ rfl (by omega) (by omega) (by exact sLd_e hh1) (by exact eIv_new) (by exact hsm2) (by exact oT) (by exact oR) (by exact eFr.rf)).sub1 ⟨rfl, rfl, rfl, trivial⟩ rfl
  · exact absurd ((tErr_0 x ℓ u0 (0, 0, fun _ => 0)).trans he) c_8
set_option maxHeartbeats 4000000 in
set_option maxRecDepth 20000 in
theorem c_X10_load_1 {h : eH} {n b ℓ c : Nat} {σ : St} {x : Nat → Nat} {τ τs : Nat → St} {us : Nat → Nat} (hO : eNB h b σ x ℓ c τ us τs) (he : tErr x ℓ (0, 0, fun _ => 0) ≠ none) : kX10_load [.ref b] h n (.inr "java/lang/IllegalStateException", (fun g => eNB g b σ x ℓ c τ us τs ∧ eFr h g b (b + 317)), none) 1 6 := by
  refine eM.of RX10 "load" [(0, .ref b)] pn_X10 rfl rfl (Nat.le_of_ble_eq_true rfl) rfl ?_
  obtain ⟨o0, ⟨k0, u0, oT, hsm⟩, oR, ⟨ρ, oR2⟩, ⟨f0, oP⟩, oS, ⟨wt, oW⟩⟩ := id hO
  have FR : eFr h h b (b + 317) := eFr.rf
  refine ev_aload_n dX10_load_0 rfl rfl ?_
  refine ev_getfield dX10_load_1 fl_X10_12 (by first | assumption | omega | exact ePp.ob (by assumption) | exact eNm.ob (by assumption) | exact eRg.ob (by assumption) | exact eTx.ob (by assumption) | exact ePa.ob (by assumption) | exact eSe.ob (by assumption) | exact eSl.ob (by assumption)) rfl ?_
  refine ev_callVi dX10_load_4 (c_X9_firstError oT hsm) rfl lk_X10_67 (by first | assumption | omega | exact ePp.ob (by assumption) | exact eNm.ob (by assumption) | exact eRg.ob (by assumption) | exact eTx.ob (by assumption) | exact ePa.ob (by assumption) | exact eSe.ob (by assumption) | exact eSl.ob (by assumption)) ⟨Nat.le_of_ble_eq_true rfl, Nat.le_of_ble_eq_true rfl⟩ rfl (Nat.le_of_ble_eq_true rfl) ⟨by first | exact Nat.le_of_ble_eq_true rfl | omega, by first | exact Nat.le_of_ble_eq_true rfl | omega⟩ (fun g_4 hg_4 => ?_)
  obtain ⟨w_4, fr_4⟩ := hg_4
  first | replace o0 := eArr.fr o0 (fr_4 _ (by omega)) | replace o0 := Eq.trans (fr_4 _ (by omega)) o0 | replace o0 := eBo.fr o0 (fr_4 _ (by omega)) | replace o0 := ePp.fr1 o0 (fun a _ _ => fr_4 a (by omega)) | replace o0 := eNm.fr1 o0 (fun a _ _ => fr_4 a (by omega)) | replace o0 := eRg.fr o0 (fun a _ _ => fr_4 a (by omega)) | replace o0 := eTx.fr o0 (fun a _ _ => fr_4 a (by omega)) | replace o0 := ePa.fr o0 (fun a _ _ => fr_4 a (by omega)) | replace o0 := eRf.fr o0 (fr_4 _ (by omega)) | replace o0 := eSl.fr o0 (fun a _ _ => fr_4 a (by omega)) | replace o0 := eSe.fr o0 (fun a _ _ => fr_4 a (by omega)) | replace o0 := z_4 o0 | replace o0 := z_4
  replace oT := w_4
  first | replace oR := eArr.fr oR (fr_4 _ (by omega)) | replace oR := Eq.trans (fr_4 _ (by omega)) oR | replace oR := eBo.fr oR (fr_4 _ (by omega)) | replace oR := ePp.fr1 oR (fun a _ _ => fr_4 a (by omega)) | replace oR := eNm.fr1 oR (fun a _ _ => fr_4 a (by omega)) | replace oR := eRg.fr oR (fun a _ _ => fr_4 a (by omega)) | replace oR := eTx.fr oR (fun a _ _ => fr_4 a (by omega)) | replace oR := ePa.fr oR (fun a _ _ => fr_4 a (by omega)) | replace oR := eRf.fr oR (fr_4 _ (by omega)) | replace oR := eSl.fr oR (fun a _ _ => fr_4 a (by omega)) | replace oR := eSe.fr oR (fun a _ _ => fr_4 a (by omega)) | replace oR := z_4 oR | replace oR := z_4
  first | replace oR2 := eArr.fr oR2 (fr_4 _ (by omega)) | replace oR2 := Eq.trans (fr_4 _ (by omega)) oR2 | replace oR2 := eBo.fr oR2 (fr_4 _ (by omega)) | replace oR2 := ePp.fr1 oR2 (fun a _ _ => fr_4 a (by omega)) | replace oR2 := eNm.fr1 oR2 (fun a _ _ => fr_4 a (by omega)) | replace oR2 := eRg.fr oR2 (fun a _ _ => fr_4 a (by omega)) | replace oR2 := eTx.fr oR2 (fun a _ _ => fr_4 a (by omega)) | replace oR2 := ePa.fr oR2 (fun a _ _ => fr_4 a (by omega)) | replace oR2 := eRf.fr oR2 (fr_4 _ (by omega)) | replace oR2 := eSl.fr oR2 (fun a _ _ => fr_4 a (by omega)) | replace oR2 := eSe.fr oR2 (fun a _ _ => fr_4 a (by omega)) | replace oR2 := z_4 oR2 | replace oR2 := z_4
  first | replace oP := eArr.fr oP (fr_4 _ (by omega)) | replace oP := Eq.trans (fr_4 _ (by omega)) oP | replace oP := eBo.fr oP (fr_4 _ (by omega)) | replace oP := ePp.fr1 oP (fun a _ _ => fr_4 a (by omega)) | replace oP := eNm.fr1 oP (fun a _ _ => fr_4 a (by omega)) | replace oP := eRg.fr oP (fun a _ _ => fr_4 a (by omega)) | replace oP := eTx.fr oP (fun a _ _ => fr_4 a (by omega)) | replace oP := ePa.fr oP (fun a _ _ => fr_4 a (by omega)) | replace oP := eRf.fr oP (fr_4 _ (by omega)) | replace oP := eSl.fr oP (fun a _ _ => fr_4 a (by omega)) | replace oP := eSe.fr oP (fun a _ _ => fr_4 a (by omega)) | replace oP := z_4 oP | replace oP := z_4
  first | replace oS := eArr.fr oS (fr_4 _ (by omega)) | replace oS := Eq.trans (fr_4 _ (by omega)) oS | replace oS := eBo.fr oS (fr_4 _ (by omega)) | replace oS := ePp.fr1 oS (fun a _ _ => fr_4 a (by omega)) | replace oS := eNm.fr1 oS (fun a _ _ => fr_4 a (by omega)) | replace oS := eRg.fr oS (fun a _ _ => fr_4 a (by omega)) | replace oS := eTx.fr oS (fun a _ _ => fr_4 a (by omega)) | replace oS := ePa.fr oS (fun a _ _ => fr_4 a (by omega)) | replace oS := eRf.fr oS (fr_4 _ (by omega)) | replace oS := eSl.fr oS (fun a _ _ => fr_4 a (by omega)) | replace oS := eSe.fr oS (fun a _ _ => fr_4 a (by omega)) | replace oS := z_4 oS | replace oS := z_4
  first | replace oW := eArr.fr oW (fr_4 _ (by omega)) | replace oW := Eq.trans (fr_4 _ (by omega)) oW | replace oW := eBo.fr oW (fr_4 _ (by omega)) | replace oW := ePp.fr1 oW (fun a _ _ => fr_4 a (by omega)) | replace oW := eNm.fr1 oW (fun a _ _ => fr_4 a (by omega)) | replace oW := eRg.fr oW (fun a _ _ => fr_4 a (by omega)) | replace oW := eTx.fr oW (fun a _ _ => fr_4 a (by omega)) | replace oW := ePa.fr oW (fun a _ _ => fr_4 a (by omega)) | replace oW := eRf.fr oW (fr_4 _ (by omega)) | replace oW := eSl.fr oW (fun a _ _ => fr_4 a (by omega)) | replace oW := eSe.fr oW (fun a _ _ => fr_4 a (by omega)) | replace oW := z_4 oW | replace oW := z_4
  first | replace FR := eFr.trans FR (eFr.one fr_4 (by omega) (by omega)) | replace FR := eFr.trans FR (eFr.wide fr_4 (by omega) (by omega))
  obtain ⟨k1, u1, oT, hsm1⟩ := oT
  refine ev_iconst (v := -1) dX10_load_7 (by decide) ?_
  first | ((with_reducible show eV _ _ _ (Value.int (nI _) :: Value.int (nI _) :: _) _ _ _ _); refine ev_icmp_eqN (tgt := 21) dX10_load_8 (by decide) (by first | exact hB _ _ | omega) (by first | exact hB _ _ | omega) (fun c_8 => ?_) (fun c_8 => ?_)) | ((with_reducible show eV _ _ _ (Value.int (-1) :: Value.int (oI _) :: _) _ _ _ _); refine ev_icmp_eqO (tgt := 21) dX10_load_8 (by decide) (by intro k9 h9; exact tErr_b h9) (fun c_8 => ?_) (fun c_8 => ?_)) | ((with_reducible show eV _ _ _ (Value.int (oI _) :: Value.int (nI _) :: _) _ _ _ _); refine ev_icmp_eqNO (tgt := 21) dX10_load_8 (by decide) (by first | exact hB _ _ | omega) (by intro k9 h9; exact tErr_b h9) (fun c_8 => ?_) (fun c_8 => ?_)) | ((with_reducible show eV _ _ _ (Value.int (nI _) :: Value.int (oI _) :: _) _ _ _ _); refine ev_icmp_eqON (tgt := 21) dX10_load_8 (by decide) (by first | exact hB _ _ | omega) (by intro k9 h9; exact tErr_b h9) (fun c_8 => ?_) (fun c_8 => ?_)) | ((with_reducible show eV _ _ _ (Value.int (nI _) :: _) _ _ _ _); refine ev_icmp_eqZN (tgt := 21) dX10_load_8 (by decide) (by first | exact hB _ _ | omega) (fun c_8 => ?_) (fun c_8 => ?_)) | ((with_reducible show eV _ _ _ (_ :: Value.int (nI _) :: _) _ _ _ _); refine ev_icmp_eqNZ (tgt := 21) dX10_load_8 (by decide) (by first | exact hB _ _ | omega) (fun c_8 => ?_) (fun c_8 => ?_)) | (refine ev_icmp_eqZZ (tgt := 21) dX10_load_8 (by decide) (fun c_8 => ?_) (fun c_8 => ?_))
  · exact absurd ((tErr_0 x ℓ (0, 0, fun _ => 0) u0).trans c_8) he
  · exact ev_throwS (text := "the text is not a registry") dX10_load_11 dX10_load_14 dX10_load_15 dX10_load_17 dX10_load_20 (by decide +kernel) (by decide +kernel) wk_X10_58 wi_java_lang_IllegalStateException (by decide +kernel) th_X10_62 tg_X10_58_62 rfl (Nat.le_of_ble_eq_true rfl) (Nat.le_of_ble_eq_true rfl) (Nat.le_of_ble_eq_true rfl) (Nat.le_of_ble_eq_true rfl) rfl (by exact ⟨⟨o0, ⟨k1, u1, oT, hsm1⟩, oR, ⟨ρ, oR2⟩, ⟨f0, oP⟩, oS, ⟨wt, oW⟩⟩, FR⟩)

