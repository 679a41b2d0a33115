/-! a text is read alike, whatever was told before -/
def tSa (u v : Cur) : Prop := u.1 = v.1 ∧ u.2.1 = v.2.1
def tEq (r s : Bool × Cur) : Prop := r.1 = s.1 ∧ tSa r.2 s.2
theorem tTell_q {u v : Cur} (h : tSa u v) (a : Nat) : tEq (tTell u a) (tTell v a) := by
  unfold tTell
  rw [h.2]
  split
  · exact ⟨rfl, h.1, rfl⟩
  · exact ⟨rfl, h⟩
theorem tGo_q {u v : Cur} (h : tSa u v) (a : Nat) : tSa (tGo u a) (tGo v a) := ⟨congrArg (· + a) h.1, h.2⟩
theorem tAnd_q {r s : Bool × Cur} {f : Cur → Bool × Cur} (h : tEq r s) (hf : ∀ u v, tSa u v → tEq (f u) (f v)) : tEq (tAnd r f) (tAnd s f) := by
  unfold tAnd
  rw [h.1]
  split
  · exact hf _ _ h.2
  · exact ⟨rfl, h.2⟩
theorem tSign_q {x : Nat → Nat} {ℓ s : Nat} {u v : Cur} (h : tSa u v) : tEq (tSign x ℓ s u) (tSign x ℓ s v) := by
  unfold tSign
  rw [h.1]
  split
  · exact ⟨rfl, tGo_q h 1⟩
  · exact ⟨rfl, h⟩
theorem tDigit_q {x : Nat → Nat} {ℓ lo hi : Nat} {u v : Cur} (h : tSa u v) : tEq (tDigit x ℓ lo hi u) (tDigit x ℓ lo hi v) := by
  cases hd : tDig x ℓ u.1 lo hi with
  | none => rw [tDigit_n hd, tDigit_n (h.1 ▸ hd)]; exact ⟨rfl, h⟩
  | some d => rw [tDigit_y hd, tDigit_y (h.1 ▸ hd)]; exact tTell_q (tGo_q h 1) d
theorem tPair_q {x : Nat → Nat} {ℓ m : Nat} {u v : Cur} (h : tSa u v) : tEq (tPair x ℓ m u) (tPair x ℓ m v) := by
  cases ht : tDig x ℓ u.1 0 (m / 10) with
  | none => rw [tPair_n ht, tPair_n (h.1 ▸ ht)]; exact ⟨rfl, h⟩
  | some t =>
    cases hd : tDig x ℓ (u.1 + 1) 0 (if t = m / 10 then m % 10 else 9) with
    | none => rw [tPair_m ht hd, tPair_m (h.1 ▸ ht) (h.1 ▸ hd)]; exact ⟨rfl, tGo_q h 1⟩
    | some d => rw [tPair_y ht hd, tPair_y (h.1 ▸ ht) (h.1 ▸ hd)]; exact tTell_q (tGo_q h 2) _
theorem tLetters_q {x : Nat → Nat} {ℓ : Nat} {u v : Cur} (h : tSa u v) : tEq (tLetters x ℓ u) (tLetters x ℓ v) := by
  unfold tLetters
  rw [h.1]
  split
  · exact ⟨rfl, h⟩
  · exact tAnd_q (tAnd_q (tTell_q (tGo_q h _) _) (fun a b hab => tTell_q hab _)) (fun a b hab => tSign_q hab)
theorem tCmd_q {x : Nat → Nat} {ℓ : Nat} {u v : Cur} (h : u.1 = v.1) : tEq (tCmd x ℓ u) (tCmd x ℓ v) := by
  have h0 : tSa (u.1, 0, u.2.2) (v.1, 0, v.2.2) := ⟨h, rfl⟩
  unfold tCmd
  rw [← h]
  have h0 : tSa (u.1, 0, u.2.2) (u.1, 0, v.2.2) := ⟨rfl, rfl⟩
  split
  · exact tAnd_q (tAnd_q (tAnd_q (tSign_q h0) (fun a b q => tPair_q q)) (fun a b q => tDigit_q q)) (fun a b q => tDigit_q q)
  split
  · exact tAnd_q (tAnd_q (tAnd_q (tSign_q h0) (fun a b q => tPair_q q)) (fun a b q => tPair_q q)) (fun a b q => tLetters_q q)
  split
  · exact tAnd_q (tAnd_q (tSign_q h0) (fun a b q => tDigit_q q)) (fun a b q => tLetters_q q)
  split
  · exact tAnd_q (tSign_q h0) (fun a b q => tDigit_q q)
  split
  · exact tAnd_q (tAnd_q (tSign_q h0) (fun a b q => tPair_q q)) (fun a b q => tDigit_q q)
  split
  · exact tAnd_q (tAnd_q (tSign_q h0) (fun a b q => tDigit_q q)) (fun a b q => tDigit_q q)
  · exact ⟨rfl, h0⟩
theorem tRun_q {x : Nat → Nat} {ℓ : Nat} : ∀ {n : Nat} {u v : Cur}, u.1 = v.1 → (tRun x ℓ n u).1 = (tRun x ℓ n v).1 ∧ (tRun x ℓ n u).2.1 = (tRun x ℓ n v).2.1
  | 0, u, v, h => ⟨rfl, h⟩
  | n + 1, u, v, h => by
    have q := tCmd_q (x := x) (ℓ := ℓ) h
    rw [tRun, tRun, h, q.1]
    split
    · split
      · exact tRun_q q.2.1
      · exact ⟨rfl, q.2.1⟩
    · exact ⟨rfl, h⟩
theorem tErr_0 (x : Nat → Nat) (ℓ : Nat) (u v : Cur) : tErr x ℓ u = tErr x ℓ v := by
  have h1 : (tHead x ℓ u).1 = (tHead x ℓ v).1 ∧ (tHead x ℓ u).2.1 = (tHead x ℓ v).2.1 := by
    unfold tHead tSign
    split
    · rename_i q
      exact ⟨rfl, rfl⟩
    · rename_i q
      exact ⟨rfl, rfl⟩
  have h2 := tRun_q (x := x) (ℓ := ℓ) (n := 120) h1.2
  unfold tErr
  rw [h1.1, h1.2, h2.1, h2.2]
set_option maxHeartbeats 4000000 in
set_option maxRecDepth 20000 in
theorem c_X10_errorPosition {h : eH} {n b ℓ c : Nat} {σ : St} {x : Nat → Nat} {τ τs : Nat → St} {us : Nat → Nat} (hO : eNB h b σ x ℓ c τ us τs) : kX10_errorPosition [.ref b] h n (.inl (some (.int (oI (tErr x ℓ (0, 0, fun _ => 0))))), (fun g => eNB g b σ x ℓ c τ us τs ∧ eFr h g b (b + 317)), some n) 0 0 := by
  refine eM.of RX10 "errorPosition" [(0, .ref b)] pn_X10 rfl rfl (Nat.le_of_ble_eq_true rfl) rfl ?_
  obtain ⟨o0, ⟨k, u, oT, hsm⟩, oR, ⟨ρ, oR2⟩, ⟨f, oP⟩, oS, ⟨wt, oW⟩⟩ := id hO
  have FR : eFr h h b (b + 317) := eFr.rf
  refine ev_aload_n dX10_errorPosition_0 rfl rfl ?_
  refine ev_getfield dX10_errorPosition_1 fl_X10_12 (by first | assumption | omega | exact ePp.ob (by assumption) | exact eNm.ob (by assumption) | exact eRg.ob (by assumption) | exact eTx.ob (by assumption) | exact ePa.ob (by assumption)) rfl ?_
  refine ev_callVi dX10_errorPosition_4 (c_X9_firstError oT hsm) rfl lk_X10_67 (by first | assumption | omega | exact ePp.ob (by assumption) | exact eNm.ob (by assumption) | exact eRg.ob (by assumption) | exact eTx.ob (by assumption) | exact ePa.ob (by assumption)) ⟨Nat.le_of_ble_eq_true rfl, Nat.le_of_ble_eq_true rfl⟩ rfl (Nat.le_of_ble_eq_true rfl) ⟨Nat.le_of_ble_eq_true rfl, Nat.le_of_ble_eq_true rfl⟩ (fun g_4 hg_4 => ?_)
  obtain ⟨w_4, fr_4⟩ := hg_4
  first | replace o0 := eArr.fr o0 (fr_4 _ (by omega)) | replace o0 := Eq.trans (fr_4 _ (by omega)) o0 | replace o0 := eBo.fr o0 (fr_4 _ (by omega)) | replace o0 := z_4 o0 | replace o0 := z_4 | replace o0 := ePp.fr1 o0 (fun a _ _ => fr_4 a (by omega)) | replace o0 := eNm.fr1 o0 (fun a _ _ => fr_4 a (by omega)) | replace o0 := eRg.fr o0 (fun a _ _ => fr_4 a (by omega)) | replace o0 := eTx.fr o0 (fun a _ _ => fr_4 a (by omega)) | replace o0 := ePa.fr o0 (fun a _ _ => fr_4 a (by omega)) | replace o0 := eRf.fr o0 (fr_4 _ (by omega)) | replace o0 := eSl.fr o0 (fun a _ _ => fr_4 a (by omega)) | replace o0 := eSe.fr o0 (fun a _ _ => fr_4 a (by omega))
  replace oT := w_4
  first | replace oR := eArr.fr oR (fr_4 _ (by omega)) | replace oR := Eq.trans (fr_4 _ (by omega)) oR | replace oR := eBo.fr oR (fr_4 _ (by omega)) | replace oR := z_4 oR | replace oR := z_4 | replace oR := ePp.fr1 oR (fun a _ _ => fr_4 a (by omega)) | replace oR := eNm.fr1 oR (fun a _ _ => fr_4 a (by omega)) | replace oR := eRg.fr oR (fun a _ _ => fr_4 a (by omega)) | replace oR := eTx.fr oR (fun a _ _ => fr_4 a (by omega)) | replace oR := ePa.fr oR (fun a _ _ => fr_4 a (by omega)) | replace oR := eRf.fr oR (fr_4 _ (by omega)) | replace oR := eSl.fr oR (fun a _ _ => fr_4 a (by omega)) | replace oR := eSe.fr oR (fun a _ _ => fr_4 a (by omega))
  first | replace oR2 := eArr.fr oR2 (fr_4 _ (by omega)) | replace oR2 := Eq.trans (fr_4 _ (by omega)) oR2 | replace oR2 := eBo.fr oR2 (fr_4 _ (by omega)) | replace oR2 := z_4 oR2 | replace oR2 := z_4 | replace oR2 := ePp.fr1 oR2 (fun a _ _ => fr_4 a (by omega)) | replace oR2 := eNm.fr1 oR2 (fun a _ _ => fr_4 a (by omega)) | replace oR2 := eRg.fr oR2 (fun a _ _ => fr_4 a (by omega)) | replace oR2 := eTx.fr oR2 (fun a _ _ => fr_4 a (by omega)) | replace oR2 := ePa.fr oR2 (fun a _ _ => fr_4 a (by omega)) | replace oR2 := eRf.fr oR2 (fr_4 _ (by omega)) | replace oR2 := eSl.fr oR2 (fun a _ _ => fr_4 a (by omega)) | replace oR2 := eSe.fr oR2 (fun a _ _ => fr_4 a (by omega))
  first | replace oP := eArr.fr oP (fr_4 _ (by omega)) | replace oP := Eq.trans (fr_4 _ (by omega)) oP | replace oP := eBo.fr oP (fr_4 _ (by omega)) | replace oP := z_4 oP | replace oP := z_4 | replace oP := ePp.fr1 oP (fun a _ _ => fr_4 a (by omega)) | replace oP := eNm.fr1 oP (fun a _ _ => fr_4 a (by omega)) | replace oP := eRg.fr oP (fun a _ _ => fr_4 a (by omega)) | replace oP := eTx.fr oP (fun a _ _ => fr_4 a (by omega)) | replace oP := ePa.fr oP (fun a _ _ => fr_4 a (by omega)) | replace oP := eRf.fr oP (fr_4 _ (by omega)) | replace oP := eSl.fr oP (fun a _ _ => fr_4 a (by omega)) | replace oP := eSe.fr oP (fun a _ _ => fr_4 a (by omega))
  first | replace oS := eArr.fr oS (fr_4 _ (by omega)) | replace oS := Eq.trans (fr_4 _ (by omega)) oS | replace oS := eBo.fr oS (fr_4 _ (by omega)) | replace oS := z_4 oS | replace oS := z_4 | replace oS := ePp.fr1 oS (fun a _ _ => fr_4 a (by omega)) | replace oS := eNm.fr1 oS (fun a _ _ => fr_4 a (by omega)) | replace oS := eRg.fr oS (fun a _ _ => fr_4 a (by omega)) | replace oS := eTx.fr oS (fun a _ _ => fr_4 a (by omega)) | replace oS := ePa.fr oS (fun a _ _ => fr_4 a (by omega)) | replace oS := eRf.fr oS (fr_4 _ (by omega)) | replace oS := eSl.fr oS (fun a _ _ => fr_4 a (by omega)) | replace oS := eSe.fr oS (fun a _ _ => fr_4 a (by omega))
  first | replace oW := eArr.fr oW (fr_4 _ (by omega)) | replace oW := Eq.trans (fr_4 _ (by omega)) oW | replace oW := eBo.fr oW (fr_4 _ (by omega)) | replace oW := z_4 oW | replace oW := z_4 | replace oW := ePp.fr1 oW (fun a _ _ => fr_4 a (by omega)) | replace oW := eNm.fr1 oW (fun a _ _ => fr_4 a (by omega)) | replace oW := eRg.fr oW (fun a _ _ => fr_4 a (by omega)) | replace oW := eTx.fr oW (fun a _ _ => fr_4 a (by omega)) | replace oW := ePa.fr oW (fun a _ _ => fr_4 a (by omega)) | replace oW := eRf.fr oW (fr_4 _ (by omega)) | replace oW := eSl.fr oW (fun a _ _ => fr_4 a (by omega)) | replace oW := eSe.fr oW (fun a _ _ => fr_4 a (by omega))
  first | replace FR := eFr.trans FR (eFr.one fr_4 (by omega) (by omega)) | replace FR := eFr.trans FR (eFr.wide fr_4 (by omega) (by omega))
  exact ev_iret dX10_errorPosition_7 rfl rfl (by rw [tErr_0 x ℓ u (0, 0, fun _ => 0)]) (by exact (by obtain ⟨k', u', hT', hs'⟩ := oT; exact ⟨⟨o0, ⟨k', u', hT', hs'⟩, oR, ⟨ρ, oR2⟩, ⟨f, oP⟩, oS, ⟨wt, oW⟩⟩, FR⟩)) (fun _ e => Option.some.inj e) (Nat.le_of_ble_eq_true rfl) (Nat.le_of_ble_eq_true rfl)

