/-! small numbers are told, and how many -/
def tSm (u : Cur) : Prop := ∀ j, u.2.2 j < 2 ^ 30
theorem tTell_sm {u : Cur} {v : Nat} (h : tSm u) (hv : v < 2 ^ 30) : tSm (tTell u v).2 := by
  unfold tTell
  split
  · intro j
    show (if j = u.2.1 then v else u.2.2 j) < 2 ^ 30
    split
    · exact hv
    · exact h j
  · exact h
theorem tAnd_sm {r : Bool × Cur} {f : Cur → Bool × Cur} (h : tSm r.2) (hf : ∀ w, tSm w → tSm (f w).2) : tSm (tAnd r f).2 := by
  unfold tAnd
  split
  · exact hf _ h
  · exact h
theorem tSign_sm {x : Nat → Nat} {ℓ s : Nat} {u : Cur} (h : tSm u) : tSm (tSign x ℓ s u).2 := by
  unfold tSign
  split
  · exact h
  · exact h
theorem tDigit_sm {x : Nat → Nat} {ℓ lo hi : Nat} {u : Cur} (h : tSm u) (hh : hi < 1000) : tSm (tDigit x ℓ lo hi u).2 := by
  cases hd : tDig x ℓ u.1 lo hi with
  | none => rw [tDigit_n hd]; exact h
  | some d => rw [tDigit_y hd]; exact tTell_sm h (by have := (tDig_lt hd).2.2; omega)
theorem tPair_sm {x : Nat → Nat} {ℓ m : Nat} {u : Cur} (h : tSm u) (hh : m < 1000) : tSm (tPair x ℓ m u).2 := by
  cases ht : tDig x ℓ u.1 0 (m / 10) with
  | none => rw [tPair_n ht]; exact h
  | some t =>
    have h1 := (tDig_lt ht).2.2
    cases hd : tDig x ℓ (u.1 + 1) 0 (if t = m / 10 then m % 10 else 9) with
    | none => rw [tPair_m ht hd]; exact h
    | some d =>
      rw [tPair_y ht hd]
      refine tTell_sm h ?_
      have h2 := (tDig_lt hd).2.2
      have h3 : (if t = m / 10 then m % 10 else 9) ≤ 9 := by split <;> omega
      omega
theorem tLc_b {x : Nat → Nat} (hx : ∀ j, x j < 256) (p : Nat) : tLc x p 0 = 0 ∧ tLc x p 1 < 256 ∧ tLc x p 2 < 10000 ∧ tLc x p 3 < 300000 ∧ tLc x p 4 < 8000000 := by
  have h0 := hx (p + 0)
  have h1 := hx (p + 1)
  have h2 := hx (p + 2)
  have h3 := hx (p + 3)
  have e0 : tLc x p 0 = 0 := rfl
  have e1 : tLc x p 1 = tLc x p 0 * 26 + (x (p + 0) - 65) := rfl
  have e2 : tLc x p 2 = tLc x p 1 * 26 + (x (p + 1) - 65) := rfl
  have e3 : tLc x p 3 = tLc x p 2 * 26 + (x (p + 2) - 65) := rfl
  have e4 : tLc x p 4 = tLc x p 3 * 26 + (x (p + 3) - 65) := rfl
  omega
theorem tLm_le (x : Nat → Nat) (ℓ p : Nat) : tLm x ℓ p ≤ 4 := by
  unfold tLm
  split
  · exact Nat.le_refl 4
  · rename_i i hi; exact Nat.le_of_lt (fst_lt hi).1
theorem tLc_lt {x : Nat → Nat} (hx : ∀ j, x j < 256) (p : Nat) {i : Nat} (hi : i ≤ 4) : tLc x p i < 2 ^ 30 := by
  have h := tLc_b hx p
  match i, hi with
  | 0, _ => omega
  | 1, _ => omega
  | 2, _ => omega
  | 3, _ => omega
  | 4, _ => omega
theorem tLetters_sm {x : Nat → Nat} {ℓ : Nat} {u : Cur} (hx : ∀ j, x j < 256) (h : tSm u) : tSm (tLetters x ℓ u).2 := by
  unfold tLetters
  split
  · exact h
  · have h4 := tLm_le x ℓ u.1
    exact tAnd_sm (tAnd_sm (tTell_sm h (by omega)) (fun w hw => tTell_sm hw (tLc_lt hx _ h4))) (fun w hw => tSign_sm hw)
theorem tCmd_sm {x : Nat → Nat} {ℓ : Nat} {u : Cur} (hx : ∀ j, x j < 256) (h : tSm u) : tSm (tCmd x ℓ u).2 := by
  have h0 : tSm (u.1, 0, u.2.2) := h
  unfold tCmd
  split
  · exact tAnd_sm (tAnd_sm (tAnd_sm (tSign_sm h0) (fun w hw => tPair_sm hw (by decide))) (fun w hw => tDigit_sm hw (by decide))) (fun w hw => tDigit_sm hw (by decide))
  split
  · exact tAnd_sm (tAnd_sm (tAnd_sm (tSign_sm h0) (fun w hw => tPair_sm hw (by decide))) (fun w hw => tPair_sm hw (by decide))) (fun w hw => tLetters_sm hx hw)
  split
  · exact tAnd_sm (tAnd_sm (tSign_sm h0) (fun w hw => tDigit_sm hw (by decide))) (fun w hw => tLetters_sm hx hw)
  split
  · exact tAnd_sm (tSign_sm h0) (fun w hw => tDigit_sm hw (by decide))
  split
  · exact tAnd_sm (tAnd_sm (tSign_sm h0) (fun w hw => tPair_sm hw (by decide))) (fun w hw => tDigit_sm hw (by decide))
  split
  · exact tAnd_sm (tAnd_sm (tSign_sm h0) (fun w hw => tDigit_sm hw (by decide))) (fun w hw => tDigit_sm hw (by decide))
  · exact h0
def tCt (r : Bool × Cur) (c n : Nat) : Prop := r.1 = true → r.2.2.1 = c + n
theorem tAnd_ct {r : Bool × Cur} {f : Cur → Bool × Cur} {c n m : Nat} (h : tCt r c n) (hf : ∀ w : Cur, tCt (f w) w.2.1 m) : tCt (tAnd r f) c (n + m) := by
  intro e
  unfold tAnd at e ⊢
  split
  · rename_i q
    rw [if_pos q] at e
    have h1 := hf r.2 e
    have h2 := h q
    omega
  · rename_i q
    rw [if_neg q] at e
    cases e
theorem tTell_ct {u : Cur} {v : Nat} : tCt (tTell u v) u.2.1 1 := by
  intro e
  unfold tTell at e ⊢
  split
  · rfl
  · rename_i q; rw [if_neg q] at e; cases e
theorem tSign_ct {x : Nat → Nat} {ℓ s : Nat} {u : Cur} : tCt (tSign x ℓ s u) u.2.1 0 := by
  intro e
  unfold tSign at e ⊢
  split
  · rfl
  · rename_i q; rw [if_neg q] at e; cases e
theorem tDigit_ct {x : Nat → Nat} {ℓ lo hi : Nat} {u : Cur} : tCt (tDigit x ℓ lo hi u) u.2.1 1 := by
  cases hd : tDig x ℓ u.1 lo hi with
  | none => rw [tDigit_n hd]; intro e; cases e
  | some d => rw [tDigit_y hd]; exact tTell_ct (u := tGo u 1)
theorem tPair_ct {x : Nat → Nat} {ℓ m : Nat} {u : Cur} : tCt (tPair x ℓ m u) u.2.1 1 := by
  cases ht : tDig x ℓ u.1 0 (m / 10) with
  | none => rw [tPair_n ht]; intro e; cases e
  | some t =>
    cases hd : tDig x ℓ (u.1 + 1) 0 (if t = m / 10 then m % 10 else 9) with
    | none => rw [tPair_m ht hd]; intro e; cases e
    | some d => rw [tPair_y ht hd]; exact tTell_ct (u := tGo u 2)
theorem tLetters_ct {x : Nat → Nat} {ℓ : Nat} {u : Cur} : tCt (tLetters x ℓ u) u.2.1 2 := by
  unfold tLetters
  split
  · intro e; cases e
  · exact tAnd_ct (n := 2) (m := 0) (tAnd_ct (n := 1) (m := 1) (tTell_ct (u := tGo u (tLm x ℓ u.1))) (fun w => tTell_ct)) (fun w => tSign_ct)
/-- a command that is read tells as many numbers as its kind -/
theorem tCmd_ct {x : Nat → Nat} {ℓ : Nat} {u : Cur} (h : (tCmd x ℓ u).1 = true) : tKn (tHere x ℓ u.1) ≤ (tCmd x ℓ u).2.2.1 := by
  have key : tCt (tCmd x ℓ u) 0 (tKn (tHere x ℓ u.1)) := by
    unfold tCmd tKn
    split
    · exact tAnd_ct (n := 2) (m := 1) (tAnd_ct (n := 1) (m := 1) (tAnd_ct (n := 0) (m := 1) (tSign_ct (u := (u.1, 0, u.2.2))) (fun w => tPair_ct)) (fun w => tDigit_ct)) (fun w => tDigit_ct)
    split
    · exact tAnd_ct (n := 2) (m := 2) (tAnd_ct (n := 1) (m := 1) (tAnd_ct (n := 0) (m := 1) (tSign_ct (u := (u.1, 0, u.2.2))) (fun w => tPair_ct)) (fun w => tPair_ct)) (fun w => tLetters_ct)
    split
    · exact tAnd_ct (n := 1) (m := 2) (tAnd_ct (n := 0) (m := 1) (tSign_ct (u := (u.1, 0, u.2.2))) (fun w => tDigit_ct)) (fun w => tLetters_ct)
    split
    · exact tAnd_ct (n := 0) (m := 1) (tSign_ct (u := (u.1, 0, u.2.2))) (fun w => tDigit_ct)
    split
    · exact tAnd_ct (n := 1) (m := 1) (tAnd_ct (n := 0) (m := 1) (tSign_ct (u := (u.1, 0, u.2.2))) (fun w => tPair_ct)) (fun w => tDigit_ct)
    split
    · exact tAnd_ct (n := 1) (m := 1) (tAnd_ct (n := 0) (m := 1) (tSign_ct (u := (u.1, 0, u.2.2))) (fun w => tDigit_ct)) (fun w => tDigit_ct)
    · intro e; cases e
  have := key h
  omega
/-! a whole text -/
def tRun (x : Nat → Nat) (ℓ : Nat) : Nat → Cur → Bool × Cur
  | 0, u => (true, u)
  | n + 1, u => if u.1 < ℓ then (if (tCmd x ℓ u).1 = true then tRun x ℓ n (tCmd x ℓ u).2 else (false, (tCmd x ℓ u).2)) else (true, u)
def tErr (x : Nat → Nat) (ℓ : Nat) (u : Cur) : Option Nat := if (tHead x ℓ u).1 = false then some (tHead x ℓ u).2.1 else if (tRun x ℓ 120 (tHead x ℓ u).2).1 = true then none else some (tRun x ℓ 120 (tHead x ℓ u).2).2.1
theorem tRun_end {x : Nat → Nat} {ℓ n : Nat} {u : Cur} (h : ℓ ≤ u.1) : tRun x ℓ n u = (true, u) := by
  cases n with
  | zero => rfl
  | succ n => rw [tRun, if_neg (by omega)]
theorem tRun_y {x : Nat → Nat} {ℓ n : Nat} {u : Cur} (h : u.1 < ℓ) (h2 : (tCmd x ℓ u).1 = true) : tRun x ℓ (n + 1) u = tRun x ℓ n (tCmd x ℓ u).2 := by rw [tRun, if_pos h, if_pos h2]
theorem tRun_n {x : Nat → Nat} {ℓ n : Nat} {u : Cur} (h : u.1 < ℓ) (h2 : (tCmd x ℓ u).1 = false) : tRun x ℓ (n + 1) u = (false, (tCmd x ℓ u).2) := by rw [tRun, if_pos h, if_neg (by rw [h2]; decide)]
theorem tErr_h {x : Nat → Nat} {ℓ : Nat} {u : Cur} (h : (tHead x ℓ u).1 = false) : tErr x ℓ u = some (tHead x ℓ u).2.1 := if_pos h
theorem tErr_y {x : Nat → Nat} {ℓ : Nat} {u w : Cur} (h : (tHead x ℓ u).1 = true) (h2 : tRun x ℓ 120 (tHead x ℓ u).2 = (true, w)) : tErr x ℓ u = none := by unfold tErr; rw [if_neg (by rw [h]; decide), h2]; rfl
theorem tErr_n {x : Nat → Nat} {ℓ : Nat} {u w : Cur} (h : (tHead x ℓ u).1 = true) (h2 : tRun x ℓ 120 (tHead x ℓ u).2 = (false, w)) : tErr x ℓ u = some w.1 := by unfold tErr; rw [if_neg (by rw [h]; decide), h2]; rfl
theorem tHead_sm {x : Nat → Nat} {ℓ : Nat} {u : Cur} (h : tSm u) : tSm (tHead x ℓ u).2 := tSign_sm (u := (0, u.2)) h
set_option maxHeartbeats 4000000 in
set_option maxRecDepth 20000 in
theorem c_X9_firstError {h : eH} {n q : Nat} {x : Nat → Nat} {ℓ : Nat} {k : Option Nat} {u : Cur} (hT : eTx h q x ℓ k u) (hs : tSm u) : kX9_firstError [.ref q] h n (.inl (some (.int (oI (tErr x ℓ u)))), (fun g => (∃ k' u', eTx g q x ℓ k' u' ∧ tSm u') ∧ eFr h g q (q + 3)), some n) 0 0 := by
  refine eM.of RX9 "firstError" [(0, .ref q)] pn_X9 rfl rfl (Nat.le_of_ble_eq_true rfl) rfl ?_
  have FR : eFr h h q (q + 3) := eFr.rf
  have t4 := hT.2.2.2.2
  have hm := hT.2.1.1
  refine ev_aload_n dX9_firstError_0 rfl rfl ?_
  refine ev_callVi dX9_firstError_1 (c_X9_readHead hT) rfl lk_X9_32 (by first | assumption | omega | exact ePp.ob (by assumption) | exact eNm.ob (by assumption) | exact eRg.ob (by assumption) | exact eTx.ob (by assumption)) ⟨Nat.le_of_ble_eq_true rfl, Nat.le_of_ble_eq_true rfl⟩ rfl (Nat.le_of_ble_eq_true rfl) ⟨Nat.le_of_ble_eq_true rfl, Nat.le_of_ble_eq_true rfl⟩ (fun g_1 hg_1 => ?_)
  obtain ⟨w_1, fr_1⟩ := hg_1
  replace hT := w_1
  first | replace FR := eFr.trans FR (eFr.one fr_1 (by omega) (by omega)) | replace FR := eFr.trans FR (eFr.wide fr_1 (by omega) (by omega))
  first | ((with_reducible show eV _ _ _ (Value.int (bI _) :: _) _ _ _ _); refine ev_if_neB (tgt := 12) dX9_firstError_4 (by decide) (fun c_4 => ?_) (fun c_4 => ?_)) | ((with_reducible show eV _ _ _ (Value.int (nI _) :: _) _ _ _ _); refine ev_if_neN (tgt := 12) dX9_firstError_4 (by decide) (by first | exact hB _ _ | omega) (fun c_4 => ?_) (fun c_4 => ?_)) | (refine ev_if_neZ (tgt := 12) dX9_firstError_4 (by decide) (fun c_4 => ?_) (fun c_4 => ?_))
  · refine ev_iconst (v := nI 0) dX9_firstError_12 rfl ?_
    refine ev_istore_n dX9_firstError_13 rfl (Nat.le_of_ble_eq_true rfl) ?_
    have H_14 : ∀ (d_14 : Nat) (i : Nat) (g : eH) (kk : Option Nat) (w : Cur), d_14 = 120 - i → (i ≤ 120) → (tRun x ℓ (120 - i) w = tRun x ℓ 120 (tHead x ℓ u).2) → (eTx g q x ℓ kk w) → (tSm w) → (eFr h g q (q + 3)) → eV mX9_firstError 14 [(0, .ref q), (1, .int (nI i))] [] (g, n, 0, 0) (.inl (some (.int (oI (tErr x ℓ u)))), (fun g => (∃ k' u', eTx g q x ℓ k' u' ∧ tSm u') ∧ eFr h g q (q + 3)), some n) 0 0 := by
      intro d_14
      induction d_14 using Nat.strongRecOn with
      | _ d_14 ih_14 =>
      intro i g kk w hd_14 hi hw hg hsw FR
      obtain ⟨t0, t1, t2, t3, -⟩ := id hg
      refine ev_iload_n dX9_firstError_14 rfl rfl ?_
      refine ev_bipush (v := nI 120) dX9_firstError_15 rfl ?_
      first | ((with_reducible show eV _ _ _ (Value.int (nI _) :: Value.int (nI _) :: _) _ _ _ _); refine ev_icmp_geN (tgt := 49) dX9_firstError_17 (by decide) (by first | exact hB _ _ | omega) (by first | exact hB _ _ | omega) (fun c_17 => ?_) (fun c_17 => ?_)) | ((with_reducible show eV _ _ _ (Value.int (nI _) :: _) _ _ _ _); refine ev_icmp_geZN (tgt := 49) dX9_firstError_17 (by decide) (by first | exact hB _ _ | omega) (fun c_17 => ?_) (fun c_17 => ?_)) | ((with_reducible show eV _ _ _ (_ :: Value.int (nI _) :: _) _ _ _ _); refine ev_icmp_geNZ (tgt := 49) dX9_firstError_17 (by decide) (by first | exact hB _ _ | omega) (fun c_17 => ?_) (fun c_17 => ?_)) | (refine ev_icmp_geZZ (tgt := 49) dX9_firstError_17 (by decide) (fun c_17 => ?_) (fun c_17 => ?_))
      · refine ev_iconst (v := -1) dX9_firstError_49 (by decide) ?_
        exact ev_iret dX9_firstError_50 rfl rfl (by first | exact oRn (tErr_y (w := w) c_4 (by rw [← hw, tRun_end c_28])) | exact oRn (tErr_y (w := w) c_4 (by have e : 120 - i = 0 := (by omega); rw [← hw, e]; rfl))) (by exact ⟨⟨_, _, hg, hsw⟩, FR⟩) (fun _ e => Option.some.inj e) (Nat.le_of_ble_eq_true rfl) (Nat.le_of_ble_eq_true rfl)
      · refine ev_aload_n dX9_firstError_20 rfl rfl ?_
        refine ev_getfield dX9_firstError_21 fl_X9_19 (by first | assumption | omega | exact ePp.ob (by assumption) | exact eNm.ob (by assumption) | exact eRg.ob (by assumption) | exact eTx.ob (by assumption)) rfl ?_
        refine ev_aload_n dX9_firstError_24 rfl rfl ?_
        refine ev_getfield dX9_firstError_25 fl_X9_15 (by first | assumption | omega | exact ePp.ob (by assumption) | exact eNm.ob (by assumption) | exact eRg.ob (by assumption) | exact eTx.ob (by assumption)) rfl ?_
        first | ((with_reducible show eV _ _ _ (Value.int (nI _) :: Value.int (nI _) :: _) _ _ _ _); refine ev_icmp_geN (tgt := 49) dX9_firstError_28 (by decide) (by first | exact hB _ _ | omega) (by first | exact hB _ _ | omega) (fun c_28 => ?_) (fun c_28 => ?_)) | ((with_reducible show eV _ _ _ (Value.int (nI _) :: _) _ _ _ _); refine ev_icmp_geZN (tgt := 49) dX9_firstError_28 (by decide) (by first | exact hB _ _ | omega) (fun c_28 => ?_) (fun c_28 => ?_)) | ((with_reducible show eV _ _ _ (_ :: Value.int (nI _) :: _) _ _ _ _); refine ev_icmp_geNZ (tgt := 49) dX9_firstError_28 (by decide) (by first | exact hB _ _ | omega) (fun c_28 => ?_) (fun c_28 => ?_)) | (refine ev_icmp_geZZ (tgt := 49) dX9_firstError_28 (by decide) (fun c_28 => ?_) (fun c_28 => ?_))
        · refine ev_iconst (v := -1) dX9_firstError_49 (by decide) ?_
          exact ev_iret dX9_firstError_50 rfl rfl (by first | exact oRn (tErr_y (w := w) c_4 (by rw [← hw, tRun_end c_28])) | exact oRn (tErr_y (w := w) c_4 (by have e : 120 - i = 0 := (by omega); rw [← hw, e]; rfl))) (by exact ⟨⟨_, _, hg, hsw⟩, FR⟩) (fun _ e => Option.some.inj e) (Nat.le_of_ble_eq_true rfl) (Nat.le_of_ble_eq_true rfl)
        · have e120 : 120 - i = (120 - (i + 1)) + 1 := by omega
          refine ev_aload_n dX9_firstError_31 rfl rfl ?_
          refine ev_callVi dX9_firstError_32 (c_X9_readCommand hg) rfl lk_X9_36 (by first | assumption | omega | exact ePp.ob (by assumption) | exact eNm.ob (by assumption) | exact eRg.ob (by assumption) | exact eTx.ob (by assumption)) ⟨Nat.le_of_ble_eq_true rfl, Nat.le_of_ble_eq_true rfl⟩ rfl (Nat.le_of_ble_eq_true rfl) ⟨Nat.le_of_ble_eq_true rfl, Nat.le_of_ble_eq_true rfl⟩ (fun g_32 hg_32 => ?_)
          obtain ⟨w_32, fr_32⟩ := hg_32
          replace hg := w_32
          first | replace FR := eFr.trans FR (eFr.one fr_32 (by omega) (by omega)) | replace FR := eFr.trans FR (eFr.wide fr_32 (by omega) (by omega))
          first | ((with_reducible show eV _ _ _ (Value.int (bI _) :: _) _ _ _ _); refine ev_if_neB (tgt := 43) dX9_firstError_35 (by decide) (fun c_35 => ?_) (fun c_35 => ?_)) | ((with_reducible show eV _ _ _ (Value.int (nI _) :: _) _ _ _ _); refine ev_if_neN (tgt := 43) dX9_firstError_35 (by decide) (by first | exact hB _ _ | omega) (fun c_35 => ?_) (fun c_35 => ?_)) | (refine ev_if_neZ (tgt := 43) dX9_firstError_35 (by decide) (fun c_35 => ?_) (fun c_35 => ?_))
          · have hsw2 := tCmd_sm (ℓ := ℓ) t4 hsw
            first | refine ev_iincN dX9_firstError_43 rfl (Nat.le_of_ble_eq_true rfl) ?_ | refine ev_iinc dX9_firstError_43 rfl rfl (Nat.le_of_ble_eq_true rfl) ?_
            refine ev_goto (tgt := 14) dX9_firstError_46 (by decide) ?_
            exact (ih_14 _ (by omega) (i + 1) _ _ (tCmd x ℓ w).2 rfl (by first | omega | assumption | rfl) (by have e : 120 - i = (120 - (i + 1)) + 1 := (by omega); rw [← hw, e, tRun_y c_28 c_35]) (by first | omega | assumption | rfl) (by first | omega | assumption | rfl) (by first | omega | assumption | rfl)).sub1 ⟨rfl, rfl, trivial⟩ rfl
          · obtain ⟨y0, -⟩ := id hg
            refine ev_aload_n dX9_firstError_38 rfl rfl ?_
            refine ev_getfield dX9_firstError_39 fl_X9_19 (by first | assumption | omega | exact ePp.ob (by assumption) | exact eNm.ob (by assumption) | exact eRg.ob (by assumption) | exact eTx.ob (by assumption)) rfl ?_
            exact ev_iret dX9_firstError_42 rfl rfl (by exact oR (tErr_n (w := (tCmd x ℓ w).2) c_4 (by rw [← hw, e120, tRun_n c_28 c_35]))) (by exact ⟨⟨_, _, hg, tCmd_sm t4 hsw⟩, FR⟩) (fun _ e => Option.some.inj e) (Nat.le_of_ble_eq_true rfl) (Nat.le_of_ble_eq_true rfl)
    exact (H_14 _ 0 _ _ (tHead x ℓ u).2 rfl (by first | omega | assumption | rfl) (by rfl) (by first | omega | assumption | rfl) (by exact tHead_sm hs) (by first | omega | assumption | rfl)).sub1 ⟨rfl, rfl, trivial⟩ rfl
  · obtain ⟨t0, -⟩ := id hT
    refine ev_aload_n dX9_firstError_7 rfl rfl ?_
    refine ev_getfield dX9_firstError_8 fl_X9_19 (by first | assumption | omega | exact ePp.ob (by assumption) | exact eNm.ob (by assumption) | exact eRg.ob (by assumption) | exact eTx.ob (by assumption)) rfl ?_
    exact ev_iret dX9_firstError_11 rfl rfl (by exact oR (tErr_h c_4)) (by exact ⟨⟨_, _, hT, tHead_sm hs⟩, FR⟩) (fun _ e => Option.some.inj e) (Nat.le_of_ble_eq_true rfl) (Nat.le_of_ble_eq_true rfl)

