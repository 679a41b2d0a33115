/-! the text's reading: a cursor is a place, how many numbers are told, and these -/
abbrev Cur : Type := Nat × Nat × (Nat → Nat)
def tHere (x : Nat → Nat) (ℓ p : Nat) : Option Nat := if p < ℓ then some (x p) else none
def tDig (x : Nat → Nat) (ℓ p lo hi : Nat) : Option Nat := match tHere x ℓ p with
  | none => none
  | some s => if 48 + lo ≤ s ∧ s ≤ 48 + hi then some (s - 48) else none
def tGo (u : Cur) (n : Nat) : Cur := (u.1 + n, u.2)
def tTell (u : Cur) (v : Nat) : Bool × Cur := if u.2.1 < 4 then (true, (u.1, u.2.1 + 1, fun j => if j = u.2.1 then v else u.2.2 j)) else (false, u)
def tAnd (r : Bool × Cur) (f : Cur → Bool × Cur) : Bool × Cur := if r.1 = true then f r.2 else (false, r.2)
def tSign (x : Nat → Nat) (ℓ s : Nat) (u : Cur) : Bool × Cur := if tHere x ℓ u.1 = some s then (true, tGo u 1) else (false, u)
def tDigit (x : Nat → Nat) (ℓ lo hi : Nat) (u : Cur) : Bool × Cur := match tDig x ℓ u.1 lo hi with
  | none => (false, u)
  | some d => tTell (tGo u 1) d
def tPair (x : Nat → Nat) (ℓ most : Nat) (u : Cur) : Bool × Cur := match tDig x ℓ u.1 0 (most / 10) with
  | none => (false, u)
  | some t => match tDig x ℓ (u.1 + 1) 0 (if t = most / 10 then most % 10 else 9) with
    | none => (false, tGo u 1)
    | some d => tTell (tGo u 2) (10 * t + d)
def tAZ (x : Nat → Nat) (ℓ p : Nat) : Bool := match tHere x ℓ p with
  | none => false
  | some s => decide (65 ≤ s ∧ s ≤ 90)
def tLc (x : Nat → Nat) (p : Nat) : Nat → Nat
  | 0 => 0
  | i + 1 => tLc x p i * 26 + (x (p + i) - 65)
def tLm (x : Nat → Nat) (ℓ p : Nat) : Nat := match fst (fun i => !tAZ x ℓ (p + i)) 4 with
  | none => 4
  | some i => i
def tLetters (x : Nat → Nat) (ℓ : Nat) (u : Cur) : Bool × Cur := if tLm x ℓ u.1 = 0 then (false, u) else
  tAnd (tAnd (tTell (tGo u (tLm x ℓ u.1)) (tLm x ℓ u.1)) (fun w => tTell w (tLc x u.1 (tLm x ℓ u.1)))) (tSign x ℓ 46)
def tCmd (x : Nat → Nat) (ℓ : Nat) (u : Cur) : Bool × Cur :=
  if tHere x ℓ u.1 = some 112 then tAnd (tAnd (tAnd (tSign x ℓ 112 (u.1, 0, u.2.2)) (tPair x ℓ 99)) (tDigit x ℓ 0 5)) (tDigit x ℓ 0 3)
  else if tHere x ℓ u.1 = some 103 then tAnd (tAnd (tAnd (tSign x ℓ 103 (u.1, 0, u.2.2)) (tPair x ℓ 11)) (tPair x ℓ 11)) (tLetters x ℓ)
  else if tHere x ℓ u.1 = some 99 then tAnd (tAnd (tSign x ℓ 99 (u.1, 0, u.2.2)) (tDigit x ℓ 0 3)) (tLetters x ℓ)
  else if tHere x ℓ u.1 = some 121 then tAnd (tSign x ℓ 121 (u.1, 0, u.2.2)) (tDigit x ℓ 1 9)
  else if tHere x ℓ u.1 = some 98 then tAnd (tAnd (tSign x ℓ 98 (u.1, 0, u.2.2)) (tPair x ℓ 11)) (tDigit x ℓ 0 3)
  else if tHere x ℓ u.1 = some 115 then tAnd (tAnd (tSign x ℓ 115 (u.1, 0, u.2.2)) (tDigit x ℓ 0 2)) (tDigit x ℓ 0 9)
  else (false, (u.1, 0, u.2.2))
def tHead (x : Nat → Nat) (ℓ : Nat) (u : Cur) : Bool × Cur := tSign x ℓ 82 (0, u.2)
theorem tAnd_t {r : Bool × Cur} {f : Cur → Bool × Cur} (h : r.1 = true) : tAnd r f = f r.2 := if_pos h
theorem tAnd_f {r : Bool × Cur} {f : Cur → Bool × Cur} (h : r.1 = false) : tAnd r f = (false, r.2) := if_neg (by rw [h]; decide)
theorem tHere_lt {x : Nat → Nat} {ℓ p s : Nat} (h : tHere x ℓ p = some s) : p < ℓ ∧ x p = s := by
  unfold tHere at h
  split at h
  · rename_i q; cases h; exact ⟨q, rfl⟩
  · cases h
theorem tDig_lt {x : Nat → Nat} {ℓ p lo hi d : Nat} (h : tDig x ℓ p lo hi = some d) : p < ℓ ∧ lo ≤ d ∧ d ≤ hi := by
  unfold tDig at h
  split at h
  · cases h
  · rename_i s hs
    split at h
    · cases h; exact ⟨(tHere_lt hs).1, by omega, by omega⟩
    · cases h
/-- where the text lies: 3 cells from q on -/
def eTx (h : eH) (q : Nat) (x : Nat → Nat) (ℓ : Nat) (k : Option Nat) (u : Cur) : Prop :=
  h q = some (.inr (6, [.ref (q + 1), .int (nI ℓ), .int (nI u.1), .int (oI k), .ref (q + 2), .int (nI u.2.1)])) ∧ eArr h (q + 1) 1 120 ℓ x ∧ eArr h (q + 2) 0 4 u.2.1 u.2.2 ∧ u.1 ≤ 120 ∧ ∀ j, x j < 256
theorem eTx.ob {h : eH} {q : Nat} {x : Nat → Nat} {ℓ : Nat} {k : Option Nat} {u : Cur} (hT : eTx h q x ℓ k u) : h q = some (.inr (6, [.ref (q + 1), .int (nI ℓ), .int (nI u.1), .int (oI k), .ref (q + 2), .int (nI u.2.1)])) := hT.1
theorem eTx.fr {h g : eH} {q : Nat} {x : Nat → Nat} {ℓ : Nat} {k : Option Nat} {u : Cur} (hT : eTx h q x ℓ k u) (hg : ∀ a : Nat, q ≤ a → a < q + 3 → g a = h a) : eTx g q x ℓ k u := by
  obtain ⟨t0, t1, t2, t3, t4⟩ := hT
  exact ⟨by rw [hg q (by omega) (by omega)]; exact t0, t1.fr (hg _ (by omega) (by omega)), t2.fr (hg _ (by omega) (by omega)), t3, t4⟩
theorem tHere_b {x : Nat → Nat} {ℓ p : Nat} (hx : ∀ j, x j < 256) : ∀ k, tHere x ℓ p = some k → k < 2 ^ 31 := fun k hk => by
  have := (tHere_lt hk).2
  have := hx p
  omega
set_option maxHeartbeats 4000000 in
set_option maxRecDepth 20000 in
theorem c_X9_here {h : eH} {n q : Nat} {x : Nat → Nat} {ℓ : Nat} {k : Option Nat} {u : Cur} (hT : eTx h q x ℓ k u) : kX9_here [.ref q] h n (.inl (some (.int (oI (tHere x ℓ u.1)))), (· = h), some n) 0 0 := by
  refine eM.of RX9 "here" [(0, .ref q)] pn_X9 rfl rfl (Nat.le_of_ble_eq_true rfl) rfl ?_
  obtain ⟨t0, t1, t2, t3, t4⟩ := id hT
  have hm := t1.1
  refine ev_aload_n dX9_here_0 rfl rfl ?_
  refine ev_getfield dX9_here_1 fl_X9_19 (by first | assumption | omega | exact ePp.ob (by assumption) | exact eNm.ob (by assumption) | exact eRg.ob (by assumption)) rfl ?_
  refine ev_aload_n dX9_here_4 rfl rfl ?_
  refine ev_getfield dX9_here_5 fl_X9_15 (by first | assumption | omega | exact ePp.ob (by assumption) | exact eNm.ob (by assumption) | exact eRg.ob (by assumption)) rfl ?_
  first | ((with_reducible show eV _ _ _ (Value.int (nI _) :: Value.int (nI _) :: _) _ _ _ _); refine ev_icmp_geN (tgt := 23) dX9_here_8 (by decide) (by first | exact hB _ _ | omega) (by first | exact hB _ _ | omega) (fun c_8 => ?_) (fun c_8 => ?_)) | ((with_reducible show eV _ _ _ (Value.int (nI _) :: _) _ _ _ _); refine ev_icmp_geZN (tgt := 23) dX9_here_8 (by decide) (by first | exact hB _ _ | omega) (fun c_8 => ?_) (fun c_8 => ?_)) | ((with_reducible show eV _ _ _ (_ :: Value.int (nI _) :: _) _ _ _ _); refine ev_icmp_geNZ (tgt := 23) dX9_here_8 (by decide) (by first | exact hB _ _ | omega) (fun c_8 => ?_) (fun c_8 => ?_)) | (refine ev_icmp_geZZ (tgt := 23) dX9_here_8 (by decide) (fun c_8 => ?_) (fun c_8 => ?_))
  · refine ev_iconst (v := -1) dX9_here_23 (by decide) ?_
    exact ev_iret dX9_here_24 rfl rfl (by first | exact oR (by unfold tHere; rw [if_pos c_8]) | exact oRn (by unfold tHere; rw [if_neg (by omega)])) (by rfl) (fun _ e => Option.some.inj e) (Nat.le_of_ble_eq_true rfl) (Nat.le_of_ble_eq_true rfl)
  · refine ev_aload_n dX9_here_11 rfl rfl ?_
    refine ev_getfield dX9_here_12 fl_X9_9 (by first | assumption | omega | exact ePp.ob (by assumption) | exact eNm.ob (by assumption) | exact eRg.ob (by assumption)) rfl ?_
    refine ev_aload_n dX9_here_15 rfl rfl ?_
    refine ev_getfield dX9_here_16 fl_X9_19 (by first | assumption | omega | exact ePp.ob (by assumption) | exact eNm.ob (by assumption) | exact eRg.ob (by assumption)) rfl ?_
    refine ev_caloadA dX9_here_19 (by first | assumption | omega | exact ePp.ob (by assumption) | exact eNm.ob (by assumption) | exact eRg.ob (by assumption)) (by first | assumption | omega | exact ePp.ob (by assumption) | exact eNm.ob (by assumption) | exact eRg.ob (by assumption)) ?_
    refine ev_goto (tgt := 24) dX9_here_20 (by decide) ?_
    exact ev_iret dX9_here_24 rfl rfl (by first | exact oR (by unfold tHere; rw [if_pos c_8]) | exact oRn (by unfold tHere; rw [if_neg (by omega)])) (by rfl) (fun _ e => Option.some.inj e) (Nat.le_of_ble_eq_true rfl) (Nat.le_of_ble_eq_true rfl)
set_option maxHeartbeats 4000000 in
set_option maxRecDepth 20000 in
theorem c_X9_reads {h : eH} {n q : Nat} {x : Nat → Nat} {ℓ : Nat} {k : Option Nat} {u : Cur} (hT : eTx h q x ℓ k u) {s : Nat} (hs : s < 2 ^ 31) : kX9_reads [.ref q, .int (nI s)] h n (.inl (some (.int (bI (tSign x ℓ s u).1))), (fun g => eTx g q x ℓ k (tSign x ℓ s u).2 ∧ eFr h g q (q + 3)), some n) 0 0 := by
  refine eM.of RX9 "reads" [(0, .ref q), (1, .int (nI s))] pn_X9 rfl rfl (Nat.le_of_ble_eq_true rfl) rfl ?_
  obtain ⟨t0, t1, t2, t3, t4⟩ := id hT
  have hm := t1.1
  have FR : eFr h h q (q + 3) := eFr.rf
  refine ev_aload_n dX9_reads_0 rfl rfl ?_
  refine ev_callVi dX9_reads_1 (c_X9_here (by first | assumption | omega | exact eTx.ob (by assumption))) rfl lk_X9_43 (by first | assumption | omega | exact eTx.ob (by assumption)) ⟨Nat.le_of_ble_eq_true rfl, Nat.le_of_ble_eq_true rfl⟩ rfl (Nat.le_of_ble_eq_true rfl) ⟨Nat.le_of_ble_eq_true rfl, Nat.le_of_ble_eq_true rfl⟩ (eRo ?_)
  refine ev_iload_n dX9_reads_4 rfl rfl ?_
  first | ((with_reducible show eV _ _ _ (Value.int (nI _) :: Value.int (nI _) :: _) _ _ _ _); refine ev_icmp_eqN (tgt := 10) dX9_reads_5 (by decide) (by first | exact hB _ _ | omega) (by first | exact hB _ _ | omega) (fun c_5 => ?_) (fun c_5 => ?_)) | ((with_reducible show eV _ _ _ (Value.int (-1) :: Value.int (oI _) :: _) _ _ _ _); refine ev_icmp_eqO (tgt := 10) dX9_reads_5 (by decide) (by exact tHere_b t4) (fun c_5 => ?_) (fun c_5 => ?_)) | ((with_reducible show eV _ _ _ (Value.int (oI _) :: Value.int (nI _) :: _) _ _ _ _); refine ev_icmp_eqNO (tgt := 10) dX9_reads_5 (by decide) (by first | exact hB _ _ | omega) (by exact tHere_b t4) (fun c_5 => ?_) (fun c_5 => ?_)) | ((with_reducible show eV _ _ _ (Value.int (nI _) :: Value.int (oI _) :: _) _ _ _ _); refine ev_icmp_eqON (tgt := 10) dX9_reads_5 (by decide) (by first | exact hB _ _ | omega) (by exact tHere_b t4) (fun c_5 => ?_) (fun c_5 => ?_)) | ((with_reducible show eV _ _ _ (Value.int (nI _) :: _) _ _ _ _); refine ev_icmp_eqZN (tgt := 10) dX9_reads_5 (by decide) (by first | exact hB _ _ | omega) (fun c_5 => ?_) (fun c_5 => ?_)) | ((with_reducible show eV _ _ _ (_ :: Value.int (nI _) :: _) _ _ _ _); refine ev_icmp_eqNZ (tgt := 10) dX9_reads_5 (by decide) (by first | exact hB _ _ | omega) (fun c_5 => ?_) (fun c_5 => ?_)) | (refine ev_icmp_eqZZ (tgt := 10) dX9_reads_5 (by decide) (fun c_5 => ?_) (fun c_5 => ?_))
  · have hp := (tHere_lt c_5).1
    refine ev_aload_n dX9_reads_10 rfl rfl ?_
    refine ev_dup dX9_reads_11 rfl ?_
    refine ev_getfield dX9_reads_12 fl_X9_19 (by first | assumption | omega | exact eTx.ob (by assumption)) rfl ?_
    refine ev_iconst (v := nI 1) dX9_reads_15 rfl ?_
    first | refine ev_iaddN dX9_reads_16 ?_ | refine ev_iadd dX9_reads_16 ?_
    refine ev_putH dX9_reads_17 pl_X9_19 (by first | assumption | omega | exact eTx.ob (by assumption)) (Nat.le_of_ble_eq_true rfl) rfl rfl (fun g_17 fr_17 w_17 => ?_)
    replace t0 := w_17
    first | replace t1 := eArr.fr t1 (fr_17 _ (by omega)) | replace t1 := Eq.trans (fr_17 _ (by omega)) t1 | replace t1 := eBo.fr t1 (fr_17 _ (by omega)) | replace t1 := z_17 t1 | replace t1 := z_17 | replace t1 := ePp.fr1 t1 (fun a _ _ => fr_17 a (by omega)) | replace t1 := eNm.fr1 t1 (fun a _ _ => fr_17 a (by omega)) | replace t1 := eRg.fr t1 (fun a _ _ => fr_17 a (by omega))
    first | replace t2 := eArr.fr t2 (fr_17 _ (by omega)) | replace t2 := Eq.trans (fr_17 _ (by omega)) t2 | replace t2 := eBo.fr t2 (fr_17 _ (by omega)) | replace t2 := z_17 t2 | replace t2 := z_17 | replace t2 := ePp.fr1 t2 (fun a _ _ => fr_17 a (by omega)) | replace t2 := eNm.fr1 t2 (fun a _ _ => fr_17 a (by omega)) | replace t2 := eRg.fr t2 (fun a _ _ => fr_17 a (by omega))
    first | replace FR := eFr.trans FR (eFr.one fr_17 (by omega) (by omega)) | replace FR := eFr.trans FR (eFr.wide fr_17 (by omega) (by omega))
    refine ev_iconst (v := nI 1) dX9_reads_20 rfl ?_
    exact ev_iret dX9_reads_21 rfl (by first | rfl | exact bI_n _) (by exact bR1 (by unfold tSign; rw [if_pos c_5])) (by exact ⟨by unfold tSign; rw [if_pos c_5]; exact ⟨t0, t1, t2, by show u.1 + 1 ≤ 120; omega, t4⟩, FR⟩) (fun _ e => Option.some.inj e) (Nat.le_of_ble_eq_true rfl) (Nat.le_of_ble_eq_true rfl)
  · refine ev_iconst (v := nI 0) dX9_reads_8 rfl ?_
    exact ev_iret dX9_reads_9 rfl (by first | rfl | exact bI_n _) (by exact bR0 (by unfold tSign; rw [if_neg c_5])) (by exact ⟨by unfold tSign; rw [if_neg c_5]; exact hT, FR⟩) (fun _ e => Option.some.inj e) (Nat.le_of_ble_eq_true rfl) (Nat.le_of_ble_eq_true rfl)
set_option maxHeartbeats 4000000 in
set_option maxRecDepth 20000 in
theorem c_X9_readHead {h : eH} {n q : Nat} {x : Nat → Nat} {ℓ : Nat} {k : Option Nat} {u : Cur} (hT : eTx h q x ℓ k u) : kX9_readHead [.ref q] h n (.inl (some (.int (bI (tHead x ℓ u).1))), (fun g => eTx g q x ℓ k (tHead x ℓ u).2 ∧ eFr h g q (q + 3)), some n) 0 0 := by
  refine eM.of RX9 "readHead" [(0, .ref q)] pn_X9 rfl rfl (Nat.le_of_ble_eq_true rfl) rfl ?_
  obtain ⟨t0, t1, t2, t3, t4⟩ := id hT
  have FR : eFr h h q (q + 3) := eFr.rf
  refine ev_aload_n dX9_readHead_0 rfl rfl ?_
  refine ev_iconst (v := nI 0) dX9_readHead_1 rfl ?_
  refine ev_putH dX9_readHead_2 pl_X9_19 (by first | assumption | omega | exact eTx.ob (by assumption)) (Nat.le_of_ble_eq_true rfl) rfl rfl (fun g_2 fr_2 w_2 => ?_)
  replace t0 := w_2
  first | replace t1 := eArr.fr t1 (fr_2 _ (by omega)) | replace t1 := Eq.trans (fr_2 _ (by omega)) t1 | replace t1 := eBo.fr t1 (fr_2 _ (by omega)) | replace t1 := z_2 t1 | replace t1 := z_2 | replace t1 := ePp.fr1 t1 (fun a _ _ => fr_2 a (by omega)) | replace t1 := eNm.fr1 t1 (fun a _ _ => fr_2 a (by omega)) | replace t1 := eRg.fr t1 (fun a _ _ => fr_2 a (by omega))
  first | replace t2 := eArr.fr t2 (fr_2 _ (by omega)) | replace t2 := Eq.trans (fr_2 _ (by omega)) t2 | replace t2 := eBo.fr t2 (fr_2 _ (by omega)) | replace t2 := z_2 t2 | replace t2 := z_2 | replace t2 := ePp.fr1 t2 (fun a _ _ => fr_2 a (by omega)) | replace t2 := eNm.fr1 t2 (fun a _ _ => fr_2 a (by omega)) | replace t2 := eRg.fr t2 (fun a _ _ => fr_2 a (by omega))
  first | replace FR := eFr.trans FR (eFr.one fr_2 (by omega) (by omega)) | replace FR := eFr.trans FR (eFr.wide fr_2 (by omega) (by omega))
  have hT2 : eTx g_2 q x ℓ k (0, u.2) := ⟨t0, t1, t2, Nat.zero_le _, t4⟩
  refine ev_aload_n dX9_readHead_5 rfl rfl ?_
  refine ev_bipush (v := nI 82) dX9_readHead_6 rfl ?_
  refine ev_callVi dX9_readHead_8 (c_X9_reads hT2 (by decide)) rfl lk_X9_39 (by first | assumption | omega | exact eTx.ob (by assumption)) ⟨Nat.le_of_ble_eq_true rfl, Nat.le_of_ble_eq_true rfl⟩ rfl (Nat.le_of_ble_eq_true rfl) ⟨Nat.le_of_ble_eq_true rfl, Nat.le_of_ble_eq_true rfl⟩ (fun g_8 hg_8 => ?_)
  obtain ⟨w_8, fr_8⟩ := hg_8
  replace hT2 := w_8
  first | replace FR := eFr.trans FR (eFr.one fr_8 (by omega) (by omega)) | replace FR := eFr.trans FR (eFr.wide fr_8 (by omega) (by omega))
  exact ev_iret dX9_readHead_11 rfl (by first | rfl | exact bI_n _) (by rfl) (by exact ⟨hT2, FR⟩) (fun _ e => Option.some.inj e) (Nat.le_of_ble_eq_true rfl) (Nat.le_of_ble_eq_true rfl)
theorem tz_at {x : Nat → Nat} {ℓ p : Nat} (hx : ∀ j, x j < 256) : (oI (tHere x ℓ p) - nI 48).toInt = match tHere x ℓ p with | none => -49 | some s => (s : Int) - 48 := by
  cases hh : tHere x ℓ p with
  | none => show (oI none - nI 48).toInt = -49; decide
  | some s =>
    have := (tHere_lt hh).2
    have := hx p
    exact pk_sub_toInt (by omega) (by decide)
theorem tDig_y {x : Nat → Nat} {ℓ p lo hi : Nat} (hx : ∀ j, x j < 256) (h1 : (lo : Int) ≤ (oI (tHere x ℓ p) - nI 48).toInt) (h2 : (oI (tHere x ℓ p) - nI 48).toInt ≤ (hi : Int)) : ∃ d, tDig x ℓ p lo hi = some d ∧ oI (tHere x ℓ p) - nI 48 = nI d := by
  rw [tz_at hx] at h1 h2
  unfold tDig
  cases hh : tHere x ℓ p with
  | none => rw [hh] at h1; simp at h1; omega
  | some s =>
    rw [hh] at h1 h2
    simp only at h1 h2
    exact ⟨s - 48, if_pos (by omega), pk_sub (by omega)⟩
theorem tDig_n {x : Nat → Nat} {ℓ p lo hi : Nat} (hx : ∀ j, x j < 256) (h : (oI (tHere x ℓ p) - nI 48).toInt < (lo : Int) ∨ (hi : Int) < (oI (tHere x ℓ p) - nI 48).toInt) : tDig x ℓ p lo hi = none := by
  rw [tz_at hx] at h
  unfold tDig
  cases hh : tHere x ℓ p with
  | none => rfl
  | some s =>
    rw [hh] at h
    simp only at h
    exact if_neg (by omega)
def tStep (u : Cur) (o : Option Nat) : Cur := match o with
  | none => u
  | some _ => tGo u 1
set_option maxHeartbeats 4000000 in
set_option maxRecDepth 20000 in
theorem c_X9_takeDigit {h : eH} {n q : Nat} {x : Nat → Nat} {ℓ : Nat} {k : Option Nat} {u : Cur} (hT : eTx h q x ℓ k u) {lo hi : Nat} (hlo : lo < 2 ^ 31) (hhi : hi < 2 ^ 31) : kX9_takeDigit [.ref q, .int (nI lo), .int (nI hi)] h n (.inl (some (.int (oI (tDig x ℓ u.1 lo hi)))), (fun g => eTx g q x ℓ k (tStep u (tDig x ℓ u.1 lo hi)) ∧ eFr h g q (q + 3)), some n) 0 0 := by
  refine eM.of RX9 "takeDigit" [(0, .ref q), (1, .int (nI lo)), (2, .int (nI hi))] pn_X9 rfl rfl (Nat.le_of_ble_eq_true rfl) rfl ?_
  obtain ⟨t0, t1, t2, t3, t4⟩ := id hT
  have hm := t1.1
  have FR : eFr h h q (q + 3) := eFr.rf
  refine ev_aload_n dX9_takeDigit_0 rfl rfl ?_
  refine ev_callVi dX9_takeDigit_1 (c_X9_here (by first | assumption | omega | exact eTx.ob (by assumption))) rfl lk_X9_43 (by first | assumption | omega | exact eTx.ob (by assumption)) ⟨Nat.le_of_ble_eq_true rfl, Nat.le_of_ble_eq_true rfl⟩ rfl (Nat.le_of_ble_eq_true rfl) ⟨Nat.le_of_ble_eq_true rfl, Nat.le_of_ble_eq_true rfl⟩ (eRo ?_)
  refine ev_bipush (v := nI 48) dX9_takeDigit_4 rfl ?_
  refine ev_isub dX9_takeDigit_6 ?_
  refine ev_istore_n dX9_takeDigit_7 rfl (Nat.le_of_ble_eq_true rfl) ?_
  refine ev_iload_n dX9_takeDigit_8 rfl rfl ?_
  refine ev_iload_n dX9_takeDigit_9 rfl rfl ?_
  first | ((with_reducible show eV _ _ _ (Value.int (nI _) :: Value.int (nI _) :: _) _ _ _ _); refine ev_icmp_ltN (tgt := 18) dX9_takeDigit_10 (by decide) (by first | exact hB _ _ | omega) (by first | exact hB _ _ | omega) (fun c_10 => ?_) (fun c_10 => ?_)) | ((with_reducible show eV _ _ _ (Value.int (nI _) :: _) _ _ _ _); refine ev_icmp_ltZN (tgt := 18) dX9_takeDigit_10 (by decide) (by first | exact hB _ _ | omega) (fun c_10 => ?_) (fun c_10 => ?_)) | ((with_reducible show eV _ _ _ (_ :: Value.int (nI _) :: _) _ _ _ _); refine ev_icmp_ltNZ (tgt := 18) dX9_takeDigit_10 (by decide) (by first | exact hB _ _ | omega) (fun c_10 => ?_) (fun c_10 => ?_)) | (refine ev_icmp_ltZZ (tgt := 18) dX9_takeDigit_10 (by decide) (fun c_10 => ?_) (fun c_10 => ?_))
  · refine ev_iconst (v := -1) dX9_takeDigit_18 (by decide) ?_
    exact ev_iret dX9_takeDigit_19 rfl rfl (by first | exact oRn (tDig_n t4 (Or.inl c_10)) | exact oRn (tDig_n t4 (Or.inr c_15))) (by first | exact ⟨by rw [tDig_n t4 (Or.inl c_10)]; exact hT, FR⟩ | exact ⟨by rw [tDig_n t4 (Or.inr c_15)]; exact hT, FR⟩) (fun _ e => Option.some.inj e) (Nat.le_of_ble_eq_true rfl) (Nat.le_of_ble_eq_true rfl)
  · refine ev_iload_n dX9_takeDigit_13 rfl rfl ?_
    refine ev_iload_n dX9_takeDigit_14 rfl rfl ?_
    first | ((with_reducible show eV _ _ _ (Value.int (nI _) :: Value.int (nI _) :: _) _ _ _ _); refine ev_icmp_leN (tgt := 20) dX9_takeDigit_15 (by decide) (by first | exact hB _ _ | omega) (by first | exact hB _ _ | omega) (fun c_15 => ?_) (fun c_15 => ?_)) | ((with_reducible show eV _ _ _ (Value.int (nI _) :: _) _ _ _ _); refine ev_icmp_leZN (tgt := 20) dX9_takeDigit_15 (by decide) (by first | exact hB _ _ | omega) (fun c_15 => ?_) (fun c_15 => ?_)) | ((with_reducible show eV _ _ _ (_ :: Value.int (nI _) :: _) _ _ _ _); refine ev_icmp_leNZ (tgt := 20) dX9_takeDigit_15 (by decide) (by first | exact hB _ _ | omega) (fun c_15 => ?_) (fun c_15 => ?_)) | (refine ev_icmp_leZZ (tgt := 20) dX9_takeDigit_15 (by decide) (fun c_15 => ?_) (fun c_15 => ?_))
    · obtain ⟨d, hd, hd2⟩ := tDig_y t4 c_10 c_15
      have hp := (tDig_lt hd).1
      refine ev_aload_n dX9_takeDigit_20 rfl rfl ?_
      refine ev_dup dX9_takeDigit_21 rfl ?_
      refine ev_getfield dX9_takeDigit_22 fl_X9_19 (by first | assumption | omega | exact eTx.ob (by assumption)) rfl ?_
      refine ev_iconst (v := nI 1) dX9_takeDigit_25 rfl ?_
      first | refine ev_iaddN dX9_takeDigit_26 ?_ | refine ev_iadd dX9_takeDigit_26 ?_
      refine ev_putH dX9_takeDigit_27 pl_X9_19 (by first | assumption | omega | exact eTx.ob (by assumption)) (Nat.le_of_ble_eq_true rfl) rfl rfl (fun g_27 fr_27 w_27 => ?_)
      replace t0 := w_27
      first | replace t1 := eArr.fr t1 (fr_27 _ (by omega)) | replace t1 := Eq.trans (fr_27 _ (by omega)) t1 | replace t1 := eBo.fr t1 (fr_27 _ (by omega)) | replace t1 := z_27 t1 | replace t1 := z_27 | replace t1 := ePp.fr1 t1 (fun a _ _ => fr_27 a (by omega)) | replace t1 := eNm.fr1 t1 (fun a _ _ => fr_27 a (by omega)) | replace t1 := eRg.fr t1 (fun a _ _ => fr_27 a (by omega))
      first | replace t2 := eArr.fr t2 (fr_27 _ (by omega)) | replace t2 := Eq.trans (fr_27 _ (by omega)) t2 | replace t2 := eBo.fr t2 (fr_27 _ (by omega)) | replace t2 := z_27 t2 | replace t2 := z_27 | replace t2 := ePp.fr1 t2 (fun a _ _ => fr_27 a (by omega)) | replace t2 := eNm.fr1 t2 (fun a _ _ => fr_27 a (by omega)) | replace t2 := eRg.fr t2 (fun a _ _ => fr_27 a (by omega))
      first | replace FR := eFr.trans FR (eFr.one fr_27 (by omega) (by omega)) | replace FR := eFr.trans FR (eFr.wide fr_27 (by omega) (by omega))
      refine ev_iload_n dX9_takeDigit_30 rfl rfl ?_
      refine ev_top hd2 ?_
      exact ev_iret dX9_takeDigit_31 rfl rfl (by exact oR hd) (by exact ⟨by rw [hd]; exact ⟨t0, t1, t2, by show u.1 + 1 ≤ 120; omega, t4⟩, FR⟩) (fun _ e => Option.some.inj e) (Nat.le_of_ble_eq_true rfl) (Nat.le_of_ble_eq_true rfl)
    · refine ev_iconst (v := -1) dX9_takeDigit_18 (by decide) ?_
      exact ev_iret dX9_takeDigit_19 rfl rfl (by first | exact oRn (tDig_n t4 (Or.inl c_10)) | exact oRn (tDig_n t4 (Or.inr c_15))) (by first | exact ⟨by rw [tDig_n t4 (Or.inl c_10)]; exact hT, FR⟩ | exact ⟨by rw [tDig_n t4 (Or.inr c_15)]; exact hT, FR⟩) (fun _ e => Option.some.inj e) (Nat.le_of_ble_eq_true rfl) (Nat.le_of_ble_eq_true rfl)
set_option maxHeartbeats 4000000 in
set_option maxRecDepth 20000 in
theorem c_X9_tells {h : eH} {n q : Nat} {x : Nat → Nat} {ℓ : Nat} {k : Option Nat} {u : Cur} (hT : eTx h q x ℓ k u) {v : Nat} : kX9_tells [.ref q, .int (nI v)] h n (.inl (some (.int (bI (tTell u v).1))), (fun g => eTx g q x ℓ k (tTell u v).2 ∧ eFr h g q (q + 3)), some n) 0 0 := by
  refine eM.of RX9 "tells" [(0, .ref q), (1, .int (nI v))] pn_X9 rfl rfl (Nat.le_of_ble_eq_true rfl) rfl ?_
  obtain ⟨t0, t1, t2, t3, t4⟩ := id hT
  have hm := t2.1
  have FR : eFr h h q (q + 3) := eFr.rf
  refine ev_aload_n dX9_tells_0 rfl rfl ?_
  refine ev_getfield dX9_tells_1 fl_X9_29 (by first | assumption | omega | exact eTx.ob (by assumption)) rfl ?_
  refine ev_iconst (v := nI 4) dX9_tells_4 rfl ?_
  first | ((with_reducible show eV _ _ _ (Value.int (nI _) :: Value.int (nI _) :: _) _ _ _ _); refine ev_icmp_ltN (tgt := 10) dX9_tells_5 (by decide) (by first | exact hB _ _ | omega) (by first | exact hB _ _ | omega) (fun c_5 => ?_) (fun c_5 => ?_)) | ((with_reducible show eV _ _ _ (Value.int (nI _) :: _) _ _ _ _); refine ev_icmp_ltZN (tgt := 10) dX9_tells_5 (by decide) (by first | exact hB _ _ | omega) (fun c_5 => ?_) (fun c_5 => ?_)) | ((with_reducible show eV _ _ _ (_ :: Value.int (nI _) :: _) _ _ _ _); refine ev_icmp_ltNZ (tgt := 10) dX9_tells_5 (by decide) (by first | exact hB _ _ | omega) (fun c_5 => ?_) (fun c_5 => ?_)) | (refine ev_icmp_ltZZ (tgt := 10) dX9_tells_5 (by decide) (fun c_5 => ?_) (fun c_5 => ?_))
  · refine ev_aload_n dX9_tells_10 rfl rfl ?_
    refine ev_getfield dX9_tells_11 fl_X9_25 (by first | assumption | omega | exact eTx.ob (by assumption)) rfl ?_
    refine ev_aload_n dX9_tells_14 rfl rfl ?_
    refine ev_getfield dX9_tells_15 fl_X9_29 (by first | assumption | omega | exact eTx.ob (by assumption)) rfl ?_
    refine ev_iload_n dX9_tells_18 rfl rfl ?_
    refine ev_iastoreA dX9_tells_19 (by first | assumption | omega | exact eTx.ob (by assumption)) (by first | assumption | omega | exact eTx.ob (by assumption)) (fun g_19 fr_19 w_19 => ?_)
    first | replace t0 := eArr.fr t0 (fr_19 _ (by omega)) | replace t0 := Eq.trans (fr_19 _ (by omega)) t0 | replace t0 := eBo.fr t0 (fr_19 _ (by omega)) | replace t0 := z_19 t0 | replace t0 := z_19 | replace t0 := ePp.fr1 t0 (fun a _ _ => fr_19 a (by omega)) | replace t0 := eNm.fr1 t0 (fun a _ _ => fr_19 a (by omega)) | replace t0 := eRg.fr t0 (fun a _ _ => fr_19 a (by omega))
    first | replace t1 := eArr.fr t1 (fr_19 _ (by omega)) | replace t1 := Eq.trans (fr_19 _ (by omega)) t1 | replace t1 := eBo.fr t1 (fr_19 _ (by omega)) | replace t1 := z_19 t1 | replace t1 := z_19 | replace t1 := ePp.fr1 t1 (fun a _ _ => fr_19 a (by omega)) | replace t1 := eNm.fr1 t1 (fun a _ _ => fr_19 a (by omega)) | replace t1 := eRg.fr t1 (fun a _ _ => fr_19 a (by omega))
    replace t2 := w_19 _ (Or.inr ⟨rfl, rfl⟩)
    first | replace FR := eFr.trans FR (eFr.one fr_19 (by omega) (by omega)) | replace FR := eFr.trans FR (eFr.wide fr_19 (by omega) (by omega))
    refine ev_aload_n dX9_tells_20 rfl rfl ?_
    refine ev_dup dX9_tells_21 rfl ?_
    refine ev_getfield dX9_tells_22 fl_X9_29 (by first | assumption | omega | exact eTx.ob (by assumption)) rfl ?_
    refine ev_iconst (v := nI 1) dX9_tells_25 rfl ?_
    first | refine ev_iaddN dX9_tells_26 ?_ | refine ev_iadd dX9_tells_26 ?_
    refine ev_putH dX9_tells_27 pl_X9_29 (by first | assumption | omega | exact eTx.ob (by assumption)) (Nat.le_of_ble_eq_true rfl) rfl rfl (fun g_27 fr_27 w_27 => ?_)
    replace t0 := w_27
    first | replace t1 := eArr.fr t1 (fr_27 _ (by omega)) | replace t1 := Eq.trans (fr_27 _ (by omega)) t1 | replace t1 := eBo.fr t1 (fr_27 _ (by omega)) | replace t1 := z_27 t1 | replace t1 := z_27 | replace t1 := ePp.fr1 t1 (fun a _ _ => fr_27 a (by omega)) | replace t1 := eNm.fr1 t1 (fun a _ _ => fr_27 a (by omega)) | replace t1 := eRg.fr t1 (fun a _ _ => fr_27 a (by omega))
    first | replace t2 := eArr.fr t2 (fr_27 _ (by omega)) | replace t2 := Eq.trans (fr_27 _ (by omega)) t2 | replace t2 := eBo.fr t2 (fr_27 _ (by omega)) | replace t2 := z_27 t2 | replace t2 := z_27 | replace t2 := ePp.fr1 t2 (fun a _ _ => fr_27 a (by omega)) | replace t2 := eNm.fr1 t2 (fun a _ _ => fr_27 a (by omega)) | replace t2 := eRg.fr t2 (fun a _ _ => fr_27 a (by omega))
    first | replace FR := eFr.trans FR (eFr.one fr_27 (by omega) (by omega)) | replace FR := eFr.trans FR (eFr.wide fr_27 (by omega) (by omega))
    refine ev_iconst (v := nI 1) dX9_tells_30 rfl ?_
    exact ev_iret dX9_tells_31 rfl (by first | rfl | exact bI_n _) (by exact bR1 (by unfold tTell; rw [if_pos c_5])) (by exact ⟨by unfold tTell; rw [if_pos c_5]; exact ⟨t0, t1, t2, t3, t4⟩, FR⟩) (fun _ e => Option.some.inj e) (Nat.le_of_ble_eq_true rfl) (Nat.le_of_ble_eq_true rfl)
  · refine ev_iconst (v := nI 0) dX9_tells_8 rfl ?_
    exact ev_iret dX9_tells_9 rfl (by first | rfl | exact bI_n _) (by exact bR0 (by unfold tTell; rw [if_neg (by omega)])) (by exact ⟨by unfold tTell; rw [if_neg (by omega)]; exact hT, FR⟩) (fun _ e => Option.some.inj e) (Nat.le_of_ble_eq_true rfl) (Nat.le_of_ble_eq_true rfl)

