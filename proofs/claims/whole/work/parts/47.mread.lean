/-! THE MODEL'S OBJECT: 9 cells from m on -/
def eMB (h : eH) (m bad c ℓ ap : Nat) (gd : Bool) (lo lr : Nat) : Prop := h m = some (.inr (8, [.int (nI bad), .ref (m + 1), .ref (m + 2), .ref (m + 3), .ref (m + 4), .int (nI c), .ref (m + 5), .ref (m + 6), .ref (m + 7), .ref (m + 8), .int (nI ℓ), .int (nI ap), .int (bI gd), .int (nI lo), .int (nI lr)]))
theorem eMB.ob {h : eH} {m bad c ℓ ap : Nat} {gd : Bool} {lo lr : Nat} (hM : eMB h m bad c ℓ ap gd lo lr) : h m = some (.inr (8, [.int (nI bad), .ref (m + 1), .ref (m + 2), .ref (m + 3), .ref (m + 4), .int (nI c), .ref (m + 5), .ref (m + 6), .ref (m + 7), .ref (m + 8), .int (nI ℓ), .int (nI ap), .int (bI gd), .int (nI lo), .int (nI lr)])) := hM
theorem eMB.fr {h g : eH} {m bad c ℓ ap : Nat} {gd : Bool} {lo lr : Nat} (hM : eMB h m bad c ℓ ap gd lo lr) (e : g m = h m) : eMB g m bad c ℓ ap gd lo lr := e.trans hM
def mTake (p : Nat) (g a : Bool) : Nat := if (g && a) = true then p + 1 else p
def mDg (x : Nat → Nat) (ℓ lo hi p : Nat) (g : Bool) : Nat × Bool × Nat := match tDig x ℓ p lo hi with
  | none => (p, false, lo)
  | some d => if g = true then (p + 1, true, d) else (p, false, lo)
theorem mDg_1 (x : Nat → Nat) (ℓ lo hi p : Nat) (g : Bool) : (mDg x ℓ lo hi p g).1 = mTake p g (tDig x ℓ p lo hi).isSome := by
  unfold mDg mTake
  cases tDig x ℓ p lo hi <;> cases g <;> rfl
theorem mDg_2 (x : Nat → Nat) (ℓ lo hi p : Nat) (g : Bool) : (mDg x ℓ lo hi p g).2.1 = (g && (tDig x ℓ p lo hi).isSome) := by
  unfold mDg
  cases tDig x ℓ p lo hi <;> cases g <;> rfl
theorem mDg_b {x : Nat → Nat} {ℓ lo hi p : Nat} {g : Bool} (h : lo ≤ hi) : lo ≤ (mDg x ℓ lo hi p g).2.2 ∧ (mDg x ℓ lo hi p g).2.2 ≤ hi := by
  unfold mDg
  cases ht : tDig x ℓ p lo hi with
  | none => exact ⟨Nat.le_refl _, h⟩
  | some d =>
    have := tDig_lt ht
    cases g
    · exact ⟨Nat.le_refl _, h⟩
    · exact ⟨this.2.1, this.2.2⟩
theorem mDg_p (x : Nat → Nat) (ℓ lo hi p : Nat) (g : Bool) : (mDg x ℓ lo hi p g).1 ≤ p + 1 := by
  rw [mDg_1]; unfold mTake; split <;> omega
def mTw (x : Nat → Nat) (ℓ most p : Nat) (g : Bool) : Nat × Bool × Nat :=
  ((mDg x ℓ 0 (if (mDg x ℓ 0 (most / 10) p g).2.2 = most / 10 then most % 10 else 9) (mDg x ℓ 0 (most / 10) p g).1 (mDg x ℓ 0 (most / 10) p g).2.1).1, (mDg x ℓ 0 (if (mDg x ℓ 0 (most / 10) p g).2.2 = most / 10 then most % 10 else 9) (mDg x ℓ 0 (most / 10) p g).1 (mDg x ℓ 0 (most / 10) p g).2.1).2.1, 10 * (mDg x ℓ 0 (most / 10) p g).2.2 + (mDg x ℓ 0 (if (mDg x ℓ 0 (most / 10) p g).2.2 = most / 10 then most % 10 else 9) (mDg x ℓ 0 (most / 10) p g).1 (mDg x ℓ 0 (most / 10) p g).2.1).2.2)
theorem mTw_b {x : Nat → Nat} {ℓ most p : Nat} {g : Bool} : (mTw x ℓ most p g).2.2 ≤ most := by
  have h1 := mDg_b (x := x) (ℓ := ℓ) (p := p) (g := g) (Nat.zero_le (most / 10))
  have h2 := mDg_b (x := x) (ℓ := ℓ) (p := (mDg x ℓ 0 (most / 10) p g).1) (g := (mDg x ℓ 0 (most / 10) p g).2.1) (Nat.zero_le (if (mDg x ℓ 0 (most / 10) p g).2.2 = most / 10 then most % 10 else 9))
  show 10 * _ + _ ≤ most
  by_cases z : (mDg x ℓ 0 (most / 10) p g).2.2 = most / 10
  · rw [if_pos z] at h2 ⊢; omega
  · rw [if_neg z] at h2 ⊢; omega
theorem mTw_p (x : Nat → Nat) (ℓ most p : Nat) (g : Bool) : (mTw x ℓ most p g).1 ≤ p + 2 := by
  have h1 := mDg_p x ℓ 0 (most / 10) p g
  have h2 := mDg_p x ℓ 0 (if (mDg x ℓ 0 (most / 10) p g).2.2 = most / 10 then most % 10 else 9) (mDg x ℓ 0 (most / 10) p g).1 (mDg x ℓ 0 (most / 10) p g).2.1
  show (mDg _ _ _ _ _ _).1 ≤ _
  omega
theorem tDig_ok {x : Nat → Nat} {ℓ p lo hi : Nat} (hx : ∀ j, x j < 256) (hlo : lo < 2 ^ 31) (hhi : hi < 2 ^ 31) : decide ((nI lo).toInt64.toInt ≤ (oI (tHere x ℓ p) - nI 48).toInt64.toInt ∧ (oI (tHere x ℓ p) - nI 48).toInt64.toInt ≤ (nI hi).toInt64.toInt) = (tDig x ℓ p lo hi).isSome := by
  rw [i2lZ, i2lZ, i2lZ, nI_toInt hlo, nI_toInt hhi]
  by_cases h1 : (lo : Int) ≤ (oI (tHere x ℓ p) - nI 48).toInt
  · by_cases h2 : (oI (tHere x ℓ p) - nI 48).toInt ≤ (hi : Int)
    · obtain ⟨d, hd, -⟩ := tDig_y hx h1 h2
      rw [hd, decide_eq_true ⟨h1, h2⟩]; rfl
    · rw [tDig_n hx (Or.inr (by omega)), decide_eq_false (fun z => h2 z.2)]; rfl
  · rw [tDig_n hx (Or.inl (by omega)), decide_eq_false (fun z => h1 z.1)]; rfl
theorem tDig_v {x : Nat → Nat} {ℓ p lo hi d : Nat} (hx : ∀ j, x j < 256) (h : tDig x ℓ p lo hi = some d) : oI (tHere x ℓ p) - nI 48 = nI d := by
  by_cases h1 : (lo : Int) ≤ (oI (tHere x ℓ p) - nI 48).toInt
  · by_cases h2 : (oI (tHere x ℓ p) - nI 48).toInt ≤ (hi : Int)
    · obtain ⟨e, he, h3⟩ := tDig_y hx h1 h2
      rw [h] at he; cases he; exact h3
    · rw [tDig_n hx (Or.inr (by omega))] at h; cases h
  · rw [tDig_n hx (Or.inl (by omega))] at h; cases h
theorem mDg_v0 {x : Nat → Nat} {ℓ lo hi p : Nat} {g : Bool} (h : (g && (tDig x ℓ p lo hi).isSome) = false) : (mDg x ℓ lo hi p g).2.2 = lo := by
  unfold mDg
  cases hd : tDig x ℓ p lo hi with
  | none => rfl
  | some d =>
    rw [hd] at h
    cases g
    · rfl
    · cases h
theorem mDg_v1 {x : Nat → Nat} {ℓ lo hi p : Nat} {g : Bool} (hx : ∀ j, x j < 256) (h : (g && (tDig x ℓ p lo hi).isSome) = true) : nI (mDg x ℓ lo hi p g).2.2 = oI (tHere x ℓ p) - nI 48 := by
  unfold mDg
  cases hd : tDig x ℓ p lo hi with
  | none => rw [hd] at h; cases g <;> cases h
  | some d =>
    rw [hd] at h
    cases g
    · cases h
    · exact (tDig_v hx hd).symm
set_option maxHeartbeats 4000000 in
set_option maxRecDepth 20000 in
theorem c_X11_here {h : eH} {n m bad c ℓ ap lo lr : Nat} {gd : Bool} {x : Nat → Nat} (hM : eMB h m bad c ℓ ap gd lo lr) (hX : eArr h (m + 8) 0 120 ℓ x) (hap : ap < 2 ^ 30) : kX11_here [.ref m] h n (.inl (some (.int (oI (tHere x ℓ ap)))), (· = h), some n) 0 0 := by
  refine eM.of RX11 "here" [(0, .ref m)] pn_X11 rfl rfl (Nat.le_of_ble_eq_true rfl) rfl ?_
  have h120 := hX.1
  refine ev_aload_n dX11_here_0 rfl rfl ?_
  refine ev_getfield dX11_here_1 fl_X11_124 (by first | assumption | omega | exact eMB.ob (by assumption)) rfl ?_
  refine ev_aload_n dX11_here_4 rfl rfl ?_
  refine ev_getfield dX11_here_5 fl_X11_117 (by first | assumption | omega | exact eMB.ob (by assumption)) rfl ?_
  first | ((with_reducible show eV _ _ _ (Value.int (nI _) :: Value.int (nI _) :: _) _ _ _ _); refine ev_icmp_geN (tgt := 23) dX11_here_8 (by decide) (by omega) (by omega) (fun c_8 => ?_) (fun c_8 => ?_)) | ((with_reducible show eV _ _ _ (Value.int (nI _) :: _) _ _ _ _); refine ev_icmp_geZN (tgt := 23) dX11_here_8 (by decide) (by omega) (fun c_8 => ?_) (fun c_8 => ?_)) | ((with_reducible show eV _ _ _ (_ :: Value.int (nI _) :: _) _ _ _ _); refine ev_icmp_geNZ (tgt := 23) dX11_here_8 (by decide) (by omega) (fun c_8 => ?_) (fun c_8 => ?_)) | (refine ev_icmp_geZZ (tgt := 23) dX11_here_8 (by decide) (fun c_8 => ?_) (fun c_8 => ?_))
  · refine ev_iconst (v := -1) dX11_here_23 (by decide) ?_
    exact ev_iret dX11_here_24 rfl rfl (by first | exact oRx (if_pos c_8) | exact oRn (if_neg (by omega))) (by rfl) (fun _ e => Option.some.inj e) (Nat.le_of_ble_eq_true rfl) (Nat.le_of_ble_eq_true rfl)
  · refine ev_aload_n dX11_here_11 rfl rfl ?_
    refine ev_getfield dX11_here_12 fl_X11_32 (by first | assumption | omega | exact eMB.ob (by assumption)) rfl ?_
    refine ev_aload_n dX11_here_15 rfl rfl ?_
    refine ev_getfield dX11_here_16 fl_X11_124 (by first | assumption | omega | exact eMB.ob (by assumption)) rfl ?_
    first | refine ev_rowS dX11_here_19 (by assumption) (by first | assumption | omega | exact eMB.ob (by assumption)) ?_ | refine ev_rowPV dX11_here_19 (by assumption) (by first | assumption | omega | exact eMB.ob (by assumption)) (by first | assumption | omega | exact eMB.ob (by assumption)) ?_ | refine ev_rowNV dX11_here_19 (by assumption) (by first | assumption | omega | exact eMB.ob (by assumption)) (by first | assumption | omega | exact eMB.ob (by assumption)) ?_ | refine ev_ialoadA dX11_here_19 (by first | assumption | omega | exact eMB.ob (by assumption)) (by first | assumption | omega | exact eMB.ob (by assumption)) ?_
    refine ev_goto (tgt := 24) dX11_here_20 (by decide) ?_
    exact ev_iret dX11_here_24 rfl rfl (by first | exact oRx (if_pos c_8) | exact oRn (if_neg (by omega))) (by rfl) (fun _ e => Option.some.inj e) (Nat.le_of_ble_eq_true rfl) (Nat.le_of_ble_eq_true rfl)
set_option maxHeartbeats 4000000 in
set_option maxRecDepth 20000 in
theorem c_X11_take {h : eH} {n m bad c ℓ ap lo lr : Nat} {gd a : Bool} (hM : eMB h m bad c ℓ ap gd lo lr) : kX11_take [.ref m, .int (bI a)] h n (.inl none, (fun g => eMB g m bad c ℓ (mTake ap gd a) (gd && a) lo lr ∧ eFr h g m (m + 1)), some n) 0 0 := by
  refine eM.of RX11 "take" [(0, .ref m), (1, .int (bI a))] pn_X11 rfl rfl (Nat.le_of_ble_eq_true rfl) rfl ?_
  have FR : eFr h h m (m + 1) := eFr.rf
  refine ev_aload_n dX11_take_0 rfl rfl ?_
  refine ev_aload_n dX11_take_1 rfl rfl ?_
  refine ev_getfield dX11_take_2 fl_X11_127 (by first | assumption | omega | exact eMB.ob (by assumption)) rfl ?_
  first | ((with_reducible show eV _ _ _ (Value.int (bI _) :: _) _ _ _ _); refine ev_if_eqB (tgt := 16) dX11_take_5 (by decide) (fun c_5 => ?_) (fun c_5 => ?_)) | ((with_reducible show eV _ _ _ (Value.int (nI _) :: _) _ _ _ _); refine ev_if_eqN (tgt := 16) dX11_take_5 (by decide) (by omega) (fun c_5 => ?_) (fun c_5 => ?_)) | (refine ev_if_eqZ (tgt := 16) dX11_take_5 (by decide) (fun c_5 => ?_) (fun c_5 => ?_))
  · refine ev_iconst (v := nI 0) dX11_take_16 rfl ?_
    refine ev_putH dX11_take_17 pl_X11_127 (by first | assumption | omega | exact eMB.ob (by assumption)) (Nat.le_of_ble_eq_true rfl) rfl rfl (fun g_17 fr_17 w_17 => ?_)
    replace hM := w_17
    first | replace FR := eFr.trans FR (eFr.one fr_17 (by omega) (by omega)) | replace FR := eFr.trans FR (eFr.wide fr_17 (by omega) (by omega))
    refine ev_aload_n dX11_take_20 rfl rfl ?_
    refine ev_dup dX11_take_21 rfl ?_
    refine ev_getfield dX11_take_22 fl_X11_124 (by first | assumption | omega | exact eMB.ob (by assumption)) rfl ?_
    refine ev_aload_n dX11_take_25 rfl rfl ?_
    refine ev_getfield dX11_take_26 fl_X11_127 (by first | assumption | omega | exact eMB.ob (by assumption)) rfl ?_
    first | ((with_reducible show eV _ _ _ (Value.int (bI _) :: _) _ _ _ _); refine ev_if_eqB (tgt := 36) dX11_take_29 (by decide) (fun c_29 => ?_) (fun c_29 => ?_)) | ((with_reducible show eV _ _ _ (Value.int (nI _) :: _) _ _ _ _); refine ev_if_eqN (tgt := 36) dX11_take_29 (by decide) (by omega) (fun c_29 => ?_) (fun c_29 => ?_)) | (refine ev_if_eqZ (tgt := 36) dX11_take_29 (by decide) (fun c_29 => ?_) (fun c_29 => ?_))
    · refine ev_iconst (v := nI 0) dX11_take_36 rfl ?_
      first | refine ev_iaddN dX11_take_37 ?_ | refine ev_iadd dX11_take_37 ?_
      refine ev_putH dX11_take_38 pl_X11_124 (by first | assumption | omega | exact eMB.ob (by assumption)) (Nat.le_of_ble_eq_true rfl) rfl rfl (fun g_38 fr_38 w_38 => ?_)
      replace hM := w_38
      first | replace FR := eFr.trans FR (eFr.one fr_38 (by omega) (by omega)) | replace FR := eFr.trans FR (eFr.wide fr_38 (by omega) (by omega))
      exact ev_vret dX11_take_41 rfl rfl (by first | exact absurd c_29 (by decide) | exact absurd rfl c_29 | (refine ⟨?_, FR⟩; first | (rw [c_5, c_9]; exact hM) | (rw [c_5]; exact hM))) (fun _ e => Option.some.inj e) (Nat.le_of_ble_eq_true rfl) (Nat.le_of_ble_eq_true rfl)
    · refine ev_iconst (v := nI 1) dX11_take_32 rfl ?_
      refine ev_goto (tgt := 37) dX11_take_33 (by decide) ?_
      first | refine ev_iaddN dX11_take_37 ?_ | refine ev_iadd dX11_take_37 ?_
      refine ev_putH dX11_take_38 pl_X11_124 (by first | assumption | omega | exact eMB.ob (by assumption)) (Nat.le_of_ble_eq_true rfl) rfl rfl (fun g_38 fr_38 w_38 => ?_)
      replace hM := w_38
      first | replace FR := eFr.trans FR (eFr.one fr_38 (by omega) (by omega)) | replace FR := eFr.trans FR (eFr.wide fr_38 (by omega) (by omega))
      exact ev_vret dX11_take_41 rfl rfl (by first | exact absurd c_29 (by decide) | exact absurd rfl c_29 | (refine ⟨?_, FR⟩; first | (rw [c_5, c_9]; exact hM) | (rw [c_5]; exact hM))) (fun _ e => Option.some.inj e) (Nat.le_of_ble_eq_true rfl) (Nat.le_of_ble_eq_true rfl)
  · refine ev_iload_n dX11_take_8 rfl rfl ?_
    first | ((with_reducible show eV _ _ _ (Value.int (bI _) :: _) _ _ _ _); refine ev_if_eqB (tgt := 16) dX11_take_9 (by decide) (fun c_9 => ?_) (fun c_9 => ?_)) | ((with_reducible show eV _ _ _ (Value.int (nI _) :: _) _ _ _ _); refine ev_if_eqN (tgt := 16) dX11_take_9 (by decide) (by omega) (fun c_9 => ?_) (fun c_9 => ?_)) | (refine ev_if_eqZ (tgt := 16) dX11_take_9 (by decide) (fun c_9 => ?_) (fun c_9 => ?_))
    · refine ev_iconst (v := nI 0) dX11_take_16 rfl ?_
      refine ev_putH dX11_take_17 pl_X11_127 (by first | assumption | omega | exact eMB.ob (by assumption)) (Nat.le_of_ble_eq_true rfl) rfl rfl (fun g_17 fr_17 w_17 => ?_)
      replace hM := w_17
      first | replace FR := eFr.trans FR (eFr.one fr_17 (by omega) (by omega)) | replace FR := eFr.trans FR (eFr.wide fr_17 (by omega) (by omega))
      refine ev_aload_n dX11_take_20 rfl rfl ?_
      refine ev_dup dX11_take_21 rfl ?_
      refine ev_getfield dX11_take_22 fl_X11_124 (by first | assumption | omega | exact eMB.ob (by assumption)) rfl ?_
      refine ev_aload_n dX11_take_25 rfl rfl ?_
      refine ev_getfield dX11_take_26 fl_X11_127 (by first | assumption | omega | exact eMB.ob (by assumption)) rfl ?_
      first | ((with_reducible show eV _ _ _ (Value.int (bI _) :: _) _ _ _ _); refine ev_if_eqB (tgt := 36) dX11_take_29 (by decide) (fun c_29 => ?_) (fun c_29 => ?_)) | ((with_reducible show eV _ _ _ (Value.int (nI _) :: _) _ _ _ _); refine ev_if_eqN (tgt := 36) dX11_take_29 (by decide) (by omega) (fun c_29 => ?_) (fun c_29 => ?_)) | (refine ev_if_eqZ (tgt := 36) dX11_take_29 (by decide) (fun c_29 => ?_) (fun c_29 => ?_))
      · refine ev_iconst (v := nI 0) dX11_take_36 rfl ?_
        first | refine ev_iaddN dX11_take_37 ?_ | refine ev_iadd dX11_take_37 ?_
        refine ev_putH dX11_take_38 pl_X11_124 (by first | assumption | omega | exact eMB.ob (by assumption)) (Nat.le_of_ble_eq_true rfl) rfl rfl (fun g_38 fr_38 w_38 => ?_)
        replace hM := w_38
        first | replace FR := eFr.trans FR (eFr.one fr_38 (by omega) (by omega)) | replace FR := eFr.trans FR (eFr.wide fr_38 (by omega) (by omega))
        exact ev_vret dX11_take_41 rfl rfl (by first | exact absurd c_29 (by decide) | exact absurd rfl c_29 | (refine ⟨?_, FR⟩; first | (rw [c_5, c_9]; exact hM) | (rw [c_5]; exact hM))) (fun _ e => Option.some.inj e) (Nat.le_of_ble_eq_true rfl) (Nat.le_of_ble_eq_true rfl)
      · refine ev_iconst (v := nI 1) dX11_take_32 rfl ?_
        refine ev_goto (tgt := 37) dX11_take_33 (by decide) ?_
        first | refine ev_iaddN dX11_take_37 ?_ | refine ev_iadd dX11_take_37 ?_
        refine ev_putH dX11_take_38 pl_X11_124 (by first | assumption | omega | exact eMB.ob (by assumption)) (Nat.le_of_ble_eq_true rfl) rfl rfl (fun g_38 fr_38 w_38 => ?_)
        replace hM := w_38
        first | replace FR := eFr.trans FR (eFr.one fr_38 (by omega) (by omega)) | replace FR := eFr.trans FR (eFr.wide fr_38 (by omega) (by omega))
        exact ev_vret dX11_take_41 rfl rfl (by first | exact absurd c_29 (by decide) | exact absurd rfl c_29 | (refine ⟨?_, FR⟩; first | (rw [c_5, c_9]; exact hM) | (rw [c_5]; exact hM))) (fun _ e => Option.some.inj e) (Nat.le_of_ble_eq_true rfl) (Nat.le_of_ble_eq_true rfl)
    · refine ev_iconst (v := nI 1) dX11_take_12 rfl ?_
      refine ev_goto (tgt := 17) dX11_take_13 (by decide) ?_
      refine ev_putH dX11_take_17 pl_X11_127 (by first | assumption | omega | exact eMB.ob (by assumption)) (Nat.le_of_ble_eq_true rfl) rfl rfl (fun g_17 fr_17 w_17 => ?_)
      replace hM := w_17
      first | replace FR := eFr.trans FR (eFr.one fr_17 (by omega) (by omega)) | replace FR := eFr.trans FR (eFr.wide fr_17 (by omega) (by omega))
      refine ev_aload_n dX11_take_20 rfl rfl ?_
      refine ev_dup dX11_take_21 rfl ?_
      refine ev_getfield dX11_take_22 fl_X11_124 (by first | assumption | omega | exact eMB.ob (by assumption)) rfl ?_
      refine ev_aload_n dX11_take_25 rfl rfl ?_
      refine ev_getfield dX11_take_26 fl_X11_127 (by first | assumption | omega | exact eMB.ob (by assumption)) rfl ?_
      first | ((with_reducible show eV _ _ _ (Value.int (bI _) :: _) _ _ _ _); refine ev_if_eqB (tgt := 36) dX11_take_29 (by decide) (fun c_29 => ?_) (fun c_29 => ?_)) | ((with_reducible show eV _ _ _ (Value.int (nI _) :: _) _ _ _ _); refine ev_if_eqN (tgt := 36) dX11_take_29 (by decide) (by omega) (fun c_29 => ?_) (fun c_29 => ?_)) | (refine ev_if_eqZ (tgt := 36) dX11_take_29 (by decide) (fun c_29 => ?_) (fun c_29 => ?_))
      · refine ev_iconst (v := nI 0) dX11_take_36 rfl ?_
        first | refine ev_iaddN dX11_take_37 ?_ | refine ev_iadd dX11_take_37 ?_
        refine ev_putH dX11_take_38 pl_X11_124 (by first | assumption | omega | exact eMB.ob (by assumption)) (Nat.le_of_ble_eq_true rfl) rfl rfl (fun g_38 fr_38 w_38 => ?_)
        replace hM := w_38
        first | replace FR := eFr.trans FR (eFr.one fr_38 (by omega) (by omega)) | replace FR := eFr.trans FR (eFr.wide fr_38 (by omega) (by omega))
        exact ev_vret dX11_take_41 rfl rfl (by first | exact absurd c_29 (by decide) | exact absurd rfl c_29 | (refine ⟨?_, FR⟩; first | (rw [c_5, c_9]; exact hM) | (rw [c_5]; exact hM))) (fun _ e => Option.some.inj e) (Nat.le_of_ble_eq_true rfl) (Nat.le_of_ble_eq_true rfl)
      · refine ev_iconst (v := nI 1) dX11_take_32 rfl ?_
        refine ev_goto (tgt := 37) dX11_take_33 (by decide) ?_
        first | refine ev_iaddN dX11_take_37 ?_ | refine ev_iadd dX11_take_37 ?_
        refine ev_putH dX11_take_38 pl_X11_124 (by first | assumption | omega | exact eMB.ob (by assumption)) (Nat.le_of_ble_eq_true rfl) rfl rfl (fun g_38 fr_38 w_38 => ?_)
        replace hM := w_38
        first | replace FR := eFr.trans FR (eFr.one fr_38 (by omega) (by omega)) | replace FR := eFr.trans FR (eFr.wide fr_38 (by omega) (by omega))
        exact ev_vret dX11_take_41 rfl rfl (by first | exact absurd c_29 (by decide) | exact absurd rfl c_29 | (refine ⟨?_, FR⟩; first | (rw [c_5, c_9]; exact hM) | (rw [c_5]; exact hM))) (fun _ e => Option.some.inj e) (Nat.le_of_ble_eq_true rfl) (Nat.le_of_ble_eq_true rfl)
set_option maxHeartbeats 4000000 in
set_option maxRecDepth 20000 in
theorem c_X11_digit {h : eH} {n m bad c ℓ ap lo lr l0 h0 : Nat} {gd : Bool} {x : Nat → Nat} (hM : eMB h m bad c ℓ ap gd lo lr) (hX : eArr h (m + 8) 0 120 ℓ x) (hx : ∀ j, x j < 256) (hap : ap < 2 ^ 30) (hl0 : l0 < 2 ^ 31) (hh0 : h0 < 2 ^ 31) : kX11_digit [.ref m, .int (nI l0), .int (nI h0)] h n (.inl (some (.int (nI (mDg x ℓ l0 h0 ap gd).2.2))), (fun g => eMB g m bad c ℓ (mDg x ℓ l0 h0 ap gd).1 (mDg x ℓ l0 h0 ap gd).2.1 lo lr ∧ eFr h g m (m + 1)), some n) 0 0 := by
  refine eM.of RX11 "digit" [(0, .ref m), (1, .int (nI l0)), (2, .int (nI h0))] pn_X11 rfl rfl (Nat.le_of_ble_eq_true rfl) rfl ?_
  have FR : eFr h h m (m + 1) := eFr.rf
  refine ev_aload_n dX11_digit_0 rfl rfl ?_
  refine ev_callVi dX11_digit_1 (c_X11_here hM hX hap) rfl lk_X11_131 (by first | assumption | omega | exact eMB.ob (by assumption)) ⟨Nat.le_of_ble_eq_true rfl, Nat.le_of_ble_eq_true rfl⟩ rfl (Nat.le_of_ble_eq_true rfl) ⟨by first | exact Nat.le_of_ble_eq_true rfl | omega, by first | exact Nat.le_of_ble_eq_true rfl | omega⟩ (eRo ?_)
  refine ev_bipush (v := nI 48) dX11_digit_4 rfl ?_
  refine ev_isub dX11_digit_6 ?_
  refine ev_istore_n dX11_digit_7 rfl (Nat.le_of_ble_eq_true rfl) ?_
  refine ev_aload_n dX11_digit_8 rfl rfl ?_
  refine ev_iload_n dX11_digit_9 rfl rfl ?_
  refine ev_i2l dX11_digit_10 rfl ?_
  refine ev_iload_n dX11_digit_11 rfl rfl ?_
  refine ev_i2l dX11_digit_12 rfl ?_
  refine ev_iload_n dX11_digit_13 rfl rfl ?_
  refine ev_i2l dX11_digit_14 rfl ?_
  refine ev_callSi dX11_digit_15 c_X11_in lk_X11_45 ⟨Nat.le_of_ble_eq_true rfl, Nat.le_of_ble_eq_true rfl⟩ rfl (Nat.le_of_ble_eq_true rfl) ⟨by first | exact Nat.le_of_ble_eq_true rfl | omega, by first | exact Nat.le_of_ble_eq_true rfl | omega⟩ (eRo ?_)
  rw [tDig_ok hx hl0 hh0]
  refine ev_callVv dX11_digit_18 (c_X11_take hM) rfl lk_X11_135 (by first | assumption | omega | exact eMB.ob (by assumption)) ⟨Nat.le_of_ble_eq_true rfl, Nat.le_of_ble_eq_true rfl⟩ rfl (Nat.le_of_ble_eq_true rfl) ⟨by first | exact Nat.le_of_ble_eq_true rfl | omega, by first | exact Nat.le_of_ble_eq_true rfl | omega⟩ (fun g_18 hg_18 => ?_)
  obtain ⟨w_18, fr_18⟩ := hg_18
  replace hM := w_18
  first | replace FR := eFr.trans FR (eFr.one fr_18 (by omega) (by omega)) | replace FR := eFr.trans FR (eFr.wide fr_18 (by omega) (by omega))
  refine ev_aload_n dX11_digit_21 rfl rfl ?_
  refine ev_getfield dX11_digit_22 fl_X11_127 (by first | assumption | omega | exact eMB.ob (by assumption)) rfl ?_
  first | ((with_reducible show eV _ _ _ (Value.int (bI _) :: _) _ _ _ _); refine ev_if_eqB (tgt := 32) dX11_digit_25 (by decide) (fun c_25 => ?_) (fun c_25 => ?_)) | ((with_reducible show eV _ _ _ (Value.int (nI _) :: _) _ _ _ _); refine ev_if_eqN (tgt := 32) dX11_digit_25 (by decide) (by first | exact hB _ _ | omega) (fun c_25 => ?_) (fun c_25 => ?_)) | (refine ev_if_eqZ (tgt := 32) dX11_digit_25 (by decide) (fun c_25 => ?_) (fun c_25 => ?_))
  · refine ev_iload_n dX11_digit_32 rfl rfl ?_
    exact ev_iret dX11_digit_33 rfl rfl (by first | exact nR (mDg_v0 c_25) | exact congrArg (fun z : Int32 => (Sum.inl (some (Value.int z)) : Option Value ⊕ String)) (mDg_v1 hx c_25)) (by exact ⟨by rw [mDg_1, mDg_2]; exact hM, FR⟩) (fun _ e => Option.some.inj e) (Nat.le_of_ble_eq_true rfl) (Nat.le_of_ble_eq_true rfl)
  · refine ev_iload_n dX11_digit_28 rfl rfl ?_
    refine ev_goto (tgt := 33) dX11_digit_29 (by decide) ?_
    exact ev_iret dX11_digit_33 rfl rfl (by first | exact nR (mDg_v0 c_25) | exact congrArg (fun z : Int32 => (Sum.inl (some (Value.int z)) : Option Value ⊕ String)) (mDg_v1 hx c_25)) (by exact ⟨by rw [mDg_1, mDg_2]; exact hM, FR⟩) (fun _ e => Option.some.inj e) (Nat.le_of_ble_eq_true rfl) (Nat.le_of_ble_eq_true rfl)
set_option maxHeartbeats 4000000 in
set_option maxRecDepth 20000 in
theorem c_X11_two {h : eH} {n m bad c ℓ ap lo lr most : Nat} {gd : Bool} {x : Nat → Nat} (hM : eMB h m bad c ℓ ap gd lo lr) (hX : eArr h (m + 8) 0 120 ℓ x) (hx : ∀ j, x j < 256) (hap : ap < 2 ^ 29) (hl0 : most < 100) : kX11_two [.ref m, .int (nI most)] h n (.inl (some (.int (nI (mTw x ℓ most ap gd).2.2))), (fun g => eMB g m bad c ℓ (mTw x ℓ most ap gd).1 (mTw x ℓ most ap gd).2.1 lo lr ∧ eFr h g m (m + 1)), some n) 0 0 := by
  refine eM.of RX11 "two" [(0, .ref m), (1, .int (nI most))] pn_X11 rfl rfl (Nat.le_of_ble_eq_true rfl) rfl ?_
  have FR : eFr h h m (m + 1) := eFr.rf
  have hpb := mDg_p x ℓ 0 (most / 10) ap gd
  have hvb := mDg_b (x := x) (ℓ := ℓ) (p := ap) (g := gd) (Nat.zero_le (most / 10))
  refine ev_aload_n dX11_two_0 rfl rfl ?_
  refine ev_iconst (v := nI 0) dX11_two_1 rfl ?_
  refine ev_iload_n dX11_two_2 rfl rfl ?_
  refine ev_bipush (v := nI 10) dX11_two_3 rfl ?_
  first | refine ev_idivN dX11_two_5 (by omega) (by first | assumption | omega | exact eMB.ob (by assumption)) (by omega) ?_ | refine ev_idiv dX11_two_5 (by decide) ?_
  refine ev_callVi dX11_two_6 (c_X11_digit hM hX hx (by omega) (by omega) (by omega)) rfl lk_X11_139 (by first | assumption | omega | exact eMB.ob (by assumption)) ⟨Nat.le_of_ble_eq_true rfl, Nat.le_of_ble_eq_true rfl⟩ rfl (Nat.le_of_ble_eq_true rfl) ⟨by first | exact Nat.le_of_ble_eq_true rfl | omega, by first | exact Nat.le_of_ble_eq_true rfl | omega⟩ (fun g_6 hg_6 => ?_)
  obtain ⟨w_6, fr_6⟩ := hg_6
  replace hM := w_6
  first | replace hX := eRow.fr hX (fr_6 _ (by omega)) | replace hX := eArr.fr hX (fr_6 _ (by omega)) | replace hX := Eq.trans (fr_6 _ (by omega)) hX | replace hX := eBo.fr hX (fr_6 _ (by omega)) | replace hX := ePp.fr1 hX (fun a _ _ => fr_6 a (by omega)) | replace hX := eNm.fr1 hX (fun a _ _ => fr_6 a (by omega)) | replace hX := eRg.fr hX (fun a _ _ => fr_6 a (by omega)) | replace hX := eTx.fr hX (fun a _ _ => fr_6 a (by omega)) | replace hX := ePa.fr hX (fun a _ _ => fr_6 a (by omega)) | replace hX := eRf.fr hX (fr_6 _ (by omega)) | replace hX := eSl.fr hX (fun a _ _ => fr_6 a (by omega)) | replace hX := eSe.fr hX (fun a _ _ => fr_6 a (by omega)) | replace hX := z_6 hX | replace hX := z_6
  first | replace FR := eFr.trans FR (eFr.one fr_6 (by omega) (by omega)) | replace FR := eFr.trans FR (eFr.wide fr_6 (by omega) (by omega))
  refine ev_istore_n dX11_two_9 rfl (Nat.le_of_ble_eq_true rfl) ?_
  refine ev_bipush (v := nI 10) dX11_two_10 rfl ?_
  refine ev_iload_n dX11_two_12 rfl rfl ?_
  first | refine ev_imulN dX11_two_13 ?_ | refine ev_imul dX11_two_13 ?_
  refine ev_aload_n dX11_two_14 rfl rfl ?_
  refine ev_iconst (v := nI 0) dX11_two_15 rfl ?_
  refine ev_iload_n dX11_two_16 rfl rfl ?_
  refine ev_iload_n dX11_two_17 rfl rfl ?_
  refine ev_bipush (v := nI 10) dX11_two_18 rfl ?_
  first | refine ev_idivN dX11_two_20 (by omega) (by first | assumption | omega | exact eMB.ob (by assumption)) (by omega) ?_ | refine ev_idiv dX11_two_20 (by decide) ?_
  first | ((with_reducible show eV _ _ _ (Value.int (nI _) :: Value.int (nI _) :: _) _ _ _ _); refine ev_icmp_neN (tgt := 31) dX11_two_21 (by decide) (by omega) (by omega) (fun c_21 => ?_) (fun c_21 => ?_)) | ((with_reducible show eV _ _ _ (Value.int (-1) :: Value.int (oI _) :: _) _ _ _ _); refine ev_icmp_neO (tgt := 31) dX11_two_21 (by decide) (by first | assumption | (intro k9 h9; exact absurd h9 (by simp)) | (intro k9 h9; have := (fst_lt h9).1; omega) | (intro k9 h9; cases h9; omega)) (fun c_21 => ?_) (fun c_21 => ?_)) | ((with_reducible show eV _ _ _ (Value.int (nI _) :: Value.int (oI _) :: _) _ _ _ _); refine ev_icmp_neON (tgt := 31) dX11_two_21 (by decide) (by omega) (by first | assumption | (intro k9 h9; exact absurd h9 (by simp)) | (intro k9 h9; have := (fst_lt h9).1; omega) | (intro k9 h9; cases h9; omega)) (fun c_21 => ?_) (fun c_21 => ?_)) | ((with_reducible show eV _ _ _ (Value.int (nI _) :: _) _ _ _ _); refine ev_icmp_neZN (tgt := 31) dX11_two_21 (by decide) (by omega) (fun c_21 => ?_) (fun c_21 => ?_)) | ((with_reducible show eV _ _ _ (_ :: Value.int (nI _) :: _) _ _ _ _); refine ev_icmp_neNZ (tgt := 31) dX11_two_21 (by decide) (by omega) (fun c_21 => ?_) (fun c_21 => ?_)) | (refine ev_icmp_neZZ (tgt := 31) dX11_two_21 (by decide) (fun c_21 => ?_) (fun c_21 => ?_))
  · refine ev_bipush (v := nI 9) dX11_two_31 rfl ?_
    refine ev_callVi dX11_two_33 (c_X11_digit hM hX hx (by omega) (by omega) (by omega)) rfl lk_X11_139 (by first | assumption | omega | exact eMB.ob (by assumption)) ⟨Nat.le_of_ble_eq_true rfl, Nat.le_of_ble_eq_true rfl⟩ rfl (Nat.le_of_ble_eq_true rfl) ⟨by first | exact Nat.le_of_ble_eq_true rfl | omega, by first | exact Nat.le_of_ble_eq_true rfl | omega⟩ (fun g_33 hg_33 => ?_)
    obtain ⟨w_33, fr_33⟩ := hg_33
    replace hM := w_33
    first | replace hX := eRow.fr hX (fr_33 _ (by omega)) | replace hX := eArr.fr hX (fr_33 _ (by omega)) | replace hX := Eq.trans (fr_33 _ (by omega)) hX | replace hX := eBo.fr hX (fr_33 _ (by omega)) | replace hX := ePp.fr1 hX (fun a _ _ => fr_33 a (by omega)) | replace hX := eNm.fr1 hX (fun a _ _ => fr_33 a (by omega)) | replace hX := eRg.fr hX (fun a _ _ => fr_33 a (by omega)) | replace hX := eTx.fr hX (fun a _ _ => fr_33 a (by omega)) | replace hX := ePa.fr hX (fun a _ _ => fr_33 a (by omega)) | replace hX := eRf.fr hX (fr_33 _ (by omega)) | replace hX := eSl.fr hX (fun a _ _ => fr_33 a (by omega)) | replace hX := eSe.fr hX (fun a _ _ => fr_33 a (by omega)) | replace hX := z_33 hX | replace hX := z_33
    first | replace FR := eFr.trans FR (eFr.one fr_33 (by omega) (by omega)) | replace FR := eFr.trans FR (eFr.wide fr_33 (by omega) (by omega))
    first | refine ev_iaddN dX11_two_36 ?_ | refine ev_iadd dX11_two_36 ?_
    exact ev_iret dX11_two_37 rfl rfl (by first | exact nR (by unfold mTw; rw [if_pos c_21]) | exact nR (by unfold mTw; rw [if_neg c_21])) (by first | exact ⟨by unfold mTw; rw [if_pos c_21]; exact hM, FR⟩ | exact ⟨by unfold mTw; rw [if_neg c_21]; exact hM, FR⟩) (fun _ e => Option.some.inj e) (Nat.le_of_ble_eq_true rfl) (Nat.le_of_ble_eq_true rfl)
  · refine ev_iload_n dX11_two_24 rfl rfl ?_
    refine ev_bipush (v := nI 10) dX11_two_25 rfl ?_
    first | refine ev_iremN dX11_two_27 (by omega) (by first | assumption | omega | exact eMB.ob (by assumption)) (by omega) ?_ | refine ev_irem dX11_two_27 (by decide) ?_
    refine ev_goto (tgt := 33) dX11_two_28 (by decide) ?_
    refine ev_callVi dX11_two_33 (c_X11_digit hM hX hx (by omega) (by omega) (by omega)) rfl lk_X11_139 (by first | assumption | omega | exact eMB.ob (by assumption)) ⟨Nat.le_of_ble_eq_true rfl, Nat.le_of_ble_eq_true rfl⟩ rfl (Nat.le_of_ble_eq_true rfl) ⟨by first | exact Nat.le_of_ble_eq_true rfl | omega, by first | exact Nat.le_of_ble_eq_true rfl | omega⟩ (fun g_33 hg_33 => ?_)
    obtain ⟨w_33, fr_33⟩ := hg_33
    replace hM := w_33
    first | replace hX := eRow.fr hX (fr_33 _ (by omega)) | replace hX := eArr.fr hX (fr_33 _ (by omega)) | replace hX := Eq.trans (fr_33 _ (by omega)) hX | replace hX := eBo.fr hX (fr_33 _ (by omega)) | replace hX := ePp.fr1 hX (fun a _ _ => fr_33 a (by omega)) | replace hX := eNm.fr1 hX (fun a _ _ => fr_33 a (by omega)) | replace hX := eRg.fr hX (fun a _ _ => fr_33 a (by omega)) | replace hX := eTx.fr hX (fun a _ _ => fr_33 a (by omega)) | replace hX := ePa.fr hX (fun a _ _ => fr_33 a (by omega)) | replace hX := eRf.fr hX (fr_33 _ (by omega)) | replace hX := eSl.fr hX (fun a _ _ => fr_33 a (by omega)) | replace hX := eSe.fr hX (fun a _ _ => fr_33 a (by omega)) | replace hX := z_33 hX | replace hX := z_33
    first | replace FR := eFr.trans FR (eFr.one fr_33 (by omega) (by omega)) | replace FR := eFr.trans FR (eFr.wide fr_33 (by omega) (by omega))
    first | refine ev_iaddN dX11_two_36 ?_ | refine ev_iadd dX11_two_36 ?_
    exact ev_iret dX11_two_37 rfl rfl (by first | exact nR (by unfold mTw; rw [if_pos c_21]) | exact nR (by unfold mTw; rw [if_neg c_21])) (by first | exact ⟨by unfold mTw; rw [if_pos c_21]; exact hM, FR⟩ | exact ⟨by unfold mTw; rw [if_neg c_21]; exact hM, FR⟩) (fun _ e => Option.some.inj e) (Nat.le_of_ble_eq_true rfl) (Nat.le_of_ble_eq_true rfl)
def mGo (lo : Nat) (g a : Bool) : Nat := if (g && !a) = true then lo + 1 else lo
set_option maxHeartbeats 4000000 in
set_option maxRecDepth 20000 in
theorem c_X11_goes {h : eH} {n m bad c ℓ ap lo lr : Nat} {gd a : Bool} (hM : eMB h m bad c ℓ ap gd lo lr) : kX11_goes [.ref m, .int (bI a)] h n (.inl (some (.int (bI (gd && a)))), (fun g => eMB g m bad c ℓ ap gd (mGo lo gd a) lr ∧ eFr h g m (m + 1)), some n) 0 0 := by
  refine eM.of RX11 "goes" [(0, .ref m), (1, .int (bI a))] pn_X11 rfl rfl (Nat.le_of_ble_eq_true rfl) rfl ?_
  have FR : eFr h h m (m + 1) := eFr.rf
  refine ev_aload_n dX11_goes_0 rfl rfl ?_
  refine ev_dup dX11_goes_1 rfl ?_
  refine ev_getfield dX11_goes_2 fl_X11_143 (by first | assumption | omega | exact eMB.ob (by assumption)) rfl ?_
  refine ev_aload_n dX11_goes_5 rfl rfl ?_
  refine ev_getfield dX11_goes_6 fl_X11_127 (by first | assumption | omega | exact eMB.ob (by assumption)) rfl ?_
  first | ((with_reducible show eV _ _ _ (Value.int (bI _) :: _) _ _ _ _); refine ev_if_eqB (tgt := 20) dX11_goes_9 (by decide) (fun c_9 => ?_) (fun c_9 => ?_)) | ((with_reducible show eV _ _ _ (Value.int (nI _) :: _) _ _ _ _); refine ev_if_eqN (tgt := 20) dX11_goes_9 (by decide) (by omega) (fun c_9 => ?_) (fun c_9 => ?_)) | (refine ev_if_eqZ (tgt := 20) dX11_goes_9 (by decide) (fun c_9 => ?_) (fun c_9 => ?_))
  · refine ev_iconst (v := nI 0) dX11_goes_20 rfl ?_
    first | refine ev_iaddN dX11_goes_21 ?_ | refine ev_iadd dX11_goes_21 ?_
    refine ev_putH dX11_goes_22 pl_X11_143 (by first | assumption | omega | exact eMB.ob (by assumption)) (Nat.le_of_ble_eq_true rfl) rfl rfl (fun g_22 fr_22 w_22 => ?_)
    replace hM := w_22
    first | replace FR := eFr.trans FR (eFr.one fr_22 (by omega) (by omega)) | replace FR := eFr.trans FR (eFr.wide fr_22 (by omega) (by omega))
    refine ev_aload_n dX11_goes_25 rfl rfl ?_
    refine ev_getfield dX11_goes_26 fl_X11_127 (by first | assumption | omega | exact eMB.ob (by assumption)) rfl ?_
    first | ((with_reducible show eV _ _ _ (Value.int (bI _) :: _) _ _ _ _); refine ev_if_eqB (tgt := 40) dX11_goes_29 (by decide) (fun c_29 => ?_) (fun c_29 => ?_)) | ((with_reducible show eV _ _ _ (Value.int (nI _) :: _) _ _ _ _); refine ev_if_eqN (tgt := 40) dX11_goes_29 (by decide) (by omega) (fun c_29 => ?_) (fun c_29 => ?_)) | (refine ev_if_eqZ (tgt := 40) dX11_goes_29 (by decide) (fun c_29 => ?_) (fun c_29 => ?_))
    · refine ev_iconst (v := nI 0) dX11_goes_40 rfl ?_
      exact ev_iret dX11_goes_41 rfl (by first | rfl | exact bI_n _) (by first | exact bR0 (by first | (rw [c_29]; rfl) | (rw [c_33, Bool.and_false])) | exact bR1 (by rw [c_29, c_33]; rfl)) (by refine ⟨?_, FR⟩; first | (have e : mGo lo gd a = lo + 1 := if_pos (by rw [c_9, c_13]; rfl); rw [e]; exact hM) | (have e : mGo lo gd a = lo := if_neg (by rw [c_13]; cases gd <;> decide); rw [e]; exact hM) | (have e : mGo lo gd a = lo := if_neg (by rw [c_9]; cases a <;> decide); rw [e]; exact hM)) (fun _ e => Option.some.inj e) (Nat.le_of_ble_eq_true rfl) (Nat.le_of_ble_eq_true rfl)
    · refine ev_iload_n dX11_goes_32 rfl rfl ?_
      first | ((with_reducible show eV _ _ _ (Value.int (bI _) :: _) _ _ _ _); refine ev_if_eqB (tgt := 40) dX11_goes_33 (by decide) (fun c_33 => ?_) (fun c_33 => ?_)) | ((with_reducible show eV _ _ _ (Value.int (nI _) :: _) _ _ _ _); refine ev_if_eqN (tgt := 40) dX11_goes_33 (by decide) (by omega) (fun c_33 => ?_) (fun c_33 => ?_)) | (refine ev_if_eqZ (tgt := 40) dX11_goes_33 (by decide) (fun c_33 => ?_) (fun c_33 => ?_))
      · refine ev_iconst (v := nI 0) dX11_goes_40 rfl ?_
        exact ev_iret dX11_goes_41 rfl (by first | rfl | exact bI_n _) (by first | exact bR0 (by first | (rw [c_29]; rfl) | (rw [c_33, Bool.and_false])) | exact bR1 (by rw [c_29, c_33]; rfl)) (by refine ⟨?_, FR⟩; first | (have e : mGo lo gd a = lo + 1 := if_pos (by rw [c_9, c_13]; rfl); rw [e]; exact hM) | (have e : mGo lo gd a = lo := if_neg (by rw [c_13]; cases gd <;> decide); rw [e]; exact hM) | (have e : mGo lo gd a = lo := if_neg (by rw [c_9]; cases a <;> decide); rw [e]; exact hM)) (fun _ e => Option.some.inj e) (Nat.le_of_ble_eq_true rfl) (Nat.le_of_ble_eq_true rfl)
      · refine ev_iconst (v := nI 1) dX11_goes_36 rfl ?_
        refine ev_goto (tgt := 41) dX11_goes_37 (by decide) ?_
        exact ev_iret dX11_goes_41 rfl (by first | rfl | exact bI_n _) (by first | exact bR0 (by first | (rw [c_29]; rfl) | (rw [c_33, Bool.and_false])) | exact bR1 (by rw [c_29, c_33]; rfl)) (by refine ⟨?_, FR⟩; first | (have e : mGo lo gd a = lo + 1 := if_pos (by rw [c_9, c_13]; rfl); rw [e]; exact hM) | (have e : mGo lo gd a = lo := if_neg (by rw [c_13]; cases gd <;> decide); rw [e]; exact hM) | (have e : mGo lo gd a = lo := if_neg (by rw [c_9]; cases a <;> decide); rw [e]; exact hM)) (fun _ e => Option.some.inj e) (Nat.le_of_ble_eq_true rfl) (Nat.le_of_ble_eq_true rfl)
  · refine ev_iload_n dX11_goes_12 rfl rfl ?_
    first | ((with_reducible show eV _ _ _ (Value.int (bI _) :: _) _ _ _ _); refine ev_if_neB (tgt := 20) dX11_goes_13 (by decide) (fun c_13 => ?_) (fun c_13 => ?_)) | ((with_reducible show eV _ _ _ (Value.int (nI _) :: _) _ _ _ _); refine ev_if_neN (tgt := 20) dX11_goes_13 (by decide) (by omega) (fun c_13 => ?_) (fun c_13 => ?_)) | (refine ev_if_neZ (tgt := 20) dX11_goes_13 (by decide) (fun c_13 => ?_) (fun c_13 => ?_))
    · refine ev_iconst (v := nI 0) dX11_goes_20 rfl ?_
      first | refine ev_iaddN dX11_goes_21 ?_ | refine ev_iadd dX11_goes_21 ?_
      refine ev_putH dX11_goes_22 pl_X11_143 (by first | assumption | omega | exact eMB.ob (by assumption)) (Nat.le_of_ble_eq_true rfl) rfl rfl (fun g_22 fr_22 w_22 => ?_)
      replace hM := w_22
      first | replace FR := eFr.trans FR (eFr.one fr_22 (by omega) (by omega)) | replace FR := eFr.trans FR (eFr.wide fr_22 (by omega) (by omega))
      refine ev_aload_n dX11_goes_25 rfl rfl ?_
      refine ev_getfield dX11_goes_26 fl_X11_127 (by first | assumption | omega | exact eMB.ob (by assumption)) rfl ?_
      first | ((with_reducible show eV _ _ _ (Value.int (bI _) :: _) _ _ _ _); refine ev_if_eqB (tgt := 40) dX11_goes_29 (by decide) (fun c_29 => ?_) (fun c_29 => ?_)) | ((with_reducible show eV _ _ _ (Value.int (nI _) :: _) _ _ _ _); refine ev_if_eqN (tgt := 40) dX11_goes_29 (by decide) (by omega) (fun c_29 => ?_) (fun c_29 => ?_)) | (refine ev_if_eqZ (tgt := 40) dX11_goes_29 (by decide) (fun c_29 => ?_) (fun c_29 => ?_))
      · refine ev_iconst (v := nI 0) dX11_goes_40 rfl ?_
        exact ev_iret dX11_goes_41 rfl (by first | rfl | exact bI_n _) (by first | exact bR0 (by first | (rw [c_29]; rfl) | (rw [c_33, Bool.and_false])) | exact bR1 (by rw [c_29, c_33]; rfl)) (by refine ⟨?_, FR⟩; first | (have e : mGo lo gd a = lo + 1 := if_pos (by rw [c_9, c_13]; rfl); rw [e]; exact hM) | (have e : mGo lo gd a = lo := if_neg (by rw [c_13]; cases gd <;> decide); rw [e]; exact hM) | (have e : mGo lo gd a = lo := if_neg (by rw [c_9]; cases a <;> decide); rw [e]; exact hM)) (fun _ e => Option.some.inj e) (Nat.le_of_ble_eq_true rfl) (Nat.le_of_ble_eq_true rfl)
      · refine ev_iload_n dX11_goes_32 rfl rfl ?_
        first | ((with_reducible show eV _ _ _ (Value.int (bI _) :: _) _ _ _ _); refine ev_if_eqB (tgt := 40) dX11_goes_33 (by decide) (fun c_33 => ?_) (fun c_33 => ?_)) | ((with_reducible show eV _ _ _ (Value.int (nI _) :: _) _ _ _ _); refine ev_if_eqN (tgt := 40) dX11_goes_33 (by decide) (by omega) (fun c_33 => ?_) (fun c_33 => ?_)) | (refine ev_if_eqZ (tgt := 40) dX11_goes_33 (by decide) (fun c_33 => ?_) (fun c_33 => ?_))
        · refine ev_iconst (v := nI 0) dX11_goes_40 rfl ?_
          exact ev_iret dX11_goes_41 rfl (by first | rfl | exact bI_n _) (by first | exact bR0 (by first | (rw [c_29]; rfl) | (rw [c_33, Bool.and_false])) | exact bR1 (by rw [c_29, c_33]; rfl)) (by refine ⟨?_, FR⟩; first | (have e : mGo lo gd a = lo + 1 := if_pos (by rw [c_9, c_13]; rfl); rw [e]; exact hM) | (have e : mGo lo gd a = lo := if_neg (by rw [c_13]; cases gd <;> decide); rw [e]; exact hM) | (have e : mGo lo gd a = lo := if_neg (by rw [c_9]; cases a <;> decide); rw [e]; exact hM)) (fun _ e => Option.some.inj e) (Nat.le_of_ble_eq_true rfl) (Nat.le_of_ble_eq_true rfl)
        · refine ev_iconst (v := nI 1) dX11_goes_36 rfl ?_
          refine ev_goto (tgt := 41) dX11_goes_37 (by decide) ?_
          exact ev_iret dX11_goes_41 rfl (by first | rfl | exact bI_n _) (by first | exact bR0 (by first | (rw [c_29]; rfl) | (rw [c_33, Bool.and_false])) | exact bR1 (by rw [c_29, c_33]; rfl)) (by refine ⟨?_, FR⟩; first | (have e : mGo lo gd a = lo + 1 := if_pos (by rw [c_9, c_13]; rfl); rw [e]; exact hM) | (have e : mGo lo gd a = lo := if_neg (by rw [c_13]; cases gd <;> decide); rw [e]; exact hM) | (have e : mGo lo gd a = lo := if_neg (by rw [c_9]; cases a <;> decide); rw [e]; exact hM)) (fun _ e => Option.some.inj e) (Nat.le_of_ble_eq_true rfl) (Nat.le_of_ble_eq_true rfl)
    · refine ev_iconst (v := nI 1) dX11_goes_16 rfl ?_
      refine ev_goto (tgt := 21) dX11_goes_17 (by decide) ?_
      first | refine ev_iaddN dX11_goes_21 ?_ | refine ev_iadd dX11_goes_21 ?_
      refine ev_putH dX11_goes_22 pl_X11_143 (by first | assumption | omega | exact eMB.ob (by assumption)) (Nat.le_of_ble_eq_true rfl) rfl rfl (fun g_22 fr_22 w_22 => ?_)
      replace hM := w_22
      first | replace FR := eFr.trans FR (eFr.one fr_22 (by omega) (by omega)) | replace FR := eFr.trans FR (eFr.wide fr_22 (by omega) (by omega))
      refine ev_aload_n dX11_goes_25 rfl rfl ?_
      refine ev_getfield dX11_goes_26 fl_X11_127 (by first | assumption | omega | exact eMB.ob (by assumption)) rfl ?_
      first | ((with_reducible show eV _ _ _ (Value.int (bI _) :: _) _ _ _ _); refine ev_if_eqB (tgt := 40) dX11_goes_29 (by decide) (fun c_29 => ?_) (fun c_29 => ?_)) | ((with_reducible show eV _ _ _ (Value.int (nI _) :: _) _ _ _ _); refine ev_if_eqN (tgt := 40) dX11_goes_29 (by decide) (by omega) (fun c_29 => ?_) (fun c_29 => ?_)) | (refine ev_if_eqZ (tgt := 40) dX11_goes_29 (by decide) (fun c_29 => ?_) (fun c_29 => ?_))
      · refine ev_iconst (v := nI 0) dX11_goes_40 rfl ?_
        exact ev_iret dX11_goes_41 rfl (by first | rfl | exact bI_n _) (by first | exact bR0 (by first | (rw [c_29]; rfl) | (rw [c_33, Bool.and_false])) | exact bR1 (by rw [c_29, c_33]; rfl)) (by refine ⟨?_, FR⟩; first | (have e : mGo lo gd a = lo + 1 := if_pos (by rw [c_9, c_13]; rfl); rw [e]; exact hM) | (have e : mGo lo gd a = lo := if_neg (by rw [c_13]; cases gd <;> decide); rw [e]; exact hM) | (have e : mGo lo gd a = lo := if_neg (by rw [c_9]; cases a <;> decide); rw [e]; exact hM)) (fun _ e => Option.some.inj e) (Nat.le_of_ble_eq_true rfl) (Nat.le_of_ble_eq_true rfl)
      · refine ev_iload_n dX11_goes_32 rfl rfl ?_
        first | ((with_reducible show eV _ _ _ (Value.int (bI _) :: _) _ _ _ _); refine ev_if_eqB (tgt := 40) dX11_goes_33 (by decide) (fun c_33 => ?_) (fun c_33 => ?_)) | ((with_reducible show eV _ _ _ (Value.int (nI _) :: _) _ _ _ _); refine ev_if_eqN (tgt := 40) dX11_goes_33 (by decide) (by omega) (fun c_33 => ?_) (fun c_33 => ?_)) | (refine ev_if_eqZ (tgt := 40) dX11_goes_33 (by decide) (fun c_33 => ?_) (fun c_33 => ?_))
        · refine ev_iconst (v := nI 0) dX11_goes_40 rfl ?_
          exact ev_iret dX11_goes_41 rfl (by first | rfl | exact bI_n _) (by first | exact bR0 (by first | (rw [c_29]; rfl) | (rw [c_33, Bool.and_false])) | exact bR1 (by rw [c_29, c_33]; rfl)) (by refine ⟨?_, FR⟩; first | (have e : mGo lo gd a = lo + 1 := if_pos (by rw [c_9, c_13]; rfl); rw [e]; exact hM) | (have e : mGo lo gd a = lo := if_neg (by rw [c_13]; cases gd <;> decide); rw [e]; exact hM) | (have e : mGo lo gd a = lo := if_neg (by rw [c_9]; cases a <;> decide); rw [e]; exact hM)) (fun _ e => Option.some.inj e) (Nat.le_of_ble_eq_true rfl) (Nat.le_of_ble_eq_true rfl)
        · refine ev_iconst (v := nI 1) dX11_goes_36 rfl ?_
          refine ev_goto (tgt := 41) dX11_goes_37 (by decide) ?_
          exact ev_iret dX11_goes_41 rfl (by first | rfl | exact bI_n _) (by first | exact bR0 (by first | (rw [c_29]; rfl) | (rw [c_33, Bool.and_false])) | exact bR1 (by rw [c_29, c_33]; rfl)) (by refine ⟨?_, FR⟩; first | (have e : mGo lo gd a = lo + 1 := if_pos (by rw [c_9, c_13]; rfl); rw [e]; exact hM) | (have e : mGo lo gd a = lo := if_neg (by rw [c_13]; cases gd <;> decide); rw [e]; exact hM) | (have e : mGo lo gd a = lo := if_neg (by rw [c_9]; cases a <;> decide); rw [e]; exact hM)) (fun _ e => Option.some.inj e) (Nat.le_of_ble_eq_true rfl) (Nat.le_of_ble_eq_true rfl)

