/-! letters, as the model reads them -/
def mLs (x : Nat → Nat) (ℓ : Nat) : Nat → Nat → Bool → Nat → Nat → Nat × Bool × Nat × Nat
  | 0, p, g, r, c => (p, g, r, c)
  | n + 1, p, g, r, c => if g = true ∧ (r = 0 ∨ tHere x ℓ p ≠ some 46) then (if tAZ x ℓ p = true then mLs x ℓ n (p + 1) true (r + 1) (26 * c + (x p - 65)) else mLs x ℓ n p false (r + 1) (26 * c + 0)) else (p, g, r, c)
theorem mLs_no {x : Nat → Nat} {ℓ n p r c : Nat} {g : Bool} (h : ¬ (g = true ∧ (r = 0 ∨ tHere x ℓ p ≠ some 46))) : mLs x ℓ n p g r c = (p, g, r, c) := by
  cases n with
  | zero => rfl
  | succ n => rw [mLs, if_neg h]
theorem mLs_y {x : Nat → Nat} {ℓ n p r c : Nat} {g : Bool} (h : g = true ∧ (r = 0 ∨ tHere x ℓ p ≠ some 46)) (h2 : tAZ x ℓ p = true) : mLs x ℓ (n + 1) p g r c = mLs x ℓ n (p + 1) true (r + 1) (26 * c + (x p - 65)) := by rw [mLs, if_pos h, if_pos h2]
theorem mLs_x {x : Nat → Nat} {ℓ n p r c : Nat} {g : Bool} (h : g = true ∧ (r = 0 ∨ tHere x ℓ p ≠ some 46)) (h2 : tAZ x ℓ p = false) : mLs x ℓ (n + 1) p g r c = mLs x ℓ n p false (r + 1) (26 * c + 0) := by rw [mLs, if_pos h, if_neg (by rw [h2]; decide)]
theorem mLs_f {x : Nat → Nat} {ℓ n p r c : Nat} : mLs x ℓ n p false r c = (p, false, r, c) := mLs_no (fun z => absurd z.1 (by decide))
def mDot (x : Nat → Nat) (ℓ p : Nat) : Bool := decide (tHere x ℓ p = some 46)
def mLt (x : Nat → Nat) (ℓ p : Nat) (g : Bool) : Nat × Bool × Nat × Nat := (mTake (mLs x ℓ 4 p g 0 0).1 (mLs x ℓ 4 p g 0 0).2.1 (mDot x ℓ (mLs x ℓ 4 p g 0 0).1), ((mLs x ℓ 4 p g 0 0).2.1 && mDot x ℓ (mLs x ℓ 4 p g 0 0).1), (mLs x ℓ 4 p g 0 0).2.2)
theorem mLs_p {x : Nat → Nat} {ℓ : Nat} : ∀ {n p r c : Nat} {g : Bool}, (mLs x ℓ n p g r c).1 ≤ p + n
  | 0, p, r, c, g => Nat.le_refl _
  | n + 1, p, r, c, g => by
    rw [mLs]
    split
    · split
      · have := mLs_p (x := x) (ℓ := ℓ) (n := n) (p := p + 1) (r := r + 1) (c := 26 * c + (x p - 65)) (g := true); omega
      · have := mLs_p (x := x) (ℓ := ℓ) (n := n) (p := p) (r := r + 1) (c := 26 * c + 0) (g := false); omega
    · exact Nat.le_add_right _ _
theorem mLt_p {x : Nat → Nat} {ℓ p : Nat} {g : Bool} : (mLt x ℓ p g).1 ≤ p + 5 := by
  have := mLs_p (x := x) (ℓ := ℓ) (n := 4) (p := p) (r := 0) (c := 0) (g := g)
  show mTake _ _ _ ≤ _
  unfold mTake
  split <;> omega
theorem tAZ_46 {x : Nat → Nat} {ℓ p : Nat} (h : tAZ x ℓ p = true) : tHere x ℓ p ≠ some 46 := by
  intro e
  unfold tAZ at h
  rw [e] at h
  exact absurd h (by decide)
/-- while there are letters -/
theorem mLs_run {x : Nat → Nat} {ℓ p : Nat} : ∀ {i n : Nat}, (∀ j, j < i → tAZ x ℓ (p + j) = true) → mLs x ℓ (n + i) p true 0 0 = mLs x ℓ n (p + i) true i (tLc x p i)
  | 0, n, _ => rfl
  | i + 1, n, h => by
    have e := mLs_run (x := x) (ℓ := ℓ) (p := p) (i := i) (n := n + 1) (fun j hj => h j (by omega))
    rw [show n + (i + 1) = n + 1 + i by omega, e, mLs_y ⟨rfl, Or.inr (tAZ_46 (h i (by omega)))⟩ (h i (by omega)), tLc, Nat.mul_comm 26]
    rfl
theorem tLm_all {x : Nat → Nat} {ℓ p : Nat} : ∀ j, j < tLm x ℓ p → tAZ x ℓ (p + j) = true := by
  intro j hj
  unfold tLm at hj
  split at hj
  · rename_i h
    have := fst_no h j hj
    simpa using this
  · rename_i i h
    have := (fst_lt h).2.2 j hj
    simpa using this
theorem tLm_end {x : Nat → Nat} {ℓ p : Nat} (h4 : tLm x ℓ p < 4) : tAZ x ℓ (p + tLm x ℓ p) = false := by
  unfold tLm at h4 ⊢
  split at h4
  · omega
  · rename_i i h
    have := (fst_lt h).2.1
    simpa using this
theorem tLetters_at {x : Nat → Nat} {ℓ : Nat} {u : Cur} (hu : u.2.1 ≤ 2) (hm : tLm x ℓ u.1 ≠ 0) : tLetters x ℓ u = tSign x ℓ 46 (u.1 + tLm x ℓ u.1, u.2.1 + 2, fun j => if j = u.2.1 + 1 then tLc x u.1 (tLm x ℓ u.1) else if j = u.2.1 then tLm x ℓ u.1 else u.2.2 j) := by
  unfold tLetters
  rw [if_neg hm]
  have e1 : tTell (tGo u (tLm x ℓ u.1)) (tLm x ℓ u.1) = (true, (u.1 + tLm x ℓ u.1, u.2.1 + 1, fun j => if j = u.2.1 then tLm x ℓ u.1 else u.2.2 j)) := by
    unfold tTell tGo
    rw [if_pos (by show u.2.1 < 4; omega)]
  rw [e1]
  have e2 : ∀ v, tTell (u.1 + tLm x ℓ u.1, u.2.1 + 1, fun j => if j = u.2.1 then tLm x ℓ u.1 else u.2.2 j) v = (true, (u.1 + tLm x ℓ u.1, u.2.1 + 2, fun j => if j = u.2.1 + 1 then v else if j = u.2.1 then tLm x ℓ u.1 else u.2.2 j)) := by
    intro v
    unfold tTell
    rw [if_pos (by show u.2.1 + 1 < 4; omega)]
  rw [tAnd_t (r := (true, _)) rfl, e2, tAnd_t (r := (true, _)) rfl]
theorem mLt_0 {x : Nat → Nat} {ℓ p : Nat} (h : tLm x ℓ p = 0) : (mLt x ℓ p true).1 = p ∧ (mLt x ℓ p true).2.1 = false := by
  have ha := tLm_end (x := x) (ℓ := ℓ) (p := p) (by omega)
  rw [h, Nat.add_zero] at ha
  have e : mLs x ℓ 4 p true 0 0 = (p, false, 1, 0) := by rw [mLs_x ⟨rfl, Or.inl rfl⟩ ha, mLs_f]
  unfold mLt
  rw [e]
  exact ⟨rfl, rfl⟩
theorem mLs_m {x : Nat → Nat} {ℓ p : Nat} (h : tLm x ℓ p ≠ 0) : (tHere x ℓ (p + tLm x ℓ p) = some 46 → mLs x ℓ 4 p true 0 0 = (p + tLm x ℓ p, true, tLm x ℓ p, tLc x p (tLm x ℓ p))) ∧ (tHere x ℓ (p + tLm x ℓ p) ≠ some 46 → (mLs x ℓ 4 p true 0 0).1 = p + tLm x ℓ p ∧ ((mLs x ℓ 4 p true 0 0).2.1 = true → tHere x ℓ (p + tLm x ℓ p) ≠ some 46)) := by
  have h4 := tLm_le x ℓ p
  have e := mLs_run (x := x) (ℓ := ℓ) (p := p) (i := tLm x ℓ p) (n := 4 - tLm x ℓ p) tLm_all
  rw [show 4 - tLm x ℓ p + tLm x ℓ p = 4 by omega] at e
  refine ⟨fun hd => ?_, fun hd => ?_⟩
  · rw [e, mLs_no (fun z => z.2.elim h (fun q => q hd))]
  · rcases Nat.lt_or_ge (tLm x ℓ p) 4 with q | q
    · have e2 : 4 - tLm x ℓ p = (3 - tLm x ℓ p) + 1 := by omega
      rw [e, e2, mLs_x ⟨rfl, Or.inr hd⟩ (tLm_end q), mLs_f]
      exact ⟨rfl, fun z => hd⟩
    · have e2 : 4 - tLm x ℓ p = 0 := by omega
      rw [e, e2]
      exact ⟨rfl, fun z => hd⟩
theorem mLt_y {x : Nat → Nat} {ℓ p : Nat} (h : tLm x ℓ p ≠ 0) (hd : tHere x ℓ (p + tLm x ℓ p) = some 46) : mLt x ℓ p true = (p + tLm x ℓ p + 1, true, tLm x ℓ p, tLc x p (tLm x ℓ p)) := by
  unfold mLt
  rw [(mLs_m h).1 hd]
  have e : mDot x ℓ (p + tLm x ℓ p) = true := decide_eq_true hd
  simp only [e]
  rfl
theorem mLt_n {x : Nat → Nat} {ℓ p : Nat} (h : tLm x ℓ p ≠ 0) (hd : tHere x ℓ (p + tLm x ℓ p) ≠ some 46) : (mLt x ℓ p true).1 = p + tLm x ℓ p ∧ (mLt x ℓ p true).2.1 = false := by
  have e := ((mLs_m h).2 hd).1
  have e2 : mDot x ℓ (p + tLm x ℓ p) = false := decide_eq_false hd
  unfold mLt
  rw [e, e2]
  simp [mTake]
theorem mTake_p (p : Nat) (g a : Bool) : mTake p g a ≤ p + 1 := by unfold mTake; split <;> omega
theorem mAZ_z {x : Nat → Nat} {ℓ p : Nat} (hx : ∀ j, x j < 256) : (oI (tHere x ℓ p) - nI 65).toInt = match tHere x ℓ p with | none => -66 | some s => (s : Int) - 65 := by
  cases h : tHere x ℓ p with
  | none => decide
  | some s =>
    have hs : s < 256 := by have := tHere_lt h; rw [← this.2]; exact hx p
    have e : (oI (some s)).toInt = (s : Int) := nI_toInt (by omega)
    have e2 : (nI 65).toInt = 65 := by decide
    rw [Int32.toInt_sub, e, e2]
    exact Int.bmod_eq_of_le (by omega) (by omega)
theorem mAZ_ok {x : Nat → Nat} {ℓ p : Nat} (hx : ∀ j, x j < 256) : decide ((lN 0).toInt ≤ (oI (tHere x ℓ p) - nI 65).toInt64.toInt ∧ (oI (tHere x ℓ p) - nI 65).toInt64.toInt ≤ (25 : Int64).toInt) = tAZ x ℓ p := by
  rw [i2lZ, lN_Z (by decide), show (25 : Int64).toInt = 25 by decide, mAZ_z hx]
  unfold tAZ
  cases h : tHere x ℓ p with
  | none => exact decide_eq_false (by simp)
  | some s => exact decide_eq_decide.mpr (by simp only; omega)
theorem mLs_v {x : Nat → Nat} {ℓ p : Nat} {gb : Bool} (hx : ∀ j, x j < 256) (h : (gb && tAZ x ℓ p) = true) : oI (tHere x ℓ p) - nI 65 = nI (x p - 65) := by
  have h2 := (Bool.and_eq_true _ _ ▸ h : gb = true ∧ tAZ x ℓ p = true).2
  apply ninZ
  rw [mAZ_z hx]
  unfold tAZ at h2
  cases hh : tHere x ℓ p with
  | none => rw [hh] at h2; cases h2
  | some s =>
    rw [hh] at h2
    have h3 := of_decide_eq_true h2
    have h4 := (tHere_lt hh).2
    simp only
    omega
theorem mLs_b1 {x : Nat → Nat} {ℓ p r cd : Nat} {gb : Bool} {R : Nat × Bool × Nat × Nat} (h : gb = true ∧ (r = 0 ∨ tHere x ℓ p ≠ some 46)) (e : 4 - r = (4 - (r + 1)) + 1) (hs : mLs x ℓ (4 - r) p gb r cd = R) (c : (gb && tAZ x ℓ p) = true) : mLs x ℓ (4 - (r + 1)) (mTake p gb (tAZ x ℓ p)) (gb && tAZ x ℓ p) (r + 1) (26 * cd + (x p - 65)) = R := by
  have h2 := (Bool.and_eq_true _ _ ▸ c : gb = true ∧ tAZ x ℓ p = true).2
  rw [e, mLs_y h h2] at hs
  rw [c, show mTake p gb (tAZ x ℓ p) = p + 1 from if_pos c]
  exact hs
theorem mLs_b0 {x : Nat → Nat} {ℓ p r cd : Nat} {gb : Bool} {R : Nat × Bool × Nat × Nat} (h : gb = true ∧ (r = 0 ∨ tHere x ℓ p ≠ some 46)) (e : 4 - r = (4 - (r + 1)) + 1) (hs : mLs x ℓ (4 - r) p gb r cd = R) (c : (gb && tAZ x ℓ p) = false) : mLs x ℓ (4 - (r + 1)) (mTake p gb (tAZ x ℓ p)) (gb && tAZ x ℓ p) (r + 1) (26 * cd + 0) = R := by
  have h2 : tAZ x ℓ p = false := by rw [h.1] at c; exact c
  rw [e, mLs_x h h2] at hs
  rw [c, show mTake p gb (tAZ x ℓ p) = p from if_neg (by rw [c]; decide)]
  exact hs
set_option maxHeartbeats 4000000 in
set_option maxRecDepth 20000 in
theorem c_X11_readLetters {h : eH} {n m bad c ℓ ap lo lr : Nat} {gd : Bool} {x : Nat → Nat} (hM : eMB h m bad c ℓ ap gd lo lr) (hX : eArr h (m + 8) 0 120 ℓ x) (hx : ∀ j, x j < 256) (hap : ap < 2 ^ 29) : kX11_readLetters [.ref m] h n (.inl (some (.int (nI (mLt x ℓ ap gd).2.2.2))), (fun g => eMB g m bad c ℓ (mLt x ℓ ap gd).1 (mLt x ℓ ap gd).2.1 lo (mLt x ℓ ap gd).2.2.1 ∧ eFr h g m (m + 1)), some n) 0 0 := by
  refine eM.of RX11 "readLetters" [(0, .ref m)] pn_X11 rfl rfl (Nat.le_of_ble_eq_true rfl) rfl ?_
  have FR : eFr h h m (m + 1) := eFr.rf
  refine ev_iconst (v := nI 0) dX11_readLetters_0 rfl ?_
  refine ev_istore_n dX11_readLetters_1 rfl (Nat.le_of_ble_eq_true rfl) ?_
  refine ev_aload_n dX11_readLetters_2 rfl rfl ?_
  refine ev_iconst (v := nI 0) dX11_readLetters_3 rfl ?_
  refine ev_putH dX11_readLetters_4 pl_X11_146 (by first | assumption | omega | exact eMB.ob (by assumption)) (Nat.le_of_ble_eq_true rfl) rfl rfl (fun g_4 fr_4 w_4 => ?_)
  replace hM := w_4
  first | replace hX := eRow.fr hX (fr_4 _ (by omega)) | replace hX := eMB.fr hX (fr_4 _ (by omega)) | replace hX := eArr.fr hX (fr_4 _ (by omega)) | replace hX := Eq.trans (fr_4 _ (by omega)) hX | replace hX := eBo.fr hX (fr_4 _ (by omega)) | replace hX := ePp.fr1 hX (fun a _ _ => fr_4 a (by omega)) | replace hX := eNm.fr1 hX (fun a _ _ => fr_4 a (by omega)) | replace hX := eRg.fr hX (fun a _ _ => fr_4 a (by omega)) | replace hX := eTx.fr hX (fun a _ _ => fr_4 a (by omega)) | replace hX := ePa.fr hX (fun a _ _ => fr_4 a (by omega)) | replace hX := eRf.fr hX (fr_4 _ (by omega)) | replace hX := eSl.fr hX (fun a _ _ => fr_4 a (by omega)) | replace hX := eSe.fr hX (fun a _ _ => fr_4 a (by omega)) | replace hX := z_4 hX | replace hX := z_4
  first | replace FR := eFr.trans FR (eFr.one fr_4 (by omega) (by omega)) | replace FR := eFr.trans FR (eFr.wide fr_4 (by omega) (by omega)) | replace FR := eF2.a FR fr_4 | replace FR := eF2.b FR fr_4 | replace FR := eF2.c FR fr_4 | replace FR := eF2.t FR fr_4
  have H_7 : ∀ (d_7 : Nat) (r p cd : Nat) (gb : Bool) (g : eH), d_7 = 4 - r → (r ≤ 4) → (p ≤ ap + r) → (mLs x ℓ (4 - r) p gb r cd = mLs x ℓ 4 ap gd 0 0) → (eMB g m bad c ℓ p gb lo r) → (eArr g (m + 8) 0 120 ℓ x) → (eFr h g m (m + 1)) → eV mX11_readLetters 7 [(0, .ref m), (1, .int (nI cd))] [] (g, n, 0, 0) (.inl (some (.int (nI (mLt x ℓ ap gd).2.2.2))), (fun g => eMB g m bad c ℓ (mLt x ℓ ap gd).1 (mLt x ℓ ap gd).2.1 lo (mLt x ℓ ap gd).2.2.1 ∧ eFr h g m (m + 1)), some n) 0 0 := by
    intro d_7
    induction d_7 using Nat.strongRecOn with
    | _ d_7 ih_7 =>
    intro r p cd gb g hd_7 hr hp hs hM hX FR
    refine ev_aload_n dX11_readLetters_7 rfl rfl ?_
    refine ev_getfield dX11_readLetters_8 fl_X11_127 (by first | assumption | omega | exact eMB.ob (by assumption)) rfl ?_
    first | ((with_reducible show eV _ _ _ (Value.int (bI _) :: _) _ _ _ _); refine ev_if_eqB (tgt := 90) dX11_readLetters_11 (by decide) (fun c_11 => ?_) (fun c_11 => ?_)) | ((with_reducible show eV _ _ _ (Value.int (nI _) :: _) _ _ _ _); refine ev_if_eqN (tgt := 90) dX11_readLetters_11 (by decide) (by omega) (fun c_11 => ?_) (fun c_11 => ?_)) | (refine ev_if_eqZ (tgt := 90) dX11_readLetters_11 (by decide) (fun c_11 => ?_) (fun c_11 => ?_))
    · have hsx : (p, gb, r, cd) = mLs x ℓ 4 ap gd 0 0 := by rw [← hs]; first | exact (mLs_no (fun z => z.2.elim c_26 (fun q => q c_35))).symm | (rw [show 4 - r = 0 by omega]; rfl) | exact (mLs_no (fun z => absurd (z.1.symm.trans c_11) (by decide))).symm
      refine ev_aload_n dX11_readLetters_90 rfl rfl ?_
      refine ev_aload_n dX11_readLetters_91 rfl rfl ?_
      refine ev_callVi dX11_readLetters_92 (c_X11_here hM hX (by omega)) rfl lk_X11_131 (by first | assumption | omega | exact eMB.ob (by assumption)) ⟨Nat.le_of_ble_eq_true rfl, Nat.le_of_ble_eq_true rfl⟩ rfl (Nat.le_of_ble_eq_true rfl) ⟨by first | exact Nat.le_of_ble_eq_true rfl | omega, by first | exact Nat.le_of_ble_eq_true rfl | omega⟩ (eRo ?_)
      refine ev_bipush (v := nI 46) dX11_readLetters_95 rfl ?_
      first | ((with_reducible show eV _ _ _ (Value.int (nI _) :: Value.int (nI _) :: _) _ _ _ _); refine ev_icmp_neN (tgt := 104) dX11_readLetters_97 (by decide) (by omega) (by omega) (fun c_97 => ?_) (fun c_97 => ?_)) | ((with_reducible show eV _ _ _ (Value.int (-1) :: Value.int (oI _) :: _) _ _ _ _); refine ev_icmp_neO (tgt := 104) dX11_readLetters_97 (by decide) (by exact tHere_b hx) (fun c_97 => ?_) (fun c_97 => ?_)) | ((with_reducible show eV _ _ _ (Value.int (nI _) :: Value.int (oI _) :: _) _ _ _ _); refine ev_icmp_neON (tgt := 104) dX11_readLetters_97 (by decide) (by omega) (by exact tHere_b hx) (fun c_97 => ?_) (fun c_97 => ?_)) | ((with_reducible show eV _ _ _ (Value.int (nI _) :: _) _ _ _ _); refine ev_icmp_neZN (tgt := 104) dX11_readLetters_97 (by decide) (by omega) (fun c_97 => ?_) (fun c_97 => ?_)) | ((with_reducible show eV _ _ _ (_ :: Value.int (nI _) :: _) _ _ _ _); refine ev_icmp_neNZ (tgt := 104) dX11_readLetters_97 (by decide) (by omega) (fun c_97 => ?_) (fun c_97 => ?_)) | (refine ev_icmp_neZZ (tgt := 104) dX11_readLetters_97 (by decide) (fun c_97 => ?_) (fun c_97 => ?_))
      · refine ev_iconst (v := nI 0) dX11_readLetters_104 rfl ?_
        refine ev_top (show nI 0 = bI (mDot x ℓ p) from (congrArg bI (decide_eq_false c_97)).symm) ?_
        refine ev_callVv dX11_readLetters_105 (c_X11_take (a := mDot x ℓ p) hM) rfl lk_X11_135 (by first | assumption | omega | exact eMB.ob (by assumption)) ⟨Nat.le_of_ble_eq_true rfl, Nat.le_of_ble_eq_true rfl⟩ rfl (Nat.le_of_ble_eq_true rfl) ⟨by first | exact Nat.le_of_ble_eq_true rfl | omega, by first | exact Nat.le_of_ble_eq_true rfl | omega⟩ (fun g_105 hg_105 => ?_)
        obtain ⟨w_105, fr_105⟩ := hg_105
        replace hM := w_105
        first | replace hX := eRow.fr hX (fr_105 _ (by omega)) | replace hX := eMB.fr hX (fr_105 _ (by omega)) | replace hX := eArr.fr hX (fr_105 _ (by omega)) | replace hX := Eq.trans (fr_105 _ (by omega)) hX | replace hX := eBo.fr hX (fr_105 _ (by omega)) | replace hX := ePp.fr1 hX (fun a _ _ => fr_105 a (by omega)) | replace hX := eNm.fr1 hX (fun a _ _ => fr_105 a (by omega)) | replace hX := eRg.fr hX (fun a _ _ => fr_105 a (by omega)) | replace hX := eTx.fr hX (fun a _ _ => fr_105 a (by omega)) | replace hX := ePa.fr hX (fun a _ _ => fr_105 a (by omega)) | replace hX := eRf.fr hX (fr_105 _ (by omega)) | replace hX := eSl.fr hX (fun a _ _ => fr_105 a (by omega)) | replace hX := eSe.fr hX (fun a _ _ => fr_105 a (by omega)) | replace hX := z_105 hX | replace hX := z_105
        first | replace FR := eFr.trans FR (eFr.one fr_105 (by omega) (by omega)) | replace FR := eFr.trans FR (eFr.wide fr_105 (by omega) (by omega)) | replace FR := eF2.a FR fr_105 | replace FR := eF2.b FR fr_105 | replace FR := eF2.c FR fr_105 | replace FR := eF2.t FR fr_105
        refine ev_iload_n dX11_readLetters_108 rfl rfl ?_
        exact ev_iret dX11_readLetters_109 rfl rfl (by exact nR (by unfold mLt; rw [← hsx])) (by exact ⟨by unfold mLt; rw [← hsx]; exact hM, FR⟩) (fun _ e => by first | exact Option.some.inj e | (have e2 := Option.some.inj e; omega)) (by first | exact Nat.le_of_ble_eq_true rfl | omega) (by first | exact Nat.le_of_ble_eq_true rfl | omega)
      · refine ev_iconst (v := nI 1) dX11_readLetters_100 rfl ?_
        refine ev_top (show nI 1 = bI (mDot x ℓ p) from (congrArg bI (decide_eq_true c_97)).symm) ?_
        refine ev_goto (tgt := 105) dX11_readLetters_101 (by decide) ?_
        refine ev_callVv dX11_readLetters_105 (c_X11_take (a := mDot x ℓ p) hM) rfl lk_X11_135 (by first | assumption | omega | exact eMB.ob (by assumption)) ⟨Nat.le_of_ble_eq_true rfl, Nat.le_of_ble_eq_true rfl⟩ rfl (Nat.le_of_ble_eq_true rfl) ⟨by first | exact Nat.le_of_ble_eq_true rfl | omega, by first | exact Nat.le_of_ble_eq_true rfl | omega⟩ (fun g_105 hg_105 => ?_)
        obtain ⟨w_105, fr_105⟩ := hg_105
        replace hM := w_105
        first | replace hX := eRow.fr hX (fr_105 _ (by omega)) | replace hX := eMB.fr hX (fr_105 _ (by omega)) | replace hX := eArr.fr hX (fr_105 _ (by omega)) | replace hX := Eq.trans (fr_105 _ (by omega)) hX | replace hX := eBo.fr hX (fr_105 _ (by omega)) | replace hX := ePp.fr1 hX (fun a _ _ => fr_105 a (by omega)) | replace hX := eNm.fr1 hX (fun a _ _ => fr_105 a (by omega)) | replace hX := eRg.fr hX (fun a _ _ => fr_105 a (by omega)) | replace hX := eTx.fr hX (fun a _ _ => fr_105 a (by omega)) | replace hX := ePa.fr hX (fun a _ _ => fr_105 a (by omega)) | replace hX := eRf.fr hX (fr_105 _ (by omega)) | replace hX := eSl.fr hX (fun a _ _ => fr_105 a (by omega)) | replace hX := eSe.fr hX (fun a _ _ => fr_105 a (by omega)) | replace hX := z_105 hX | replace hX := z_105
        first | replace FR := eFr.trans FR (eFr.one fr_105 (by omega) (by omega)) | replace FR := eFr.trans FR (eFr.wide fr_105 (by omega) (by omega)) | replace FR := eF2.a FR fr_105 | replace FR := eF2.b FR fr_105 | replace FR := eF2.c FR fr_105 | replace FR := eF2.t FR fr_105
        refine ev_iload_n dX11_readLetters_108 rfl rfl ?_
        exact ev_iret dX11_readLetters_109 rfl rfl (by exact nR (by unfold mLt; rw [← hsx])) (by exact ⟨by unfold mLt; rw [← hsx]; exact hM, FR⟩) (fun _ e => by first | exact Option.some.inj e | (have e2 := Option.some.inj e; omega)) (by first | exact Nat.le_of_ble_eq_true rfl | omega) (by first | exact Nat.le_of_ble_eq_true rfl | omega)
    · refine ev_aload_n dX11_readLetters_14 rfl rfl ?_
      refine ev_getfield dX11_readLetters_15 fl_X11_146 (by first | assumption | omega | exact eMB.ob (by assumption)) rfl ?_
      refine ev_iconst (v := nI 4) dX11_readLetters_18 rfl ?_
      first | ((with_reducible show eV _ _ _ (Value.int (nI _) :: Value.int (nI _) :: _) _ _ _ _); refine ev_icmp_geN (tgt := 90) dX11_readLetters_19 (by decide) (by omega) (by omega) (fun c_19 => ?_) (fun c_19 => ?_)) | ((with_reducible show eV _ _ _ (Value.int (nI _) :: _) _ _ _ _); refine ev_icmp_geZN (tgt := 90) dX11_readLetters_19 (by decide) (by omega) (fun c_19 => ?_) (fun c_19 => ?_)) | ((with_reducible show eV _ _ _ (_ :: Value.int (nI _) :: _) _ _ _ _); refine ev_icmp_geNZ (tgt := 90) dX11_readLetters_19 (by decide) (by omega) (fun c_19 => ?_) (fun c_19 => ?_)) | (refine ev_icmp_geZZ (tgt := 90) dX11_readLetters_19 (by decide) (fun c_19 => ?_) (fun c_19 => ?_))
      · have hsx : (p, gb, r, cd) = mLs x ℓ 4 ap gd 0 0 := by rw [← hs]; first | exact (mLs_no (fun z => z.2.elim c_26 (fun q => q c_35))).symm | (rw [show 4 - r = 0 by omega]; rfl) | exact (mLs_no (fun z => absurd (z.1.symm.trans c_11) (by decide))).symm
        refine ev_aload_n dX11_readLetters_90 rfl rfl ?_
        refine ev_aload_n dX11_readLetters_91 rfl rfl ?_
        refine ev_callVi dX11_readLetters_92 (c_X11_here hM hX (by omega)) rfl lk_X11_131 (by first | assumption | omega | exact eMB.ob (by assumption)) ⟨Nat.le_of_ble_eq_true rfl, Nat.le_of_ble_eq_true rfl⟩ rfl (Nat.le_of_ble_eq_true rfl) ⟨by first | exact Nat.le_of_ble_eq_true rfl | omega, by first | exact Nat.le_of_ble_eq_true rfl | omega⟩ (eRo ?_)
        refine ev_bipush (v := nI 46) dX11_readLetters_95 rfl ?_
        first | ((with_reducible show eV _ _ _ (Value.int (nI _) :: Value.int (nI _) :: _) _ _ _ _); refine ev_icmp_neN (tgt := 104) dX11_readLetters_97 (by decide) (by omega) (by omega) (fun c_97 => ?_) (fun c_97 => ?_)) | ((with_reducible show eV _ _ _ (Value.int (-1) :: Value.int (oI _) :: _) _ _ _ _); refine ev_icmp_neO (tgt := 104) dX11_readLetters_97 (by decide) (by exact tHere_b hx) (fun c_97 => ?_) (fun c_97 => ?_)) | ((with_reducible show eV _ _ _ (Value.int (nI _) :: Value.int (oI _) :: _) _ _ _ _); refine ev_icmp_neON (tgt := 104) dX11_readLetters_97 (by decide) (by omega) (by exact tHere_b hx) (fun c_97 => ?_) (fun c_97 => ?_)) | ((with_reducible show eV _ _ _ (Value.int (nI _) :: _) _ _ _ _); refine ev_icmp_neZN (tgt := 104) dX11_readLetters_97 (by decide) (by omega) (fun c_97 => ?_) (fun c_97 => ?_)) | ((with_reducible show eV _ _ _ (_ :: Value.int (nI _) :: _) _ _ _ _); refine ev_icmp_neNZ (tgt := 104) dX11_readLetters_97 (by decide) (by omega) (fun c_97 => ?_) (fun c_97 => ?_)) | (refine ev_icmp_neZZ (tgt := 104) dX11_readLetters_97 (by decide) (fun c_97 => ?_) (fun c_97 => ?_))
        · refine ev_iconst (v := nI 0) dX11_readLetters_104 rfl ?_
          refine ev_top (show nI 0 = bI (mDot x ℓ p) from (congrArg bI (decide_eq_false c_97)).symm) ?_
          refine ev_callVv dX11_readLetters_105 (c_X11_take (a := mDot x ℓ p) hM) rfl lk_X11_135 (by first | assumption | omega | exact eMB.ob (by assumption)) ⟨Nat.le_of_ble_eq_true rfl, Nat.le_of_ble_eq_true rfl⟩ rfl (Nat.le_of_ble_eq_true rfl) ⟨by first | exact Nat.le_of_ble_eq_true rfl | omega, by first | exact Nat.le_of_ble_eq_true rfl | omega⟩ (fun g_105 hg_105 => ?_)
          obtain ⟨w_105, fr_105⟩ := hg_105
          replace hM := w_105
          first | replace hX := eRow.fr hX (fr_105 _ (by omega)) | replace hX := eMB.fr hX (fr_105 _ (by omega)) | replace hX := eArr.fr hX (fr_105 _ (by omega)) | replace hX := Eq.trans (fr_105 _ (by omega)) hX | replace hX := eBo.fr hX (fr_105 _ (by omega)) | replace hX := ePp.fr1 hX (fun a _ _ => fr_105 a (by omega)) | replace hX := eNm.fr1 hX (fun a _ _ => fr_105 a (by omega)) | replace hX := eRg.fr hX (fun a _ _ => fr_105 a (by omega)) | replace hX := eTx.fr hX (fun a _ _ => fr_105 a (by omega)) | replace hX := ePa.fr hX (fun a _ _ => fr_105 a (by omega)) | replace hX := eRf.fr hX (fr_105 _ (by omega)) | replace hX := eSl.fr hX (fun a _ _ => fr_105 a (by omega)) | replace hX := eSe.fr hX (fun a _ _ => fr_105 a (by omega)) | replace hX := z_105 hX | replace hX := z_105
          first | replace FR := eFr.trans FR (eFr.one fr_105 (by omega) (by omega)) | replace FR := eFr.trans FR (eFr.wide fr_105 (by omega) (by omega)) | replace FR := eF2.a FR fr_105 | replace FR := eF2.b FR fr_105 | replace FR := eF2.c FR fr_105 | replace FR := eF2.t FR fr_105
          refine ev_iload_n dX11_readLetters_108 rfl rfl ?_
          exact ev_iret dX11_readLetters_109 rfl rfl (by exact nR (by unfold mLt; rw [← hsx])) (by exact ⟨by unfold mLt; rw [← hsx]; exact hM, FR⟩) (fun _ e => by first | exact Option.some.inj e | (have e2 := Option.some.inj e; omega)) (by first | exact Nat.le_of_ble_eq_true rfl | omega) (by first | exact Nat.le_of_ble_eq_true rfl | omega)
        · refine ev_iconst (v := nI 1) dX11_readLetters_100 rfl ?_
          refine ev_top (show nI 1 = bI (mDot x ℓ p) from (congrArg bI (decide_eq_true c_97)).symm) ?_
          refine ev_goto (tgt := 105) dX11_readLetters_101 (by decide) ?_
          refine ev_callVv dX11_readLetters_105 (c_X11_take (a := mDot x ℓ p) hM) rfl lk_X11_135 (by first | assumption | omega | exact eMB.ob (by assumption)) ⟨Nat.le_of_ble_eq_true rfl, Nat.le_of_ble_eq_true rfl⟩ rfl (Nat.le_of_ble_eq_true rfl) ⟨by first | exact Nat.le_of_ble_eq_true rfl | omega, by first | exact Nat.le_of_ble_eq_true rfl | omega⟩ (fun g_105 hg_105 => ?_)
          obtain ⟨w_105, fr_105⟩ := hg_105
          replace hM := w_105
          first | replace hX := eRow.fr hX (fr_105 _ (by omega)) | replace hX := eMB.fr hX (fr_105 _ (by omega)) | replace hX := eArr.fr hX (fr_105 _ (by omega)) | replace hX := Eq.trans (fr_105 _ (by omega)) hX | replace hX := eBo.fr hX (fr_105 _ (by omega)) | replace hX := ePp.fr1 hX (fun a _ _ => fr_105 a (by omega)) | replace hX := eNm.fr1 hX (fun a _ _ => fr_105 a (by omega)) | replace hX := eRg.fr hX (fun a _ _ => fr_105 a (by omega)) | replace hX := eTx.fr hX (fun a _ _ => fr_105 a (by omega)) | replace hX := ePa.fr hX (fun a _ _ => fr_105 a (by omega)) | replace hX := eRf.fr hX (fr_105 _ (by omega)) | replace hX := eSl.fr hX (fun a _ _ => fr_105 a (by omega)) | replace hX := eSe.fr hX (fun a _ _ => fr_105 a (by omega)) | replace hX := z_105 hX | replace hX := z_105
          first | replace FR := eFr.trans FR (eFr.one fr_105 (by omega) (by omega)) | replace FR := eFr.trans FR (eFr.wide fr_105 (by omega) (by omega)) | replace FR := eF2.a FR fr_105 | replace FR := eF2.b FR fr_105 | replace FR := eF2.c FR fr_105 | replace FR := eF2.t FR fr_105
          refine ev_iload_n dX11_readLetters_108 rfl rfl ?_
          exact ev_iret dX11_readLetters_109 rfl rfl (by exact nR (by unfold mLt; rw [← hsx])) (by exact ⟨by unfold mLt; rw [← hsx]; exact hM, FR⟩) (fun _ e => by first | exact Option.some.inj e | (have e2 := Option.some.inj e; omega)) (by first | exact Nat.le_of_ble_eq_true rfl | omega) (by first | exact Nat.le_of_ble_eq_true rfl | omega)
      · refine ev_aload_n dX11_readLetters_22 rfl rfl ?_
        refine ev_getfield dX11_readLetters_23 fl_X11_146 (by first | assumption | omega | exact eMB.ob (by assumption)) rfl ?_
        first | ((with_reducible show eV _ _ _ (Value.int (bI _) :: _) _ _ _ _); refine ev_if_eqB (tgt := 38) dX11_readLetters_26 (by decide) (fun c_26 => ?_) (fun c_26 => ?_)) | ((with_reducible show eV _ _ _ (Value.int (nI _) :: _) _ _ _ _); refine ev_if_eqN (tgt := 38) dX11_readLetters_26 (by decide) (by omega) (fun c_26 => ?_) (fun c_26 => ?_)) | (refine ev_if_eqZ (tgt := 38) dX11_readLetters_26 (by decide) (fun c_26 => ?_) (fun c_26 => ?_))
        · have hcond : gb = true ∧ (r = 0 ∨ tHere x ℓ p ≠ some 46) := by first | exact ⟨c_11, Or.inl c_26⟩ | exact ⟨c_11, Or.inr c_35⟩
          have e4 : 4 - r = (4 - (r + 1)) + 1 := by omega
          refine ev_aload_n dX11_readLetters_38 rfl rfl ?_
          refine ev_callVi dX11_readLetters_39 (c_X11_here hM hX (by omega)) rfl lk_X11_131 (by first | assumption | omega | exact eMB.ob (by assumption)) ⟨Nat.le_of_ble_eq_true rfl, Nat.le_of_ble_eq_true rfl⟩ rfl (Nat.le_of_ble_eq_true rfl) ⟨by first | exact Nat.le_of_ble_eq_true rfl | omega, by first | exact Nat.le_of_ble_eq_true rfl | omega⟩ (eRo ?_)
          refine ev_bipush (v := nI 65) dX11_readLetters_42 rfl ?_
          refine ev_isub dX11_readLetters_44 ?_
          refine ev_istore_n dX11_readLetters_45 rfl (Nat.le_of_ble_eq_true rfl) ?_
          refine ev_aload_n dX11_readLetters_46 rfl rfl ?_
          refine ev_iload_n dX11_readLetters_47 rfl rfl ?_
          refine ev_i2l dX11_readLetters_48 rfl ?_
          refine ev_lconst (v := lN 0) dX11_readLetters_49 rfl ?_
          refine ev_ldc2 dX11_readLetters_50 wq_X11_149 ?_
          refine ev_callSi dX11_readLetters_53 c_X11_in lk_X11_45 ⟨Nat.le_of_ble_eq_true rfl, Nat.le_of_ble_eq_true rfl⟩ rfl (Nat.le_of_ble_eq_true rfl) ⟨by first | exact Nat.le_of_ble_eq_true rfl | omega, by first | exact Nat.le_of_ble_eq_true rfl | omega⟩ (eRo ?_)
          rw [mAZ_ok hx]
          refine ev_callVv dX11_readLetters_56 (c_X11_take hM) rfl lk_X11_135 (by first | assumption | omega | exact eMB.ob (by assumption)) ⟨Nat.le_of_ble_eq_true rfl, Nat.le_of_ble_eq_true rfl⟩ rfl (Nat.le_of_ble_eq_true rfl) ⟨by first | exact Nat.le_of_ble_eq_true rfl | omega, by first | exact Nat.le_of_ble_eq_true rfl | omega⟩ (fun g_56 hg_56 => ?_)
          obtain ⟨w_56, fr_56⟩ := hg_56
          replace hM := w_56
          first | replace hX := eRow.fr hX (fr_56 _ (by omega)) | replace hX := eMB.fr hX (fr_56 _ (by omega)) | replace hX := eArr.fr hX (fr_56 _ (by omega)) | replace hX := Eq.trans (fr_56 _ (by omega)) hX | replace hX := eBo.fr hX (fr_56 _ (by omega)) | replace hX := ePp.fr1 hX (fun a _ _ => fr_56 a (by omega)) | replace hX := eNm.fr1 hX (fun a _ _ => fr_56 a (by omega)) | replace hX := eRg.fr hX (fun a _ _ => fr_56 a (by omega)) | replace hX := eTx.fr hX (fun a _ _ => fr_56 a (by omega)) | replace hX := ePa.fr hX (fun a _ _ => fr_56 a (by omega)) | replace hX := eRf.fr hX (fr_56 _ (by omega)) | replace hX := eSl.fr hX (fun a _ _ => fr_56 a (by omega)) | replace hX := eSe.fr hX (fun a _ _ => fr_56 a (by omega)) | replace hX := z_56 hX | replace hX := z_56
          first | replace FR := eFr.trans FR (eFr.one fr_56 (by omega) (by omega)) | replace FR := eFr.trans FR (eFr.wide fr_56 (by omega) (by omega)) | replace FR := eF2.a FR fr_56 | replace FR := eF2.b FR fr_56 | replace FR := eF2.c FR fr_56 | replace FR := eF2.t FR fr_56
          refine ev_bipush (v := nI 26) dX11_readLetters_59 rfl ?_
          refine ev_iload_n dX11_readLetters_61 rfl rfl ?_
          first | refine ev_imulN dX11_readLetters_62 ?_ | refine ev_imul dX11_readLetters_62 ?_
          refine ev_aload_n dX11_readLetters_63 rfl rfl ?_
          refine ev_getfield dX11_readLetters_64 fl_X11_127 (by first | assumption | omega | exact eMB.ob (by assumption)) rfl ?_
          first | ((with_reducible show eV _ _ _ (Value.int (bI _) :: _) _ _ _ _); refine ev_if_eqB (tgt := 74) dX11_readLetters_67 (by decide) (fun c_67 => ?_) (fun c_67 => ?_)) | ((with_reducible show eV _ _ _ (Value.int (nI _) :: _) _ _ _ _); refine ev_if_eqN (tgt := 74) dX11_readLetters_67 (by decide) (by omega) (fun c_67 => ?_) (fun c_67 => ?_)) | (refine ev_if_eqZ (tgt := 74) dX11_readLetters_67 (by decide) (fun c_67 => ?_) (fun c_67 => ?_))
          · refine ev_iconst (v := nI 0) dX11_readLetters_74 rfl ?_
            first | refine ev_iaddN dX11_readLetters_75 ?_ | refine ev_iadd dX11_readLetters_75 ?_
            refine ev_istore_n dX11_readLetters_76 rfl (Nat.le_of_ble_eq_true rfl) ?_
            refine ev_aload_n dX11_readLetters_77 rfl rfl ?_
            refine ev_dup dX11_readLetters_78 rfl ?_
            refine ev_getfield dX11_readLetters_79 fl_X11_146 (by first | assumption | omega | exact eMB.ob (by assumption)) rfl ?_
            refine ev_iconst (v := nI 1) dX11_readLetters_82 rfl ?_
            first | refine ev_iaddN dX11_readLetters_83 ?_ | refine ev_iadd dX11_readLetters_83 ?_
            refine ev_putH dX11_readLetters_84 pl_X11_146 (by first | assumption | omega | exact eMB.ob (by assumption)) (Nat.le_of_ble_eq_true rfl) rfl rfl (fun g_84 fr_84 w_84 => ?_)
            replace hM := w_84
            first | replace hX := eRow.fr hX (fr_84 _ (by omega)) | replace hX := eMB.fr hX (fr_84 _ (by omega)) | replace hX := eArr.fr hX (fr_84 _ (by omega)) | replace hX := Eq.trans (fr_84 _ (by omega)) hX | replace hX := eBo.fr hX (fr_84 _ (by omega)) | replace hX := ePp.fr1 hX (fun a _ _ => fr_84 a (by omega)) | replace hX := eNm.fr1 hX (fun a _ _ => fr_84 a (by omega)) | replace hX := eRg.fr hX (fun a _ _ => fr_84 a (by omega)) | replace hX := eTx.fr hX (fun a _ _ => fr_84 a (by omega)) | replace hX := ePa.fr hX (fun a _ _ => fr_84 a (by omega)) | replace hX := eRf.fr hX (fr_84 _ (by omega)) | replace hX := eSl.fr hX (fun a _ _ => fr_84 a (by omega)) | replace hX := eSe.fr hX (fun a _ _ => fr_84 a (by omega)) | replace hX := z_84 hX | replace hX := z_84
            first | replace FR := eFr.trans FR (eFr.one fr_84 (by omega) (by omega)) | replace FR := eFr.trans FR (eFr.wide fr_84 (by omega) (by omega)) | replace FR := eF2.a FR fr_84 | replace FR := eF2.b FR fr_84 | replace FR := eF2.c FR fr_84 | replace FR := eF2.t FR fr_84
            refine ev_goto (tgt := 7) dX11_readLetters_87 (by decide) ?_
            exact (ih_7 _ (by omega) (r + 1) (mTake p gb (tAZ x ℓ p)) _ (gb && tAZ x ℓ p) _ rfl (by first | omega | assumption | rfl) (by exact Nat.le_trans (mTake_p _ _ _) (by omega)) (by first | exact mLs_b1 hcond e4 hs c_67 | exact mLs_b0 hcond e4 hs c_67) (by exact hM) (by first | omega | assumption | rfl) (by first | omega | assumption | rfl)).sub1 ⟨rfl, rfl, trivial⟩ rfl
          · have hz := mLs_v hx c_67
            rw [hz]
            refine ev_iload_n dX11_readLetters_70 rfl rfl ?_
            refine ev_goto (tgt := 75) dX11_readLetters_71 (by decide) ?_
            first | refine ev_iaddN dX11_readLetters_75 ?_ | refine ev_iadd dX11_readLetters_75 ?_
            refine ev_istore_n dX11_readLetters_76 rfl (Nat.le_of_ble_eq_true rfl) ?_
            refine ev_aload_n dX11_readLetters_77 rfl rfl ?_
            refine ev_dup dX11_readLetters_78 rfl ?_
            refine ev_getfield dX11_readLetters_79 fl_X11_146 (by first | assumption | omega | exact eMB.ob (by assumption)) rfl ?_
            refine ev_iconst (v := nI 1) dX11_readLetters_82 rfl ?_
            first | refine ev_iaddN dX11_readLetters_83 ?_ | refine ev_iadd dX11_readLetters_83 ?_
            refine ev_putH dX11_readLetters_84 pl_X11_146 (by first | assumption | omega | exact eMB.ob (by assumption)) (Nat.le_of_ble_eq_true rfl) rfl rfl (fun g_84 fr_84 w_84 => ?_)
            replace hM := w_84
            first | replace hX := eRow.fr hX (fr_84 _ (by omega)) | replace hX := eMB.fr hX (fr_84 _ (by omega)) | replace hX := eArr.fr hX (fr_84 _ (by omega)) | replace hX := Eq.trans (fr_84 _ (by omega)) hX | replace hX := eBo.fr hX (fr_84 _ (by omega)) | replace hX := ePp.fr1 hX (fun a _ _ => fr_84 a (by omega)) | replace hX := eNm.fr1 hX (fun a _ _ => fr_84 a (by omega)) | replace hX := eRg.fr hX (fun a _ _ => fr_84 a (by omega)) | replace hX := eTx.fr hX (fun a _ _ => fr_84 a (by omega)) | replace hX := ePa.fr hX (fun a _ _ => fr_84 a (by omega)) | replace hX := eRf.fr hX (fr_84 _ (by omega)) | replace hX := eSl.fr hX (fun a _ _ => fr_84 a (by omega)) | replace hX := eSe.fr hX (fun a _ _ => fr_84 a (by omega)) | replace hX := z_84 hX | replace hX := z_84
            first | replace FR := eFr.trans FR (eFr.one fr_84 (by omega) (by omega)) | replace FR := eFr.trans FR (eFr.wide fr_84 (by omega) (by omega)) | replace FR := eF2.a FR fr_84 | replace FR := eF2.b FR fr_84 | replace FR := eF2.c FR fr_84 | replace FR := eF2.t FR fr_84
            refine ev_goto (tgt := 7) dX11_readLetters_87 (by decide) ?_
            exact (ih_7 _ (by omega) (r + 1) (mTake p gb (tAZ x ℓ p)) _ (gb && tAZ x ℓ p) _ rfl (by first | omega | assumption | rfl) (by exact Nat.le_trans (mTake_p _ _ _) (by omega)) (by first | exact mLs_b1 hcond e4 hs c_67 | exact mLs_b0 hcond e4 hs c_67) (by exact hM) (by first | omega | assumption | rfl) (by first | omega | assumption | rfl)).sub1 ⟨rfl, rfl, trivial⟩ rfl
        · refine ev_aload_n dX11_readLetters_29 rfl rfl ?_
          refine ev_callVi dX11_readLetters_30 (c_X11_here hM hX (by omega)) rfl lk_X11_131 (by first | assumption | omega | exact eMB.ob (by assumption)) ⟨Nat.le_of_ble_eq_true rfl, Nat.le_of_ble_eq_true rfl⟩ rfl (Nat.le_of_ble_eq_true rfl) ⟨by first | exact Nat.le_of_ble_eq_true rfl | omega, by first | exact Nat.le_of_ble_eq_true rfl | omega⟩ (eRo ?_)
          refine ev_bipush (v := nI 46) dX11_readLetters_33 rfl ?_
          first | ((with_reducible show eV _ _ _ (Value.int (nI _) :: Value.int (nI _) :: _) _ _ _ _); refine ev_icmp_eqN (tgt := 90) dX11_readLetters_35 (by decide) (by omega) (by omega) (fun c_35 => ?_) (fun c_35 => ?_)) | ((with_reducible show eV _ _ _ (Value.int (-1) :: Value.int (oI _) :: _) _ _ _ _); refine ev_icmp_eqO (tgt := 90) dX11_readLetters_35 (by decide) (by exact tHere_b hx) (fun c_35 => ?_) (fun c_35 => ?_)) | ((with_reducible show eV _ _ _ (Value.int (oI _) :: Value.int (nI _) :: _) _ _ _ _); refine ev_icmp_eqNO (tgt := 90) dX11_readLetters_35 (by decide) (by omega) (by exact tHere_b hx) (fun c_35 => ?_) (fun c_35 => ?_)) | ((with_reducible show eV _ _ _ (Value.int (nI _) :: Value.int (oI _) :: _) _ _ _ _); refine ev_icmp_eqON (tgt := 90) dX11_readLetters_35 (by decide) (by omega) (by exact tHere_b hx) (fun c_35 => ?_) (fun c_35 => ?_)) | ((with_reducible show eV _ _ _ (Value.int (nI _) :: _) _ _ _ _); refine ev_icmp_eqZN (tgt := 90) dX11_readLetters_35 (by decide) (by omega) (fun c_35 => ?_) (fun c_35 => ?_)) | ((with_reducible show eV _ _ _ (_ :: Value.int (nI _) :: _) _ _ _ _); refine ev_icmp_eqNZ (tgt := 90) dX11_readLetters_35 (by decide) (by omega) (fun c_35 => ?_) (fun c_35 => ?_)) | (refine ev_icmp_eqZZ (tgt := 90) dX11_readLetters_35 (by decide) (fun c_35 => ?_) (fun c_35 => ?_))
          · have hsx : (p, gb, r, cd) = mLs x ℓ 4 ap gd 0 0 := by rw [← hs]; first | exact (mLs_no (fun z => z.2.elim c_26 (fun q => q c_35))).symm | (rw [show 4 - r = 0 by omega]; rfl) | exact (mLs_no (fun z => absurd (z.1.symm.trans c_11) (by decide))).symm
            refine ev_aload_n dX11_readLetters_90 rfl rfl ?_
            refine ev_aload_n dX11_readLetters_91 rfl rfl ?_
            refine ev_callVi dX11_readLetters_92 (c_X11_here hM hX (by omega)) rfl lk_X11_131 (by first | assumption | omega | exact eMB.ob (by assumption)) ⟨Nat.le_of_ble_eq_true rfl, Nat.le_of_ble_eq_true rfl⟩ rfl (Nat.le_of_ble_eq_true rfl) ⟨by first | exact Nat.le_of_ble_eq_true rfl | omega, by first | exact Nat.le_of_ble_eq_true rfl | omega⟩ (eRo ?_)
            refine ev_bipush (v := nI 46) dX11_readLetters_95 rfl ?_
            first | ((with_reducible show eV _ _ _ (Value.int (nI _) :: Value.int (nI _) :: _) _ _ _ _); refine ev_icmp_neN (tgt := 104) dX11_readLetters_97 (by decide) (by omega) (by omega) (fun c_97 => ?_) (fun c_97 => ?_)) | ((with_reducible show eV _ _ _ (Value.int (-1) :: Value.int (oI _) :: _) _ _ _ _); refine ev_icmp_neO (tgt := 104) dX11_readLetters_97 (by decide) (by exact tHere_b hx) (fun c_97 => ?_) (fun c_97 => ?_)) | ((with_reducible show eV _ _ _ (Value.int (nI _) :: Value.int (oI _) :: _) _ _ _ _); refine ev_icmp_neON (tgt := 104) dX11_readLetters_97 (by decide) (by omega) (by exact tHere_b hx) (fun c_97 => ?_) (fun c_97 => ?_)) | ((with_reducible show eV _ _ _ (Value.int (nI _) :: _) _ _ _ _); refine ev_icmp_neZN (tgt := 104) dX11_readLetters_97 (by decide) (by omega) (fun c_97 => ?_) (fun c_97 => ?_)) | ((with_reducible show eV _ _ _ (_ :: Value.int (nI _) :: _) _ _ _ _); refine ev_icmp_neNZ (tgt := 104) dX11_readLetters_97 (by decide) (by omega) (fun c_97 => ?_) (fun c_97 => ?_)) | (refine ev_icmp_neZZ (tgt := 104) dX11_readLetters_97 (by decide) (fun c_97 => ?_) (fun c_97 => ?_))
            · refine ev_iconst (v := nI 0) dX11_readLetters_104 rfl ?_
              refine ev_top (show nI 0 = bI (mDot x ℓ p) from (congrArg bI (decide_eq_false c_97)).symm) ?_
              refine ev_callVv dX11_readLetters_105 (c_X11_take (a := mDot x ℓ p) hM) rfl lk_X11_135 (by first | assumption | omega | exact eMB.ob (by assumption)) ⟨Nat.le_of_ble_eq_true rfl, Nat.le_of_ble_eq_true rfl⟩ rfl (Nat.le_of_ble_eq_true rfl) ⟨by first | exact Nat.le_of_ble_eq_true rfl | omega, by first | exact Nat.le_of_ble_eq_true rfl | omega⟩ (fun g_105 hg_105 => ?_)
              obtain ⟨w_105, fr_105⟩ := hg_105
              replace hM := w_105
              first | replace hX := eRow.fr hX (fr_105 _ (by omega)) | replace hX := eMB.fr hX (fr_105 _ (by omega)) | replace hX := eArr.fr hX (fr_105 _ (by omega)) | replace hX := Eq.trans (fr_105 _ (by omega)) hX | replace hX := eBo.fr hX (fr_105 _ (by omega)) | replace hX := ePp.fr1 hX (fun a _ _ => fr_105 a (by omega)) | replace hX := eNm.fr1 hX (fun a _ _ => fr_105 a (by omega)) | replace hX := eRg.fr hX (fun a _ _ => fr_105 a (by omega)) | replace hX := eTx.fr hX (fun a _ _ => fr_105 a (by omega)) | replace hX := ePa.fr hX (fun a _ _ => fr_105 a (by omega)) | replace hX := eRf.fr hX (fr_105 _ (by omega)) | replace hX := eSl.fr hX (fun a _ _ => fr_105 a (by omega)) | replace hX := eSe.fr hX (fun a _ _ => fr_105 a (by omega)) | replace hX := z_105 hX | replace hX := z_105
              first | replace FR := eFr.trans FR (eFr.one fr_105 (by omega) (by omega)) | replace FR := eFr.trans FR (eFr.wide fr_105 (by omega) (by omega)) | replace FR := eF2.a FR fr_105 | replace FR := eF2.b FR fr_105 | replace FR := eF2.c FR fr_105 | replace FR := eF2.t FR fr_105
              refine ev_iload_n dX11_readLetters_108 rfl rfl ?_
              exact ev_iret dX11_readLetters_109 rfl rfl (by exact nR (by unfold mLt; rw [← hsx])) (by exact ⟨by unfold mLt; rw [← hsx]; exact hM, FR⟩) (fun _ e => by first | exact Option.some.inj e | (have e2 := Option.some.inj e; omega)) (by first | exact Nat.le_of_ble_eq_true rfl | omega) (by first | exact Nat.le_of_ble_eq_true rfl | omega)
            · refine ev_iconst (v := nI 1) dX11_readLetters_100 rfl ?_
              refine ev_top (show nI 1 = bI (mDot x ℓ p) from (congrArg bI (decide_eq_true c_97)).symm) ?_
              refine ev_goto (tgt := 105) dX11_readLetters_101 (by decide) ?_
              refine ev_callVv dX11_readLetters_105 (c_X11_take (a := mDot x ℓ p) hM) rfl lk_X11_135 (by first | assumption | omega | exact eMB.ob (by assumption)) ⟨Nat.le_of_ble_eq_true rfl, Nat.le_of_ble_eq_true rfl⟩ rfl (Nat.le_of_ble_eq_true rfl) ⟨by first | exact Nat.le_of_ble_eq_true rfl | omega, by first | exact Nat.le_of_ble_eq_true rfl | omega⟩ (fun g_105 hg_105 => ?_)
              obtain ⟨w_105, fr_105⟩ := hg_105
              replace hM := w_105
              first | replace hX := eRow.fr hX (fr_105 _ (by omega)) | replace hX := eMB.fr hX (fr_105 _ (by omega)) | replace hX := eArr.fr hX (fr_105 _ (by omega)) | replace hX := Eq.trans (fr_105 _ (by omega)) hX | replace hX := eBo.fr hX (fr_105 _ (by omega)) | replace hX := ePp.fr1 hX (fun a _ _ => fr_105 a (by omega)) | replace hX := eNm.fr1 hX (fun a _ _ => fr_105 a (by omega)) | replace hX := eRg.fr hX (fun a _ _ => fr_105 a (by omega)) | replace hX := eTx.fr hX (fun a _ _ => fr_105 a (by omega)) | replace hX := ePa.fr hX (fun a _ _ => fr_105 a (by omega)) | replace hX := eRf.fr hX (fr_105 _ (by omega)) | replace hX := eSl.fr hX (fun a _ _ => fr_105 a (by omega)) | replace hX := eSe.fr hX (fun a _ _ => fr_105 a (by omega)) | replace hX := z_105 hX | replace hX := z_105
              first | replace FR := eFr.trans FR (eFr.one fr_105 (by omega) (by omega)) | replace FR := eFr.trans FR (eFr.wide fr_105 (by omega) (by omega)) | replace FR := eF2.a FR fr_105 | replace FR := eF2.b FR fr_105 | replace FR := eF2.c FR fr_105 | replace FR := eF2.t FR fr_105
              refine ev_iload_n dX11_readLetters_108 rfl rfl ?_
              exact ev_iret dX11_readLetters_109 rfl rfl (by exact nR (by unfold mLt; rw [← hsx])) (by exact ⟨by unfold mLt; rw [← hsx]; exact hM, FR⟩) (fun _ e => by first | exact Option.some.inj e | (have e2 := Option.some.inj e; omega)) (by first | exact Nat.le_of_ble_eq_true rfl | omega) (by first | exact Nat.le_of_ble_eq_true rfl | omega)
          · have hcond : gb = true ∧ (r = 0 ∨ tHere x ℓ p ≠ some 46) := by first | exact ⟨c_11, Or.inl c_26⟩ | exact ⟨c_11, Or.inr c_35⟩
            have e4 : 4 - r = (4 - (r + 1)) + 1 := by omega
            refine ev_aload_n dX11_readLetters_38 rfl rfl ?_
            refine ev_callVi dX11_readLetters_39 (c_X11_here hM hX (by omega)) rfl lk_X11_131 (by first | assumption | omega | exact eMB.ob (by assumption)) ⟨Nat.le_of_ble_eq_true rfl, Nat.le_of_ble_eq_true rfl⟩ rfl (Nat.le_of_ble_eq_true rfl) ⟨by first | exact Nat.le_of_ble_eq_true rfl | omega, by first | exact Nat.le_of_ble_eq_true rfl | omega⟩ (eRo ?_)
            refine ev_bipush (v := nI 65) dX11_readLetters_42 rfl ?_
            refine ev_isub dX11_readLetters_44 ?_
            refine ev_istore_n dX11_readLetters_45 rfl (Nat.le_of_ble_eq_true rfl) ?_
            refine ev_aload_n dX11_readLetters_46 rfl rfl ?_
            refine ev_iload_n dX11_readLetters_47 rfl rfl ?_
            refine ev_i2l dX11_readLetters_48 rfl ?_
            refine ev_lconst (v := lN 0) dX11_readLetters_49 rfl ?_
            refine ev_ldc2 dX11_readLetters_50 wq_X11_149 ?_
            refine ev_callSi dX11_readLetters_53 c_X11_in lk_X11_45 ⟨Nat.le_of_ble_eq_true rfl, Nat.le_of_ble_eq_true rfl⟩ rfl (Nat.le_of_ble_eq_true rfl) ⟨by first | exact Nat.le_of_ble_eq_true rfl | omega, by first | exact Nat.le_of_ble_eq_true rfl | omega⟩ (eRo ?_)
            rw [mAZ_ok hx]
            refine ev_callVv dX11_readLetters_56 (c_X11_take hM) rfl lk_X11_135 (by first | assumption | omega | exact eMB.ob (by assumption)) ⟨Nat.le_of_ble_eq_true rfl, Nat.le_of_ble_eq_true rfl⟩ rfl (Nat.le_of_ble_eq_true rfl) ⟨by first | exact Nat.le_of_ble_eq_true rfl | omega, by first | exact Nat.le_of_ble_eq_true rfl | omega⟩ (fun g_56 hg_56 => ?_)
            obtain ⟨w_56, fr_56⟩ := hg_56
            replace hM := w_56
            first | replace hX := eRow.fr hX (fr_56 _ (by omega)) | replace hX := eMB.fr hX (fr_56 _ (by omega)) | replace hX := eArr.fr hX (fr_56 _ (by omega)) | replace hX := Eq.trans (fr_56 _ (by omega)) hX | replace hX := eBo.fr hX (fr_56 _ (by omega)) | replace hX := ePp.fr1 hX (fun a _ _ => fr_56 a (by omega)) | replace hX := eNm.fr1 hX (fun a _ _ => fr_56 a (by omega)) | replace hX := eRg.fr hX (fun a _ _ => fr_56 a (by omega)) | replace hX := eTx.fr hX (fun a _ _ => fr_56 a (by omega)) | replace hX := ePa.fr hX (fun a _ _ => fr_56 a (by omega)) | replace hX := eRf.fr hX (fr_56 _ (by omega)) | replace hX := eSl.fr hX (fun a _ _ => fr_56 a (by omega)) | replace hX := eSe.fr hX (fun a _ _ => fr_56 a (by omega)) | replace hX := z_56 hX | replace hX := z_56
            first | replace FR := eFr.trans FR (eFr.one fr_56 (by omega) (by omega)) | replace FR := eFr.trans FR (eFr.wide fr_56 (by omega) (by omega)) | replace FR := eF2.a FR fr_56 | replace FR := eF2.b FR fr_56 | replace FR := eF2.c FR fr_56 | replace FR := eF2.t FR fr_56
            refine ev_bipush (v := nI 26) dX11_readLetters_59 rfl ?_
            refine ev_iload_n dX11_readLetters_61 rfl rfl ?_
            first | refine ev_imulN dX11_readLetters_62 ?_ | refine ev_imul dX11_readLetters_62 ?_
            refine ev_aload_n dX11_readLetters_63 rfl rfl ?_
            refine ev_getfield dX11_readLetters_64 fl_X11_127 (by first | assumption | omega | exact eMB.ob (by assumption)) rfl ?_
            first | ((with_reducible show eV _ _ _ (Value.int (bI _) :: _) _ _ _ _); refine ev_if_eqB (tgt := 74) dX11_readLetters_67 (by decide) (fun c_67 => ?_) (fun c_67 => ?_)) | ((with_reducible show eV _ _ _ (Value.int (nI _) :: _) _ _ _ _); refine ev_if_eqN (tgt := 74) dX11_readLetters_67 (by decide) (by omega) (fun c_67 => ?_) (fun c_67 => ?_)) | (refine ev_if_eqZ (tgt := 74) dX11_readLetters_67 (by decide) (fun c_67 => ?_) (fun c_67 => ?_))
            · refine ev_iconst (v := nI 0) dX11_readLetters_74 rfl ?_
              first | refine ev_iaddN dX11_readLetters_75 ?_ | refine ev_iadd dX11_readLetters_75 ?_
              refine ev_istore_n dX11_readLetters_76 rfl (Nat.le_of_ble_eq_true rfl) ?_
              refine ev_aload_n dX11_readLetters_77 rfl rfl ?_
              refine ev_dup dX11_readLetters_78 rfl ?_
              refine ev_getfield dX11_readLetters_79 fl_X11_146 (by first | assumption | omega | exact eMB.ob (by assumption)) rfl ?_
              refine ev_iconst (v := nI 1) dX11_readLetters_82 rfl ?_
              first | refine ev_iaddN dX11_readLetters_83 ?_ | refine ev_iadd dX11_readLetters_83 ?_
              refine ev_putH dX11_readLetters_84 pl_X11_146 (by first | assumption | omega | exact eMB.ob (by assumption)) (Nat.le_of_ble_eq_true rfl) rfl rfl (fun g_84 fr_84 w_84 => ?_)
              replace hM := w_84
              first | replace hX := eRow.fr hX (fr_84 _ (by omega)) | replace hX := eMB.fr hX (fr_84 _ (by omega)) | replace hX := eArr.fr hX (fr_84 _ (by omega)) | replace hX := Eq.trans (fr_84 _ (by omega)) hX | replace hX := eBo.fr hX (fr_84 _ (by omega)) | replace hX := ePp.fr1 hX (fun a _ _ => fr_84 a (by omega)) | replace hX := eNm.fr1 hX (fun a _ _ => fr_84 a (by omega)) | replace hX := eRg.fr hX (fun a _ _ => fr_84 a (by omega)) | replace hX := eTx.fr hX (fun a _ _ => fr_84 a (by omega)) | replace hX := ePa.fr hX (fun a _ _ => fr_84 a (by omega)) | replace hX := eRf.fr hX (fr_84 _ (by omega)) | replace hX := eSl.fr hX (fun a _ _ => fr_84 a (by omega)) | replace hX := eSe.fr hX (fun a _ _ => fr_84 a (by omega)) | replace hX := z_84 hX | replace hX := z_84
              first | replace FR := eFr.trans FR (eFr.one fr_84 (by omega) (by omega)) | replace FR := eFr.trans FR (eFr.wide fr_84 (by omega) (by omega)) | replace FR := eF2.a FR fr_84 | replace FR := eF2.b FR fr_84 | replace FR := eF2.c FR fr_84 | replace FR := eF2.t FR fr_84
              refine ev_goto (tgt := 7) dX11_readLetters_87 (by decide) ?_
              exact (ih_7 _ (by omega) (r + 1) (mTake p gb (tAZ x ℓ p)) _ (gb && tAZ x ℓ p) _ rfl (by first | omega | assumption | rfl) (by exact Nat.le_trans (mTake_p _ _ _) (by omega)) (by first | exact mLs_b1 hcond e4 hs c_67 | exact mLs_b0 hcond e4 hs c_67) (by exact hM) (by first | omega | assumption | rfl) (by first | omega | assumption | rfl)).sub1 ⟨rfl, rfl, trivial⟩ rfl
            · have hz := mLs_v hx c_67
              rw [hz]
              refine ev_iload_n dX11_readLetters_70 rfl rfl ?_
              refine ev_goto (tgt := 75) dX11_readLetters_71 (by decide) ?_
              first | refine ev_iaddN dX11_readLetters_75 ?_ | refine ev_iadd dX11_readLetters_75 ?_
              refine ev_istore_n dX11_readLetters_76 rfl (Nat.le_of_ble_eq_true rfl) ?_
              refine ev_aload_n dX11_readLetters_77 rfl rfl ?_
              refine ev_dup dX11_readLetters_78 rfl ?_
              refine ev_getfield dX11_readLetters_79 fl_X11_146 (by first | assumption | omega | exact eMB.ob (by assumption)) rfl ?_
              refine ev_iconst (v := nI 1) dX11_readLetters_82 rfl ?_
              first | refine ev_iaddN dX11_readLetters_83 ?_ | refine ev_iadd dX11_readLetters_83 ?_
              refine ev_putH dX11_readLetters_84 pl_X11_146 (by first | assumption | omega | exact eMB.ob (by assumption)) (Nat.le_of_ble_eq_true rfl) rfl rfl (fun g_84 fr_84 w_84 => ?_)
              replace hM := w_84
              first | replace hX := eRow.fr hX (fr_84 _ (by omega)) | replace hX := eMB.fr hX (fr_84 _ (by omega)) | replace hX := eArr.fr hX (fr_84 _ (by omega)) | replace hX := Eq.trans (fr_84 _ (by omega)) hX | replace hX := eBo.fr hX (fr_84 _ (by omega)) | replace hX := ePp.fr1 hX (fun a _ _ => fr_84 a (by omega)) | replace hX := eNm.fr1 hX (fun a _ _ => fr_84 a (by omega)) | replace hX := eRg.fr hX (fun a _ _ => fr_84 a (by omega)) | replace hX := eTx.fr hX (fun a _ _ => fr_84 a (by omega)) | replace hX := ePa.fr hX (fun a _ _ => fr_84 a (by omega)) | replace hX := eRf.fr hX (fr_84 _ (by omega)) | replace hX := eSl.fr hX (fun a _ _ => fr_84 a (by omega)) | replace hX := eSe.fr hX (fun a _ _ => fr_84 a (by omega)) | replace hX := z_84 hX | replace hX := z_84
              first | replace FR := eFr.trans FR (eFr.one fr_84 (by omega) (by omega)) | replace FR := eFr.trans FR (eFr.wide fr_84 (by omega) (by omega)) | replace FR := eF2.a FR fr_84 | replace FR := eF2.b FR fr_84 | replace FR := eF2.c FR fr_84 | replace FR := eF2.t FR fr_84
              refine ev_goto (tgt := 7) dX11_readLetters_87 (by decide) ?_
              exact (ih_7 _ (by omega) (r + 1) (mTake p gb (tAZ x ℓ p)) _ (gb && tAZ x ℓ p) _ rfl (by first | omega | assumption | rfl) (by exact Nat.le_trans (mTake_p _ _ _) (by omega)) (by first | exact mLs_b1 hcond e4 hs c_67 | exact mLs_b0 hcond e4 hs c_67) (by exact hM) (by first | omega | assumption | rfl) (by first | omega | assumption | rfl)).sub1 ⟨rfl, rfl, trivial⟩ rfl
  exact (H_7 _ 0 ap 0 gd g_4 rfl (by first | omega | assumption | rfl) (by first | omega | assumption | rfl) (by rfl) (by first | omega | assumption | rfl) (by first | omega | assumption | rfl) (by first | omega | assumption | rfl)).sub1 ⟨rfl, rfl, trivial⟩ rfl

