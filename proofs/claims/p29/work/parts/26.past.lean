theorem nar_c : ∀ c, c < 256 → vp_nar .char (nI c) = nI c := by decide +kernel
theorem i2c_c : ∀ c, c < 256 → ((nI c).toUInt32 % 65536).toInt32 = nI c := by decide +kernel
section PRules
variable {M : eMI} {pc : Nat} {lv : List (Nat × Value)} {st : List Value} {w : eH × Nat × Nat × Nat} {r : eRes} {mc ms : Nat}
theorem ev_castoreA {a n0 m i v : Nat} {f : Nat → Nat} {h : eH} {n c0 s0 : Nat} (d : decode M.1 pc = .ok (.castore, 1)) (hA : eArr h a 1 n0 m f) (hi : i < n0) (hv : v < 256)
    (k : ∀ g : eH, (∀ q : Nat, q ≠ a → g q = h q) → (∀ m', (m' ≤ m ∨ (m' = m + 1 ∧ i = m)) → eArr g a 1 n0 m' (fun j => if j = i then v else f j)) → eV M (pc + 1) lv st (g, n, c0, s0) r mc ms) : eV M pc lv (.int (nI v) :: .int (nI i) :: .ref a :: st) (h, n, c0, s0) r mc ms := by
  obtain ⟨h1, h2, F, h3, h4⟩ := hA
  refine ev_castoreN d h3 hi h2 (nar_c v hv) (k _ (fun q hq => eU_n _ _ hq) (fun m' hm => ⟨by omega, h2, _, eU_s _ _ _, fun j hj => ?_⟩))
  by_cases e : j = i
  · show upd F i (nI v) j = nI (if j = i then v else f j)
    rw [if_pos e, e, pk_us]
  · show upd F i (nI v) j = nI (if j = i then v else f j)
    rw [if_neg e, pk_un e]
    exact h4 j (by omega)
end PRules
set_option maxHeartbeats 4000000 in
set_option maxRecDepth 20000 in
theorem c_X9_put {h : eH} {n q : Nat} {x : Nat → Nat} {ℓ : Nat} {k : Option Nat} {u : Cur} (hT : eTx h q x ℓ k u) (hl : ℓ < 120) {c : Nat} (hc : c < 256) : kX9_put [.ref q, .int (nI c)] h n (.inl none, (fun g => eTx g q (fun j => if j = ℓ then c else x j) (ℓ + 1) k u ∧ eFr h g q (q + 3)), some n) 0 0 := by
  refine eM.of RX9 "put" [(0, .ref q), (1, .int (nI c))] pn_X9 rfl rfl (Nat.le_of_ble_eq_true rfl) rfl ?_
  obtain ⟨t0, t1, t2, t3, t4⟩ := id hT
  have FR : eFr h h q (q + 3) := eFr.rf
  refine ev_aload_n dX9_put_0 rfl rfl ?_
  refine ev_getfield dX9_put_1 fl_X9_15 (by first | assumption | omega | exact ePp.ob (by assumption) | exact eNm.ob (by assumption) | exact eRg.ob (by assumption) | exact eTx.ob (by assumption) | exact ePa.ob (by assumption)) rfl ?_
  refine ev_bipush (v := nI 120) dX9_put_4 rfl ?_
  first | ((with_reducible show eV _ _ _ (Value.int (nI _) :: Value.int (nI _) :: _) _ _ _ _); refine ev_icmp_geN (tgt := 29) dX9_put_6 (by decide) (by first | exact hB _ _ | omega) (by first | exact hB _ _ | omega) (fun c_6 => ?_) (fun c_6 => ?_)) | ((with_reducible show eV _ _ _ (Value.int (nI _) :: _) _ _ _ _); refine ev_icmp_geZN (tgt := 29) dX9_put_6 (by decide) (by first | exact hB _ _ | omega) (fun c_6 => ?_) (fun c_6 => ?_)) | ((with_reducible show eV _ _ _ (_ :: Value.int (nI _) :: _) _ _ _ _); refine ev_icmp_geNZ (tgt := 29) dX9_put_6 (by decide) (by first | exact hB _ _ | omega) (fun c_6 => ?_) (fun c_6 => ?_)) | (refine ev_icmp_geZZ (tgt := 29) dX9_put_6 (by decide) (fun c_6 => ?_) (fun c_6 => ?_))
  · exact absurd c_6 (by omega)
  · refine ev_aload_n dX9_put_9 rfl rfl ?_
    refine ev_getfield dX9_put_10 fl_X9_9 (by first | assumption | omega | exact ePp.ob (by assumption) | exact eNm.ob (by assumption) | exact eRg.ob (by assumption) | exact eTx.ob (by assumption) | exact ePa.ob (by assumption)) rfl ?_
    refine ev_aload_n dX9_put_13 rfl rfl ?_
    refine ev_getfield dX9_put_14 fl_X9_15 (by first | assumption | omega | exact ePp.ob (by assumption) | exact eNm.ob (by assumption) | exact eRg.ob (by assumption) | exact eTx.ob (by assumption) | exact ePa.ob (by assumption)) rfl ?_
    refine ev_iload_n dX9_put_17 rfl rfl ?_
    refine ev_castoreA dX9_put_18 t1 hl hc (fun g_18 fr_18 w_18 => ?_)
    replace t0 := Eq.trans (fr_18 _ (by omega)) t0
    replace t1 := w_18 _ (Or.inr ⟨rfl, rfl⟩)
    replace t2 := eArr.fr t2 (fr_18 _ (by omega))
    replace FR := eFr.trans FR (eFr.one fr_18 (by omega) (by omega))
    refine ev_aload_n dX9_put_19 rfl rfl ?_
    refine ev_dup dX9_put_20 rfl ?_
    refine ev_getfield dX9_put_21 fl_X9_15 (by first | assumption | omega | exact ePp.ob (by assumption) | exact eNm.ob (by assumption) | exact eRg.ob (by assumption) | exact eTx.ob (by assumption) | exact ePa.ob (by assumption)) rfl ?_
    refine ev_iconst (v := nI 1) dX9_put_24 rfl ?_
    first | refine ev_iaddN dX9_put_25 ?_ | refine ev_iadd dX9_put_25 ?_
    refine ev_putH dX9_put_26 pl_X9_15 (by first | assumption | omega | exact ePp.ob (by assumption) | exact eNm.ob (by assumption) | exact eRg.ob (by assumption) | exact eTx.ob (by assumption) | exact ePa.ob (by assumption)) (Nat.le_of_ble_eq_true rfl) rfl rfl (fun g_26 fr_26 w_26 => ?_)
    replace t0 := w_26
    first | replace t1 := eArr.fr t1 (fr_26 _ (by omega)) | replace t1 := Eq.trans (fr_26 _ (by omega)) t1 | replace t1 := eBo.fr t1 (fr_26 _ (by omega)) | replace t1 := z_26 t1 | replace t1 := z_26 | replace t1 := ePp.fr1 t1 (fun a _ _ => fr_26 a (by omega)) | replace t1 := eNm.fr1 t1 (fun a _ _ => fr_26 a (by omega)) | replace t1 := eRg.fr t1 (fun a _ _ => fr_26 a (by omega)) | replace t1 := eTx.fr t1 (fun a _ _ => fr_26 a (by omega)) | replace t1 := ePa.fr t1 (fun a _ _ => fr_26 a (by omega)) | replace t1 := eRf.fr t1 (fr_26 _ (by omega))
    first | replace t2 := eArr.fr t2 (fr_26 _ (by omega)) | replace t2 := Eq.trans (fr_26 _ (by omega)) t2 | replace t2 := eBo.fr t2 (fr_26 _ (by omega)) | replace t2 := z_26 t2 | replace t2 := z_26 | replace t2 := ePp.fr1 t2 (fun a _ _ => fr_26 a (by omega)) | replace t2 := eNm.fr1 t2 (fun a _ _ => fr_26 a (by omega)) | replace t2 := eRg.fr t2 (fun a _ _ => fr_26 a (by omega)) | replace t2 := eTx.fr t2 (fun a _ _ => fr_26 a (by omega)) | replace t2 := ePa.fr t2 (fun a _ _ => fr_26 a (by omega)) | replace t2 := eRf.fr t2 (fr_26 _ (by omega))
    first | replace FR := eFr.trans FR (eFr.one fr_26 (by omega) (by omega)) | replace FR := eFr.trans FR (eFr.wide fr_26 (by omega) (by omega))
    exact ev_vret dX9_put_29 rfl rfl (by exact ⟨⟨t0, t1, t2, t3, fun j => by show (if j = ℓ then c else x j) < 256; split; exact hc; exact t4 j⟩, FR⟩) (fun _ e => Option.some.inj e) (Nat.le_of_ble_eq_true rfl) (Nat.le_of_ble_eq_true rfl)
/-! the ring of the states that are remembered: 240 cells from q on -/
def eRf (h : eH) (a n : Nat) (F : Nat → Nat) : Prop := ∃ f : Nat → Option Nat, h a = some (.inl (3, n, .inr (.inr (.inr (.inr f))))) ∧ ∀ i, i < n → f i = some (F i)
def ePa (h : eH) (q f c : Nat) (τ : Nat → St) : Prop :=
  h q = some (.inr (2, [.ref (q + 1), .int (nI f), .int (nI c)])) ∧ eRf h (q + 1) 14 (fun i => q + 2 + 17 * i) ∧ (f < 14 ∧ c ≤ 14) ∧ (∀ i, i < 14 → ∃ ρ, eRg h (q + 2 + 17 * i) ρ) ∧ ∀ j, j < c → eRg h (q + 2 + 17 * ((f + j) % 14)) (τ j)
theorem eRf.fr {h g : eH} {a n : Nat} {F : Nat → Nat} (hA : eRf h a n F) (e : g a = h a) : eRf g a n F := by
  obtain ⟨f, h1, h2⟩ := hA
  exact ⟨f, by rw [e]; exact h1, h2⟩
theorem ePa.ob {h : eH} {q f c : Nat} {τ : Nat → St} (hP : ePa h q f c τ) : h q = some (.inr (2, [.ref (q + 1), .int (nI f), .int (nI c)])) := hP.1
theorem ePa.fr {h g : eH} {q f c : Nat} {τ : Nat → St} (hP : ePa h q f c τ) (hg : ∀ a : Nat, q ≤ a → a < q + 240 → g a = h a) : ePa g q f c τ := by
  obtain ⟨t0, t1, t2, t3, t4⟩ := hP
  refine ⟨by rw [hg q (by omega) (by omega)]; exact t0, t1.fr (hg _ (by omega) (by omega)), t2, fun i hi => ?_, fun j hj => (t4 j hj).fr (fun a h1 h2 => hg a (by omega) (by omega))⟩
  obtain ⟨ρ, hr⟩ := t3 i hi
  exact ⟨ρ, hr.fr (fun a h1 h2 => hg a (by omega) (by omega))⟩
def sRemC (c : Nat) : Nat := if c < 14 then c + 1 else c
def sRem (c : Nat) (τ : Nat → St) (σ : St) : Nat → St := if c < 14 then (fun j => if j = c then σ else τ j) else (fun j => if j = 13 then σ else τ (j + 1))
theorem sRem_lt {h g : eH} {q f c : Nat} {τ : Nat → St} {σ : St} (hc : c < 14) (t0 : g q = some (.inr (2, [.ref (q + 1), .int (nI f), .int (nI (c + 1))]))) (t1 : eRf g (q + 1) 14 (fun i => q + 2 + 17 * i)) (hf : f < 14) (t3 : ∀ i, i < 14 → ∃ ρ, eRg h (q + 2 + 17 * i) ρ) (t4 : ∀ j, j < c → eRg h (q + 2 + 17 * ((f + j) % 14)) (τ j)) (hn : eRg g (q + 2 + 17 * ((f + c) % 14)) σ) (hall : ∀ i ρ', i < 14 → i ≠ (f + c) % 14 → eRg h (q + 2 + 17 * i) ρ' → eRg g (q + 2 + 17 * i) ρ') : ∃ f', ePa g q f' (sRemC c) (sRem c τ σ) := by
  refine ⟨f, by rw [sRemC, if_pos hc]; exact t0, t1, ⟨hf, by rw [sRemC, if_pos hc]; omega⟩, fun i hi => ?_, fun j hj => ?_⟩
  · by_cases e : i = (f + c) % 14
    · exact ⟨σ, e ▸ hn⟩
    · obtain ⟨ρ, hr⟩ := t3 i hi
      exact ⟨ρ, hall i ρ hi e hr⟩
  · rw [sRemC, if_pos hc] at hj
    rw [sRem, if_pos hc]
    by_cases e : j = c
    · subst e
      show eRg g _ (if j = j then σ else τ j)
      rw [if_pos rfl]; exact hn
    · show eRg g _ (if j = c then σ else τ j)
      rw [if_neg e]
      exact hall _ _ (by omega) (by omega) (t4 j (by omega))
theorem sRem_ge {h g : eH} {q f c : Nat} {τ : Nat → St} {σ : St} (hc : 14 ≤ c) (hc2 : c ≤ 14) (t0 : g q = some (.inr (2, [.ref (q + 1), .int (nI ((f + 1) % 14)), .int (nI c)]))) (t1 : eRf g (q + 1) 14 (fun i => q + 2 + 17 * i)) (hf : f < 14) (t3 : ∀ i, i < 14 → ∃ ρ, eRg h (q + 2 + 17 * i) ρ) (t4 : ∀ j, j < c → eRg h (q + 2 + 17 * ((f + j) % 14)) (τ j)) (hn : eRg g (q + 2 + 17 * ((f + c) % 14)) σ) (hall : ∀ i ρ', i < 14 → i ≠ (f + c) % 14 → eRg h (q + 2 + 17 * i) ρ' → eRg g (q + 2 + 17 * i) ρ') : ∃ f', ePa g q f' (sRemC c) (sRem c τ σ) := by
  have hc14 : c = 14 := by omega
  subst hc14
  refine ⟨(f + 1) % 14, t0, t1, ⟨by omega, Nat.le_refl _⟩, fun i hi => ?_, fun j hj => ?_⟩
  · by_cases e : i = (f + 14) % 14
    · exact ⟨σ, e ▸ hn⟩
    · obtain ⟨ρ, hr⟩ := t3 i hi
      exact ⟨ρ, hall i ρ hi e hr⟩
  · have hj : j < 14 := hj
    show eRg g _ (if j = 13 then σ else τ (j + 1))
    by_cases e : j = 13
    · rw [if_pos e]
      have e2 : ((f + 1) % 14 + j) % 14 = (f + 14) % 14 := by omega
      rw [e2]; exact hn
    · rw [if_neg e]
      have e2 : ((f + 1) % 14 + j) % 14 = (f + (j + 1)) % 14 := by omega
      rw [e2]
      exact hall _ _ (by omega) (by omega) (t4 (j + 1) (by omega))
set_option maxHeartbeats 4000000 in
set_option maxRecDepth 20000 in
theorem c_X3_forgetAll {h : eH} {n q f c : Nat} {τ : Nat → St} (hP : ePa h q f c τ) : kX3_forgetAll [.ref q] h n (.inl none, (fun g => ePa g q f 0 τ ∧ eFr h g q (q + 240)), some n) 0 0 := by
  refine eM.of RX3 "forgetAll" [(0, .ref q)] pn_X3 rfl rfl (Nat.le_of_ble_eq_true rfl) rfl ?_
  obtain ⟨t0, t1, t2, t3, t4⟩ := id hP
  have FR : eFr h h q (q + 240) := eFr.rf
  refine ev_aload_n dX3_forgetAll_0 rfl rfl ?_
  refine ev_iconst (v := nI 0) dX3_forgetAll_1 rfl ?_
  refine ev_putH dX3_forgetAll_2 pl_X3_21 (by first | assumption | omega | exact ePp.ob (by assumption) | exact eNm.ob (by assumption) | exact eRg.ob (by assumption) | exact eTx.ob (by assumption) | exact ePa.ob (by assumption)) (Nat.le_of_ble_eq_true rfl) rfl rfl (fun g_2 fr_2 w_2 => ?_)
  replace t0 := w_2
  first | replace FR := eFr.trans FR (eFr.one fr_2 (by omega) (by omega)) | replace FR := eFr.trans FR (eFr.wide fr_2 (by omega) (by omega))
  exact ev_vret dX3_forgetAll_5 rfl rfl (by exact ⟨⟨t0, t1.fr (fr_2 _ (by omega)), ⟨t2.1, Nat.zero_le _⟩, fun i hi => (t3 i hi).elim fun ρ hr => ⟨ρ, hr.fr (fun a h1 h2 => fr_2 a (by omega))⟩, fun j hj => absurd hj (Nat.not_lt_zero j)⟩, FR⟩) (fun _ e => Option.some.inj e) (Nat.le_of_ble_eq_true rfl) (Nat.le_of_ble_eq_true rfl)
set_option maxHeartbeats 4000000 in
set_option maxRecDepth 20000 in
theorem c_X3_remember {h : eH} {n q f c r : Nat} {τ : Nat → St} {σ : St} (hP : ePa h q f c τ) (hS : eRg h r σ) (hd : q + 240 ≤ r ∨ r + 17 ≤ q) : kX3_remember [.ref q, .ref r] h n (.inl none, (fun g => (∃ f', ePa g q f' (sRemC c) (sRem c τ σ)) ∧ eFr h g q (q + 240)), some n) 0 0 := by
  refine eM.of RX3 "remember" [(0, .ref q), (1, .ref r)] pn_X3 rfl rfl (Nat.le_of_ble_eq_true rfl) rfl ?_
  obtain ⟨t0, t1, ⟨hf, hc⟩, t3, t4⟩ := id hP
  obtain ⟨F, hF, hF2⟩ := id t1
  have hs : (f + c) % 14 < 14 := Nat.mod_lt _ (by decide)
  obtain ⟨ρ, hρ⟩ := t3 _ hs
  have FR : eFr h h q (q + 240) := eFr.rf
  refine ev_aload_n dX3_remember_0 rfl rfl ?_
  refine ev_getfield dX3_remember_1 fl_X3_11 (by first | assumption | omega | exact eRg.ob (by assumption)) rfl ?_
  refine ev_aload_n dX3_remember_4 rfl rfl ?_
  refine ev_getfield dX3_remember_5 fl_X3_17 (by first | assumption | omega | exact eRg.ob (by assumption)) rfl ?_
  refine ev_aload_n dX3_remember_8 rfl rfl ?_
  refine ev_getfield dX3_remember_9 fl_X3_21 (by first | assumption | omega | exact eRg.ob (by assumption)) rfl ?_
  first | refine ev_iaddN dX3_remember_12 ?_ | refine ev_iadd dX3_remember_12 ?_
  refine ev_bipush (v := nI 14) dX3_remember_13 rfl ?_
  first | refine ev_iremN dX3_remember_15 (by first | exact hB _ _ | omega) (by first | assumption | omega | exact eRg.ob (by assumption)) (by first | exact hB _ _ | omega) ?_ | refine ev_irem dX3_remember_15 (by decide) ?_
  refine ev_aaloadN dX3_remember_16 hF hs (by decide) ?_
  rw [hF2 _ hs]
  show eV _ _ _ (Value.ref (q + 2 + 17 * ((f + c) % 14)) :: _) _ _ _ _
  refine ev_aload_n dX3_remember_17 rfl rfl ?_
  refine ev_callVv dX3_remember_18 (c_X5_copyFrom hS hρ (by omega)) rfl lk_X3_25 (by first | assumption | omega | exact eRg.ob (by assumption)) ⟨Nat.le_of_ble_eq_true rfl, Nat.le_of_ble_eq_true rfl⟩ rfl (Nat.le_of_ble_eq_true rfl) ⟨Nat.le_of_ble_eq_true rfl, Nat.le_of_ble_eq_true rfl⟩ (fun g_18 hg_18 => ?_)
  obtain ⟨w_18, fr_18⟩ := hg_18
  first | replace t0 := eArr.fr t0 (fr_18 _ (by omega)) | replace t0 := Eq.trans (fr_18 _ (by omega)) t0 | replace t0 := eBo.fr t0 (fr_18 _ (by omega)) | replace t0 := z_18 t0 | replace t0 := z_18 | replace t0 := ePp.fr1 t0 (fun a _ _ => fr_18 a (by omega)) | replace t0 := eNm.fr1 t0 (fun a _ _ => fr_18 a (by omega)) | replace t0 := eRg.fr t0 (fun a _ _ => fr_18 a (by omega)) | replace t0 := eTx.fr t0 (fun a _ _ => fr_18 a (by omega)) | replace t0 := ePa.fr t0 (fun a _ _ => fr_18 a (by omega)) | replace t0 := eRf.fr t0 (fr_18 _ (by omega))
  first | replace t1 := eArr.fr t1 (fr_18 _ (by omega)) | replace t1 := Eq.trans (fr_18 _ (by omega)) t1 | replace t1 := eBo.fr t1 (fr_18 _ (by omega)) | replace t1 := z_18 t1 | replace t1 := z_18 | replace t1 := ePp.fr1 t1 (fun a _ _ => fr_18 a (by omega)) | replace t1 := eNm.fr1 t1 (fun a _ _ => fr_18 a (by omega)) | replace t1 := eRg.fr t1 (fun a _ _ => fr_18 a (by omega)) | replace t1 := eTx.fr t1 (fun a _ _ => fr_18 a (by omega)) | replace t1 := ePa.fr t1 (fun a _ _ => fr_18 a (by omega)) | replace t1 := eRf.fr t1 (fr_18 _ (by omega))
  replace hρ := w_18
  first | replace FR := eFr.trans FR (eFr.one fr_18 (by omega) (by omega)) | replace FR := eFr.trans FR (eFr.wide fr_18 (by omega) (by omega))
  have hall : ∀ i ρ', i < 14 → i ≠ (f + c) % 14 → eRg h (q + 2 + 17 * i) ρ' → eRg g_18 (q + 2 + 17 * i) ρ' := fun i ρ' hi hne hr => hr.fr (fun a h1 h2 => fr_18 a (by omega))
  refine ev_aload_n dX3_remember_21 rfl rfl ?_
  refine ev_getfield dX3_remember_22 fl_X3_21 (by first | assumption | omega | exact eRg.ob (by assumption)) rfl ?_
  refine ev_bipush (v := nI 14) dX3_remember_25 rfl ?_
  first | ((with_reducible show eV _ _ _ (Value.int (nI _) :: Value.int (nI _) :: _) _ _ _ _); refine ev_icmp_geN (tgt := 43) dX3_remember_27 (by decide) (by first | exact hB _ _ | omega) (by first | exact hB _ _ | omega) (fun c_27 => ?_) (fun c_27 => ?_)) | ((with_reducible show eV _ _ _ (Value.int (nI _) :: _) _ _ _ _); refine ev_icmp_geZN (tgt := 43) dX3_remember_27 (by decide) (by first | exact hB _ _ | omega) (fun c_27 => ?_) (fun c_27 => ?_)) | ((with_reducible show eV _ _ _ (_ :: Value.int (nI _) :: _) _ _ _ _); refine ev_icmp_geNZ (tgt := 43) dX3_remember_27 (by decide) (by first | exact hB _ _ | omega) (fun c_27 => ?_) (fun c_27 => ?_)) | (refine ev_icmp_geZZ (tgt := 43) dX3_remember_27 (by decide) (fun c_27 => ?_) (fun c_27 => ?_))
  · refine ev_aload_n dX3_remember_43 rfl rfl ?_
    refine ev_aload_n dX3_remember_44 rfl rfl ?_
    refine ev_getfield dX3_remember_45 fl_X3_17 (by first | assumption | omega | exact eRg.ob (by assumption)) rfl ?_
    refine ev_iconst (v := nI 1) dX3_remember_48 rfl ?_
    first | refine ev_iaddN dX3_remember_49 ?_ | refine ev_iadd dX3_remember_49 ?_
    refine ev_bipush (v := nI 14) dX3_remember_50 rfl ?_
    first | refine ev_iremN dX3_remember_52 (by first | exact hB _ _ | omega) (by first | assumption | omega | exact eRg.ob (by assumption)) (by first | exact hB _ _ | omega) ?_ | refine ev_irem dX3_remember_52 (by decide) ?_
    refine ev_putH dX3_remember_53 pl_X3_17 (by first | assumption | omega | exact eRg.ob (by assumption)) (Nat.le_of_ble_eq_true rfl) rfl rfl (fun g_53 fr_53 w_53 => ?_)
    replace t0 := w_53
    first | replace t1 := eArr.fr t1 (fr_53 _ (by omega)) | replace t1 := Eq.trans (fr_53 _ (by omega)) t1 | replace t1 := eBo.fr t1 (fr_53 _ (by omega)) | replace t1 := z_53 t1 | replace t1 := z_53 | replace t1 := ePp.fr1 t1 (fun a _ _ => fr_53 a (by omega)) | replace t1 := eNm.fr1 t1 (fun a _ _ => fr_53 a (by omega)) | replace t1 := eRg.fr t1 (fun a _ _ => fr_53 a (by omega)) | replace t1 := eTx.fr t1 (fun a _ _ => fr_53 a (by omega)) | replace t1 := ePa.fr t1 (fun a _ _ => fr_53 a (by omega)) | replace t1 := eRf.fr t1 (fr_53 _ (by omega))
    first | replace hρ := eArr.fr hρ (fr_53 _ (by omega)) | replace hρ := Eq.trans (fr_53 _ (by omega)) hρ | replace hρ := eBo.fr hρ (fr_53 _ (by omega)) | replace hρ := z_53 hρ | replace hρ := z_53 | replace hρ := ePp.fr1 hρ (fun a _ _ => fr_53 a (by omega)) | replace hρ := eNm.fr1 hρ (fun a _ _ => fr_53 a (by omega)) | replace hρ := eRg.fr hρ (fun a _ _ => fr_53 a (by omega)) | replace hρ := eTx.fr hρ (fun a _ _ => fr_53 a (by omega)) | replace hρ := ePa.fr hρ (fun a _ _ => fr_53 a (by omega)) | replace hρ := eRf.fr hρ (fr_53 _ (by omega))
    first | replace FR := eFr.trans FR (eFr.one fr_53 (by omega) (by omega)) | replace FR := eFr.trans FR (eFr.wide fr_53 (by omega) (by omega))
    exact ev_vret dX3_remember_56 rfl rfl (by first | exact ⟨sRem_lt c_27 t0 t1 hf t3 t4 hρ (fun i ρ' hi hne hr => (hall i ρ' hi hne hr).fr (fun a h1 h2 => fr_37 a (by omega))), FR⟩ | exact ⟨sRem_ge c_27 hc t0 t1 hf t3 t4 hρ (fun i ρ' hi hne hr => (hall i ρ' hi hne hr).fr (fun a h1 h2 => fr_53 a (by omega))), FR⟩) (fun _ e => Option.some.inj e) (Nat.le_of_ble_eq_true rfl) (Nat.le_of_ble_eq_true rfl)
  · refine ev_aload_n dX3_remember_30 rfl rfl ?_
    refine ev_dup dX3_remember_31 rfl ?_
    refine ev_getfield dX3_remember_32 fl_X3_21 (by first | assumption | omega | exact eRg.ob (by assumption)) rfl ?_
    refine ev_iconst (v := nI 1) dX3_remember_35 rfl ?_
    first | refine ev_iaddN dX3_remember_36 ?_ | refine ev_iadd dX3_remember_36 ?_
    refine ev_putH dX3_remember_37 pl_X3_21 (by first | assumption | omega | exact eRg.ob (by assumption)) (Nat.le_of_ble_eq_true rfl) rfl rfl (fun g_37 fr_37 w_37 => ?_)
    replace t0 := w_37
    first | replace t1 := eArr.fr t1 (fr_37 _ (by omega)) | replace t1 := Eq.trans (fr_37 _ (by omega)) t1 | replace t1 := eBo.fr t1 (fr_37 _ (by omega)) | replace t1 := z_37 t1 | replace t1 := z_37 | replace t1 := ePp.fr1 t1 (fun a _ _ => fr_37 a (by omega)) | replace t1 := eNm.fr1 t1 (fun a _ _ => fr_37 a (by omega)) | replace t1 := eRg.fr t1 (fun a _ _ => fr_37 a (by omega)) | replace t1 := eTx.fr t1 (fun a _ _ => fr_37 a (by omega)) | replace t1 := ePa.fr t1 (fun a _ _ => fr_37 a (by omega)) | replace t1 := eRf.fr t1 (fr_37 _ (by omega))
    first | replace hρ := eArr.fr hρ (fr_37 _ (by omega)) | replace hρ := Eq.trans (fr_37 _ (by omega)) hρ | replace hρ := eBo.fr hρ (fr_37 _ (by omega)) | replace hρ := z_37 hρ | replace hρ := z_37 | replace hρ := ePp.fr1 hρ (fun a _ _ => fr_37 a (by omega)) | replace hρ := eNm.fr1 hρ (fun a _ _ => fr_37 a (by omega)) | replace hρ := eRg.fr hρ (fun a _ _ => fr_37 a (by omega)) | replace hρ := eTx.fr hρ (fun a _ _ => fr_37 a (by omega)) | replace hρ := ePa.fr hρ (fun a _ _ => fr_37 a (by omega)) | replace hρ := eRf.fr hρ (fr_37 _ (by omega))
    first | replace FR := eFr.trans FR (eFr.one fr_37 (by omega) (by omega)) | replace FR := eFr.trans FR (eFr.wide fr_37 (by omega) (by omega))
    refine ev_goto (tgt := 56) dX3_remember_40 (by decide) ?_
    exact ev_vret dX3_remember_56 rfl rfl (by first | exact ⟨sRem_lt c_27 t0 t1 hf t3 t4 hρ (fun i ρ' hi hne hr => (hall i ρ' hi hne hr).fr (fun a h1 h2 => fr_37 a (by omega))), FR⟩ | exact ⟨sRem_ge c_27 hc t0 t1 hf t3 t4 hρ (fun i ρ' hi hne hr => (hall i ρ' hi hne hr).fr (fun a h1 h2 => fr_53 a (by omega))), FR⟩) (fun _ e => Option.some.inj e) (Nat.le_of_ble_eq_true rfl) (Nat.le_of_ble_eq_true rfl)
set_option maxHeartbeats 4000000 in
set_option maxRecDepth 20000 in
theorem c_X3_takeBack {h : eH} {n q f c r : Nat} {τ : Nat → St} {σ : St} (hP : ePa h q f (c + 1) τ) (hS : eRg h r σ) (hd : q + 240 ≤ r ∨ r + 17 ≤ q) : kX3_takeBack [.ref q, .ref r] h n (.inl none, (fun g => ePa g q f c τ ∧ eRg g r (τ c) ∧ (∀ a, a ≠ q → (a < r ∨ r + 17 ≤ a) → g a = h a)), some n) 0 0 := by
  refine eM.of RX3 "takeBack" [(0, .ref q), (1, .ref r)] pn_X3 rfl rfl (Nat.le_of_ble_eq_true rfl) rfl ?_
  obtain ⟨t0, t1, ⟨hf, hc⟩, t3, t4⟩ := id hP
  obtain ⟨F, hF, hF2⟩ := id t1
  have hs : (f + c) % 14 < 14 := Nat.mod_lt _ (by decide)
  have hρ := t4 c (Nat.lt_succ_self c)
  refine ev_aload_n dX3_takeBack_0 rfl rfl ?_
  refine ev_getfield dX3_takeBack_1 fl_X3_21 (by first | assumption | omega | exact eRg.ob (by assumption)) rfl ?_
  first | ((with_reducible show eV _ _ _ (Value.int (nI _) :: _) _ _ _ _); refine ev_if_leN (tgt := 38) dX3_takeBack_4 (by decide) (by first | exact hB _ _ | omega) (fun c_4 => ?_) (fun c_4 => ?_)) | (refine ev_if_leZ (tgt := 38) dX3_takeBack_4 (by decide) (fun c_4 => ?_) (fun c_4 => ?_))
  · exact absurd c_4 (by omega)
  · refine ev_aload_n dX3_takeBack_7 rfl rfl ?_
    refine ev_dup dX3_takeBack_8 rfl ?_
    refine ev_getfield dX3_takeBack_9 fl_X3_21 (by first | assumption | omega | exact eRg.ob (by assumption)) rfl ?_
    refine ev_iconst (v := nI 1) dX3_takeBack_12 rfl ?_
    first | refine ev_isubN dX3_takeBack_13 (by first | assumption | omega | exact eRg.ob (by assumption)) ?_ | refine ev_isub dX3_takeBack_13 ?_
    refine ev_top (show nI (c + 1 - 1) = nI c from rfl) ?_
    refine ev_putH dX3_takeBack_14 pl_X3_21 (by first | assumption | omega | exact eRg.ob (by assumption)) (Nat.le_of_ble_eq_true rfl) rfl rfl (fun g_14 fr_14 w_14 => ?_)
    replace t0 := w_14
    first | replace t1 := eArr.fr t1 (fr_14 _ (by omega)) | replace t1 := Eq.trans (fr_14 _ (by omega)) t1 | replace t1 := eBo.fr t1 (fr_14 _ (by omega)) | replace t1 := z_14 t1 | replace t1 := z_14 | replace t1 := ePp.fr1 t1 (fun a _ _ => fr_14 a (by omega)) | replace t1 := eNm.fr1 t1 (fun a _ _ => fr_14 a (by omega)) | replace t1 := eRg.fr t1 (fun a _ _ => fr_14 a (by omega)) | replace t1 := eTx.fr t1 (fun a _ _ => fr_14 a (by omega)) | replace t1 := ePa.fr t1 (fun a _ _ => fr_14 a (by omega)) | replace t1 := eRf.fr t1 (fr_14 _ (by omega))
    first | replace hρ := eArr.fr hρ (fr_14 _ (by omega)) | replace hρ := Eq.trans (fr_14 _ (by omega)) hρ | replace hρ := eBo.fr hρ (fr_14 _ (by omega)) | replace hρ := z_14 hρ | replace hρ := z_14 | replace hρ := ePp.fr1 hρ (fun a _ _ => fr_14 a (by omega)) | replace hρ := eNm.fr1 hρ (fun a _ _ => fr_14 a (by omega)) | replace hρ := eRg.fr hρ (fun a _ _ => fr_14 a (by omega)) | replace hρ := eTx.fr hρ (fun a _ _ => fr_14 a (by omega)) | replace hρ := ePa.fr hρ (fun a _ _ => fr_14 a (by omega)) | replace hρ := eRf.fr hρ (fr_14 _ (by omega))
    first | replace hS := eArr.fr hS (fr_14 _ (by omega)) | replace hS := Eq.trans (fr_14 _ (by omega)) hS | replace hS := eBo.fr hS (fr_14 _ (by omega)) | replace hS := z_14 hS | replace hS := z_14 | replace hS := ePp.fr1 hS (fun a _ _ => fr_14 a (by omega)) | replace hS := eNm.fr1 hS (fun a _ _ => fr_14 a (by omega)) | replace hS := eRg.fr hS (fun a _ _ => fr_14 a (by omega)) | replace hS := eTx.fr hS (fun a _ _ => fr_14 a (by omega)) | replace hS := ePa.fr hS (fun a _ _ => fr_14 a (by omega)) | replace hS := eRf.fr hS (fr_14 _ (by omega))
    replace hF := (fr_14 _ (by omega)).trans hF
    refine ev_aload_n dX3_takeBack_17 rfl rfl ?_
    refine ev_aload_n dX3_takeBack_18 rfl rfl ?_
    refine ev_getfield dX3_takeBack_19 fl_X3_11 (by first | assumption | omega | exact eRg.ob (by assumption)) rfl ?_
    refine ev_aload_n dX3_takeBack_22 rfl rfl ?_
    refine ev_getfield dX3_takeBack_23 fl_X3_17 (by first | assumption | omega | exact eRg.ob (by assumption)) rfl ?_
    refine ev_aload_n dX3_takeBack_26 rfl rfl ?_
    refine ev_getfield dX3_takeBack_27 fl_X3_21 (by first | assumption | omega | exact eRg.ob (by assumption)) rfl ?_
    first | refine ev_iaddN dX3_takeBack_30 ?_ | refine ev_iadd dX3_takeBack_30 ?_
    refine ev_bipush (v := nI 14) dX3_takeBack_31 rfl ?_
    first | refine ev_iremN dX3_takeBack_33 (by first | exact hB _ _ | omega) (by first | assumption | omega | exact eRg.ob (by assumption)) (by first | exact hB _ _ | omega) ?_ | refine ev_irem dX3_takeBack_33 (by decide) ?_
    refine ev_aaloadN dX3_takeBack_34 hF hs (by decide) ?_
    rw [hF2 _ hs]
    show eV _ _ _ (Value.ref (q + 2 + 17 * ((f + c) % 14)) :: _) _ _ _ _
    refine ev_callVv dX3_takeBack_35 (c_X5_copyFrom hρ hS (by omega)) rfl lk_X3_25 (by first | assumption | omega | exact eRg.ob (by assumption)) ⟨Nat.le_of_ble_eq_true rfl, Nat.le_of_ble_eq_true rfl⟩ rfl (Nat.le_of_ble_eq_true rfl) ⟨Nat.le_of_ble_eq_true rfl, Nat.le_of_ble_eq_true rfl⟩ (fun g_35 hg_35 => ?_)
    obtain ⟨w_35, fr_35⟩ := hg_35
    first | replace t0 := eArr.fr t0 (fr_35 _ (by omega)) | replace t0 := Eq.trans (fr_35 _ (by omega)) t0 | replace t0 := eBo.fr t0 (fr_35 _ (by omega)) | replace t0 := z_35 t0 | replace t0 := z_35 | replace t0 := ePp.fr1 t0 (fun a _ _ => fr_35 a (by omega)) | replace t0 := eNm.fr1 t0 (fun a _ _ => fr_35 a (by omega)) | replace t0 := eRg.fr t0 (fun a _ _ => fr_35 a (by omega)) | replace t0 := eTx.fr t0 (fun a _ _ => fr_35 a (by omega)) | replace t0 := ePa.fr t0 (fun a _ _ => fr_35 a (by omega)) | replace t0 := eRf.fr t0 (fr_35 _ (by omega))
    first | replace t1 := eArr.fr t1 (fr_35 _ (by omega)) | replace t1 := Eq.trans (fr_35 _ (by omega)) t1 | replace t1 := eBo.fr t1 (fr_35 _ (by omega)) | replace t1 := z_35 t1 | replace t1 := z_35 | replace t1 := ePp.fr1 t1 (fun a _ _ => fr_35 a (by omega)) | replace t1 := eNm.fr1 t1 (fun a _ _ => fr_35 a (by omega)) | replace t1 := eRg.fr t1 (fun a _ _ => fr_35 a (by omega)) | replace t1 := eTx.fr t1 (fun a _ _ => fr_35 a (by omega)) | replace t1 := ePa.fr t1 (fun a _ _ => fr_35 a (by omega)) | replace t1 := eRf.fr t1 (fr_35 _ (by omega))
    first | replace hρ := eArr.fr hρ (fr_35 _ (by omega)) | replace hρ := Eq.trans (fr_35 _ (by omega)) hρ | replace hρ := eBo.fr hρ (fr_35 _ (by omega)) | replace hρ := z_35 hρ | replace hρ := z_35 | replace hρ := ePp.fr1 hρ (fun a _ _ => fr_35 a (by omega)) | replace hρ := eNm.fr1 hρ (fun a _ _ => fr_35 a (by omega)) | replace hρ := eRg.fr hρ (fun a _ _ => fr_35 a (by omega)) | replace hρ := eTx.fr hρ (fun a _ _ => fr_35 a (by omega)) | replace hρ := ePa.fr hρ (fun a _ _ => fr_35 a (by omega)) | replace hρ := eRf.fr hρ (fr_35 _ (by omega))
    replace hS := w_35
    exact ev_vret dX3_takeBack_38 rfl rfl (by exact ⟨⟨t0, t1, ⟨hf, by omega⟩, fun i hi => (t3 i hi).elim fun ρ hr => ⟨ρ, hr.fr (fun a h1 h2 => (fr_35 a (by omega)).trans (fr_14 a (by omega)))⟩, fun j hj => (t4 j (by omega)).fr (fun a h1 h2 => (fr_35 a (by omega)).trans (fr_14 a (by omega)))⟩, hS, fun a h1 h2 => (fr_35 a (by omega)).trans (fr_14 a (by omega))⟩) (fun _ e => Option.some.inj e) (Nat.le_of_ble_eq_true rfl) (Nat.le_of_ble_eq_true rfl)

