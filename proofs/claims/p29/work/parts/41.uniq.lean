def sBNC (σ : St) (p m c k : Nat) : Bool := sIs σ k m c && sBro σ p (σ 9 k)
def sBNTo (σ : St) (p m c : Nat) : Nat → Option Nat
  | 0 => none
  | k + 1 => if sBNC σ p m c k = true then (match sBNTo σ p m c k with
    | none => some k
    | some e => if σ 9 k < σ 9 e then some k else some e) else sBNTo σ p m c k
def sBN (σ : St) (p m c : Nat) : Option Nat := sBNTo σ p m c (σ 0 1)
theorem sBNTo_no {σ : St} {p m c k : Nat} {o : Option Nat} (h : sBNC σ p m c k = false) (ho : o = sBNTo σ p m c k) : o = sBNTo σ p m c (k + 1) := by rw [sBNTo, if_neg (by rw [h]; decide)]; exact ho
theorem sBNTo_new {σ : St} {p m c k : Nat} (h : sBNC σ p m c k = true) (ho : none = sBNTo σ p m c k) : some k = sBNTo σ p m c (k + 1) := by rw [sBNTo, if_pos h, ← ho]
theorem sBNTo_lo {σ : St} {p m c k e : Nat} (h : sBNC σ p m c k = true) (ho : some e = sBNTo σ p m c k) (hl : σ 9 k < σ 9 e) : some k = sBNTo σ p m c (k + 1) := by rw [sBNTo, if_pos h, ← ho]; exact (if_pos hl).symm
theorem sBNTo_hi {σ : St} {p m c k e : Nat} (h : sBNC σ p m c k = true) (ho : some e = sBNTo σ p m c k) (hl : ¬ σ 9 k < σ 9 e) : some e = sBNTo σ p m c (k + 1) := by rw [sBNTo, if_pos h, ← ho]; exact (if_neg hl).symm
theorem sBNTo_lt {σ : St} {p m c : Nat} : ∀ {k e : Nat}, sBNTo σ p m c k = some e → e < k ∧ sBNC σ p m c e = true
  | 0, e, h => by cases h
  | k + 1, e, h => by
    rw [sBNTo] at h
    split at h
    · rename_i z
      split at h
      · cases h; exact ⟨Nat.lt_succ_self k, z⟩
      · rename_i q
        split at h
        · cases h; exact ⟨Nat.lt_succ_self k, z⟩
        · cases h; have := sBNTo_lt q; exact ⟨Nat.lt_succ_of_lt this.1, this.2⟩
    · have := sBNTo_lt h; exact ⟨Nat.lt_succ_of_lt this.1, this.2⟩
def sLM (σ : St) (b m c : Nat) : Option Nat := fst (fun p => decide (σ 3 p = b) && (sBN σ p m c).isSome) (σ 0 0)
def sMns (σ : St) (b m c : Nat) : Option Nat := match sNameOn σ b none m c with
  | some k => some (σ 9 k)
  | none => sLM σ b m c
theorem sMns_y {σ : St} {b m c k : Nat} (h : sNameOn σ b none m c = some k) : sMns σ b m c = some (σ 9 k) := by unfold sMns; rw [h]
theorem sMns_n {σ : St} {b m c : Nat} (h : sNameOn σ b none m c = none) : sMns σ b m c = sLM σ b m c := by unfold sMns; rw [h]
/-! NO TWO ON A BENCH HAVE LIKE NAMES; and what follows for the ways in which a call is read -/
def sUq (σ : St) : Prop := ∀ j k, j < σ 0 1 → k < σ 0 1 → sAlive σ j = true → sAlive σ k = true → σ 6 j = σ 6 k → σ 7 j = σ 7 k → σ 3 (σ 9 j) = σ 3 (σ 9 k) → j = k
def sZr (σ : St) : Prop := ∀ p, σ 0 0 ≤ p → σ 4 p = 0 ∧ σ 5 p = 0
def sHo (σ : St) : Prop := ∀ k, k < σ 0 1 → σ 9 k < σ 0 0
theorem eIv.ho {σ : St} {T : Nat} (h : eIv σ T) : sHo σ := fun k hk => (h.2.2.2.2.1 k hk).1
theorem sIs_i {σ : St} {k m c : Nat} : sIs σ k m c = true ↔ sAlive σ k = true ∧ σ 6 k = m ∧ σ 7 k = c := by simp [sIs]
theorem sNO_s {σ : St} {b m c k : Nat} (h : sNameOn σ b none m c = some k) : k < σ 0 1 ∧ σ 3 (σ 9 k) = b ∧ sIs σ k m c = true := by
  have h2 := fst_lt h
  have h3 := h2.2.1
  simp only [Bool.and_eq_true, decide_eq_true_eq] at h3
  exact ⟨h2.1, h3.2.1, h3.2.2⟩
theorem sNO_n {σ : St} {b m c k : Nat} (h : sNameOn σ b none m c = none) (hk : k < σ 0 1) (hb : σ 3 (σ 9 k) = b) (hi : sIs σ k m c = true) : False := by
  have h2 := fst_no h k hk
  simp [hb, hi] at h2
theorem sNf_s {σ : St} {p m c k : Nat} (h : sNameOf σ p m c = some k) : k < σ 0 1 ∧ σ 9 k = p ∧ sIs σ k m c = true := by
  have h2 := fst_lt h
  have h3 := h2.2.1
  simp only [Bool.and_eq_true, decide_eq_true_eq] at h3
  exact ⟨h2.1, h3.1, h3.2⟩
theorem sNf_n {σ : St} {p m c k : Nat} (h : sNameOf σ p m c = none) (hk : k < σ 0 1) (hb : σ 9 k = p) (hi : sIs σ k m c = true) : False := by
  have h2 := fst_no h k hk
  simp [hb, hi] at h2
theorem sNf_of {σ : St} {p m c k : Nat} (hk : k < σ 0 1) (hb : σ 9 k = p) (hi : sIs σ k m c = true) : (sNameOf σ p m c).isSome = true := by
  cases h : sNameOf σ p m c with
  | none => exact (sNf_n h hk hb hi).elim
  | some j => rfl
theorem sBNTo_none {σ : St} {p m c : Nat} : ∀ {n : Nat}, sBNTo σ p m c n = none → ∀ k, k < n → sBNC σ p m c k = false
  | 0, _, k, hk => absurd hk (Nat.not_lt_zero k)
  | n + 1, h, k, hk => by
    rw [sBNTo] at h
    split at h
    · split at h
      · cases h
      · split at h <;> cases h
    · rename_i z
      rcases Nat.lt_or_ge k n with q | q
      · exact sBNTo_none h k q
      · have e : k = n := by omega
        rw [e]; simpa using z
theorem sBNTo_min {σ : St} {p m c : Nat} : ∀ {n e : Nat}, sBNTo σ p m c n = some e → ∀ k, k < n → sBNC σ p m c k = true → σ 9 e ≤ σ 9 k
  | 0, e, h, k, hk, _ => absurd hk (Nat.not_lt_zero k)
  | n + 1, e, h, k, hk, hc => by
    rw [sBNTo] at h
    split at h
    · split at h
      · rename_i z q
        cases h
        rcases Nat.lt_or_ge k n with q2 | q2
        · rw [sBNTo_none q k q2] at hc; cases hc
        · have e2 : k = n := by omega
          rw [e2]; exact Nat.le_refl _
      · rename_i z e1 q
        split at h
        · rename_i z2
          cases h
          rcases Nat.lt_or_ge k n with q2 | q2
          · have := sBNTo_min q k q2 hc; omega
          · have e2 : k = n := by omega
            rw [e2]; exact Nat.le_refl _
        · rename_i z2
          cases h
          rcases Nat.lt_or_ge k n with q2 | q2
          · exact sBNTo_min q k q2 hc
          · have e2 : k = n := by omega
            rw [e2]; omega
    · rename_i z
      rcases Nat.lt_or_ge k n with q2 | q2
      · exact sBNTo_min h k q2 hc
      · have e2 : k = n := by omega
        rw [e2] at hc; exact absurd hc z
theorem sFBN_eq {σ : St} {p m c : Nat} (hH : sHo σ) : sFBN σ p m c = (sBN σ p m c).map (σ 9) := by
  unfold sFBN
  cases hb : sBN σ p m c with
  | none =>
    refine fst_none_of fun q hq => Bool.eq_false_iff.mpr fun z => ?_
    simp only [Bool.and_eq_true] at z
    obtain ⟨k, hk⟩ := Option.isSome_iff_exists.mp z.2
    obtain ⟨h1, h2, h3⟩ := sNf_s hk
    have := sBNTo_none hb k h1
    rw [sBNC, h3, h2, z.1] at this
    cases this
  | some e =>
    obtain ⟨h1, h2⟩ := sBNTo_lt hb
    simp only [sBNC, Bool.and_eq_true] at h2
    refine fst_of (hH e h1) ?_ fun q hq => Bool.eq_false_iff.mpr fun z => ?_
    · rw [h2.2, sNf_of h1 rfl h2.1]; rfl
    · simp only [Bool.and_eq_true] at z
      obtain ⟨k, hk⟩ := Option.isSome_iff_exists.mp z.2
      obtain ⟨g1, g2, g3⟩ := sNf_s hk
      have := sBNTo_min hb k g1 (by rw [sBNC, g3, g2, z.1]; rfl)
      omega
theorem sMeant_1 {σ : St} {b m c p : Nat} (h : fst (fun p => decide (σ 3 p = b) && (sNameOf σ p m c).isSome) (σ 0 0) = some p) : sMeant σ b m c = some p := by unfold sMeant; rw [h]
theorem sMeant_2 {σ : St} {b m c : Nat} (h : fst (fun p => decide (σ 3 p = b) && (sNameOf σ p m c).isSome) (σ 0 0) = none) : sMeant σ b m c = fst (fun p => decide (σ 3 p = b) && (sFBN σ p m c).isSome) (σ 0 0) := by unfold sMeant; rw [h]
theorem sMns_eq {σ : St} {b m c : Nat} (hU : sUq σ) (hH : sHo σ) : sMns σ b m c = sMeant σ b m c := by
  cases h : sNameOn σ b none m c with
  | some k =>
    obtain ⟨h1, h2, h3⟩ := sNO_s h
    rw [sMns_y h]
    refine (sMeant_1 (fst_of (hH k h1) ?_ fun q hq => Bool.eq_false_iff.mpr fun z => ?_)).symm
    · rw [decide_eq_true h2, sNf_of h1 rfl h3]; rfl
    · simp only [Bool.and_eq_true, decide_eq_true_eq] at z
      obtain ⟨j, hj⟩ := Option.isSome_iff_exists.mp z.2
      obtain ⟨g1, g2, g3⟩ := sNf_s hj
      rw [sIs_i] at g3 h3
      have e := hU j k g1 h1 g3.1 h3.1 (by omega) (by omega) (by rw [g2, z.1, h2])
      subst e
      omega
  | none =>
    rw [sMns_n h, sMeant_2 (fst_none_of fun q hq => Bool.eq_false_iff.mpr fun z => ?_)]
    · exact fst_congr fun p hp => by rw [sFBN_eq hH, Option.isSome_map]
    · simp only [Bool.and_eq_true, decide_eq_true_eq] at z
      obtain ⟨j, hj⟩ := Option.isSome_iff_exists.mp z.2
      obtain ⟨g1, g2, g3⟩ := sNf_s hj
      exact sNO_n h g1 (by rw [g2]; exact z.1) g3
theorem sBro_c (σ : St) (p q : Nat) : sBro σ p q = sBro σ q p := by
  unfold sBro
  by_cases z : p = q
  · rw [z]
  · rw [show decide (p ≠ q) = true from decide_eq_true z, show decide (q ≠ p) = true from decide_eq_true (fun e => z e.symm)]
    by_cases z2 : σ 2 p = σ 2 q
    · rw [z2]
    · rw [decide_eq_false z2, decide_eq_false (fun e => z2 e.symm)]
theorem sFBO_of {σ : St} {b p q : Nat} (hq : q < σ 0 0) (h3 : σ 3 q = b) (hb : sBro σ p q = true) : ∃ e, sFBO σ b p = some e ∧ e ≤ q := by
  cases h : sFBO σ b p with
  | none =>
    have := fst_no h q hq
    rw [decide_eq_true h3, hb] at this
    cases this
  | some e =>
    refine ⟨e, rfl, Nat.le_of_not_lt fun z => ?_⟩
    have := (fst_lt h).2.2 q z
    rw [decide_eq_true h3, hb] at this
    cases this
theorem sMNlo_no2 {σ : St} {b m c : Nat} : ∀ {n : Nat}, sMNlo σ b m c n = none → ∀ k, k < n → sIs σ k m c = true → sFBO σ b (σ 9 k) = none
  | 0, _, k, hk, _ => absurd hk (Nat.not_lt_zero k)
  | n + 1, h, k, hk, hi => by
    rw [sMNlo] at h
    by_cases h1 : sIs σ n m c = true
    · rw [if_pos h1] at h
      cases hf : sFBO σ b (σ 9 n) with
      | none =>
        rw [hf] at h
        rcases Nat.lt_or_ge k n with q2 | q2
        · exact sMNlo_no2 h k q2 hi
        · have e2 : k = n := by omega
          rw [e2]; exact hf
      | some q =>
        cases hl : sMNlo σ b m c n with
        | none => rw [hf, hl] at h; cases h
        | some l => rw [hf, hl] at h; simp only at h; split at h <;> cases h
    · rw [if_neg h1] at h
      rcases Nat.lt_or_ge k n with q2 | q2
      · exact sMNlo_no2 h k q2 hi
      · have e2 : k = n := by omega
        rw [e2] at hi; exact absurd hi h1
theorem sMNlo_so2 {σ : St} {b m c : Nat} : ∀ {n e : Nat}, sMNlo σ b m c n = some e → (∃ k, k < n ∧ sIs σ k m c = true ∧ sFBO σ b (σ 9 k) = some e) ∧ ∀ k, k < n → sIs σ k m c = true → ∀ q, sFBO σ b (σ 9 k) = some q → e ≤ q
  | 0, e, h => by cases h
  | n + 1, e, h => by
    rw [sMNlo] at h
    by_cases h1 : sIs σ n m c = true
    · rw [if_pos h1] at h
      cases hf : sFBO σ b (σ 9 n) with
      | none =>
        rw [hf] at h
        obtain ⟨⟨k, g1, g2, g3⟩, g4⟩ := sMNlo_so2 h
        refine ⟨⟨k, by omega, g2, g3⟩, fun j hj hi q hq => ?_⟩
        rcases Nat.lt_or_ge j n with q2 | q2
        · exact g4 j q2 hi q hq
        · have e2 : j = n := by omega
          rw [e2, hf] at hq; cases hq
      | some q0 =>
        cases hl : sMNlo σ b m c n with
        | none =>
          rw [hf, hl] at h
          cases h
          refine ⟨⟨n, Nat.lt_succ_self n, h1, hf⟩, fun j hj hi q hq => ?_⟩
          rcases Nat.lt_or_ge j n with q2 | q2
          · rw [sMNlo_no2 hl j q2 hi] at hq; cases hq
          · have e2 : j = n := by omega
            rw [e2, hf] at hq; cases hq; exact Nat.le_refl _
        | some l =>
          obtain ⟨⟨k, g1, g2, g3⟩, g4⟩ := sMNlo_so2 hl
          rw [hf, hl] at h
          by_cases h2 : q0 < l
          · simp only [if_pos h2] at h
            cases h
            refine ⟨⟨n, Nat.lt_succ_self n, h1, hf⟩, fun j hj hi q hq => ?_⟩
            rcases Nat.lt_or_ge j n with q2 | q2
            · have := g4 j q2 hi q hq; omega
            · have e2 : j = n := by omega
              rw [e2, hf] at hq; cases hq; exact Nat.le_refl _
          · simp only [if_neg h2] at h
            cases h
            refine ⟨⟨k, by omega, g2, g3⟩, fun j hj hi q hq => ?_⟩
            rcases Nat.lt_or_ge j n with q2 | q2
            · exact g4 j q2 hi q hq
            · have e2 : j = n := by omega
              rw [e2, hf] at hq; cases hq; omega
    · rw [if_neg h1] at h
      obtain ⟨⟨k, g1, g2, g3⟩, g4⟩ := sMNlo_so2 h
      refine ⟨⟨k, by omega, g2, g3⟩, fun j hj hi q hq => ?_⟩
      rcases Nat.lt_or_ge j n with q2 | q2
      · exact g4 j q2 hi q hq
      · have e2 : j = n := by omega
        rw [e2] at hi; exact absurd hi h1
theorem sMNlo_eq (σ : St) (b m c : Nat) : sMNlo σ b m c (σ 0 1) = sLM σ b m c := by
  unfold sLM
  cases h : sMNlo σ b m c (σ 0 1) with
  | none =>
    refine (fst_none_of fun p hp => Bool.eq_false_iff.mpr fun z => ?_).symm
    simp only [Bool.and_eq_true, decide_eq_true_eq] at z
    obtain ⟨k, hk⟩ := Option.isSome_iff_exists.mp z.2
    obtain ⟨h1, h2⟩ := sBNTo_lt hk
    simp only [sBNC, Bool.and_eq_true] at h2
    obtain ⟨e, he, -⟩ := sFBO_of hp z.1 ((sBro_c σ _ _).trans h2.2)
    rw [sMNlo_no2 h k h1 h2.1] at he
    cases he
  | some e =>
    obtain ⟨⟨k, g1, g2, g3⟩, g4⟩ := sMNlo_so2 h
    have g5 := fst_lt g3
    have g6 := g5.2.1
    simp only [Bool.and_eq_true, decide_eq_true_eq] at g6
    refine (fst_of g5.1 ?_ fun p hp => Bool.eq_false_iff.mpr fun z => ?_).symm
    · rw [decide_eq_true g6.1]
      cases hb : sBN σ e m c with
      | none =>
        have := sBNTo_none hb k g1
        rw [sBNC, g2, sBro_c, g6.2] at this
        cases this
      | some j => rfl
    · simp only [Bool.and_eq_true, decide_eq_true_eq] at z
      obtain ⟨j, hj⟩ := Option.isSome_iff_exists.mp z.2
      obtain ⟨h1, h2⟩ := sBNTo_lt hj
      simp only [sBNC, Bool.and_eq_true] at h2
      obtain ⟨e2, he2, hl2⟩ := sFBO_of (by omega) z.1 ((sBro_c σ _ _).trans h2.2)
      have := g4 j h1 h2.1 e2 he2
      omega
theorem sMeantN_eq (σ : St) (b m c : Nat) : sMeantN σ b m c = sMns σ b m c := by
  have e : fst (fun k => sIs σ k m c && decide (σ 3 (σ 9 k) = b)) (σ 0 1) = sNameOn σ b none m c := by
    unfold sNameOn
    exact fst_congr fun k _ => by rw [show decide (some (σ 9 k) ≠ none) = true from by simp, Bool.true_and, Bool.and_comm]
  unfold sMeantN sMns
  rw [e]
  cases h : sNameOn σ b none m c with
  | some k => rfl
  | none => exact sMNlo_eq σ b m c

theorem sOutgrow_n {σ : St} {k : Nat} (h : sHeirOf σ k = none) : sOutgrow σ k = su σ 12 k 3 := by unfold sOutgrow; rw [h]
/-! it stays so -/
def sGd (σ : St) : Prop := sUq σ ∧ sZr σ
theorem sGd_new : sGd regNew := ⟨fun j k hj => absurd (show j < 0 from hj) (Nat.not_lt_zero j), fun p _ => ⟨rfl, rfl⟩⟩
theorem sUq.of {σ τ : St} (h : sUq σ) (e1 : τ 0 1 = σ 0 1) (e : ∀ k, k < σ 0 1 → (sAlive τ k = true → sAlive σ k = true) ∧ τ 6 k = σ 6 k ∧ τ 7 k = σ 7 k ∧ τ 9 k = σ 9 k) (e3 : ∀ k, k < σ 0 1 → τ 3 (σ 9 k) = σ 3 (σ 9 k)) : sUq τ := by
  intro j k hj hk aj ak e6 e7 eb
  rw [e1] at hj hk
  obtain ⟨a1, a2, a3, a4⟩ := e j hj
  obtain ⟨b1, b2, b3, b4⟩ := e k hk
  refine h j k hj hk (a1 aj) (b1 ak) (by omega) (by omega) ?_
  rw [a4, b4, e3 j hj, e3 k hk] at eb
  exact eb
theorem sZr.of {σ τ : St} (h : sZr σ) (e0 : τ 0 0 = σ 0 0) (e : ∀ p, σ 0 0 ≤ p → τ 4 p = σ 4 p ∧ τ 5 p = σ 5 p) : sZr τ := fun p hp => by
  rw [e0] at hp
  have := h p hp
  have := e p hp
  omega
theorem sAlive_su {σ : St} {k v j : Nat} (hv : 1 < v) (h : sAlive (su σ 12 k v) j = true) : j ≠ k ∧ sAlive σ j = true := by
  by_cases e : j = k
  · subst e
    simp [sAlive, su_same] at h
    omega
  · refine ⟨e, ?_⟩
    unfold sAlive at h ⊢
    rw [su_ne (by omega)] at h
    exact h
theorem sGd.state {σ : St} {k v : Nat} (h : sGd σ) (hv : 1 < v) : sGd (su σ 12 k v) :=
  ⟨h.1.of rfl (fun j _ => ⟨fun z => (sAlive_su hv z).2, rfl, rfl, rfl⟩) (fun _ _ => rfl), h.2.of rfl (fun _ _ => ⟨rfl, rfl⟩)⟩
theorem sGd.set {σ : St} {w v : Nat} (h : sGd σ) : sGd (su σ 14 w v) :=
  ⟨h.1.of rfl (fun j _ => ⟨fun z => z, rfl, rfl, rfl⟩) (fun _ _ => rfl), h.2.of rfl (fun _ _ => ⟨rfl, rfl⟩)⟩
theorem sGd.count {σ : St} {i v : Nat} (h : sGd σ) (hi : 2 ≤ i) : sGd (su σ 0 i v) := by
  have e0 : su σ 0 i v 0 0 = σ 0 0 := su_ne (by omega)
  have e1 : su σ 0 i v 0 1 = σ 0 1 := su_ne (by omega)
  exact ⟨h.1.of e1 (fun j _ => ⟨fun z => z, rfl, rfl, rfl⟩) (fun _ _ => rfl), h.2.of e0 (fun _ _ => ⟨rfl, rfl⟩)⟩
theorem sGd.addP {σ : St} {a f b : Nat} (h : sGd σ) (hH : sHo σ) : sGd (sAddP σ a f b) := by
  refine ⟨h.1.of rfl (fun j _ => ⟨fun z => z, rfl, rfl, rfl⟩) (fun k hk => ?_), fun p hp => ?_⟩
  · have := hH k hk
    have z : σ 9 k ≠ σ 0 0 := by omega
    simp [sAddP, su, z]
  · have hp : σ 0 0 + 1 ≤ p := hp
    have z : p ≠ σ 0 0 := by omega
    have := h.2 p (by omega)
    simp [sAddP, su, z, this]
theorem sGd.sit {σ : St} {p b : Nat} (h : sGd σ) (hk : sKept σ p b = false) : sGd (su σ 3 p b) := by
  have hno : ∀ j, j < σ 0 1 → σ 9 j = p → sAlive σ j = true → ∀ k, k < σ 0 1 → σ 9 k ≠ p → sAlive σ k = true → σ 6 j = σ 6 k → σ 7 j = σ 7 k → σ 3 (σ 9 k) = b → False := by
    intro j hj ej aj k hk2 ek ak e6 e7 eb
    have h1 : fst (fun k => decide (σ 9 k = p) && (sAlive σ k && (sNameOn σ b (some p) (σ 6 k) (σ 7 k)).isSome)) (σ 0 1) = none := by
      cases hq : fst (fun k => decide (σ 9 k = p) && (sAlive σ k && (sNameOn σ b (some p) (σ 6 k) (σ 7 k)).isSome)) (σ 0 1) with
      | none => rfl
      | some z => unfold sKept at hk; rw [hq] at hk; cases hk
    have h2 := fst_no h1 j hj
    rw [decide_eq_true ej, aj] at h2
    have h3 : sNameOn σ b (some p) (σ 6 j) (σ 7 j) = none := by
      cases hq : sNameOn σ b (some p) (σ 6 j) (σ 7 j) with
      | none => rfl
      | some z => rw [hq] at h2; cases h2
    have h4 := fst_no h3 k hk2
    simp [ek, eb, sIs, ak, ← e6, ← e7] at h4
  refine ⟨fun j k hj hk2 aj ak e6 e7 eb => ?_, h.2.of rfl (fun _ _ => ⟨rfl, rfl⟩)⟩
  have hj : j < σ 0 1 := hj
  have hk2 : k < σ 0 1 := hk2
  have aj : sAlive σ j = true := aj
  have ak : sAlive σ k = true := ak
  have e6 : σ 6 j = σ 6 k := e6
  have e7 : σ 7 j = σ 7 k := e7
  have eb : su σ 3 p b 3 (σ 9 j) = su σ 3 p b 3 (σ 9 k) := eb
  by_cases zj : σ 9 j = p <;> by_cases zk : σ 9 k = p
  · exact h.1 j k hj hk2 aj ak e6 e7 (by rw [zj, zk])
  · rw [zj, su_same, su_ne (Or.inr zk)] at eb
    exact (hno j hj zj aj k hk2 zk ak e6 e7 eb.symm).elim
  · rw [zk, su_same, su_ne (Or.inr zj)] at eb
    exact (hno k hk2 zk ak j hj zj aj e6.symm e7.symm eb).elim
  · rw [su_ne (Or.inr zj), su_ne (Or.inr zk)] at eb
    exact h.1 j k hj hk2 aj ak e6 e7 eb
theorem sGd.addN {σ : St} {g p m c y : Nat} (h : sGd σ) (hno : sNameOn σ (σ 3 p) none m c = none) : sGd (sAddN σ g p m c y) := by
  refine ⟨fun j k hj hk aj ak e6 e7 eb => ?_, h.2.of rfl (fun _ _ => ⟨rfl, rfl⟩)⟩
  have hj : j < σ 0 1 + 1 := hj
  have hk : k < σ 0 1 + 1 := hk
  have val : ∀ i, i ≠ σ 0 1 → sAddN σ g p m c y 6 i = σ 6 i ∧ sAddN σ g p m c y 7 i = σ 7 i ∧ sAddN σ g p m c y 9 i = σ 9 i ∧ sAlive (sAddN σ g p m c y) i = sAlive σ i := fun i hi => by simp [sAddN, su, sAlive, hi]
  have vnew : sAddN σ g p m c y 6 (σ 0 1) = m ∧ sAddN σ g p m c y 7 (σ 0 1) = c ∧ sAddN σ g p m c y 9 (σ 0 1) = p := by simp [sAddN, su]
  have v3 : ∀ q, sAddN σ g p m c y 3 q = σ 3 q := fun _ => rfl
  rw [v3, v3] at eb
  by_cases zj : j = σ 0 1 <;> by_cases zk : k = σ 0 1
  · omega
  · obtain ⟨b1, b2, b3, b4⟩ := val k zk
    obtain ⟨a1, a2, a3⟩ := vnew
    rw [zj, a1, b1] at e6
    rw [zj, a2, b2] at e7
    rw [zj, a3, b3] at eb
    rw [b4] at ak
    exact (sNO_n hno (by omega) eb.symm (sIs_i.mpr ⟨ak, e6.symm, e7.symm⟩)).elim
  · obtain ⟨b1, b2, b3, b4⟩ := val j zj
    obtain ⟨a1, a2, a3⟩ := vnew
    rw [zk, a1, b1] at e6
    rw [zk, a2, b2] at e7
    rw [zk, a3, b3] at eb
    rw [b4] at aj
    exact (sNO_n hno (by omega) eb (sIs_i.mpr ⟨aj, e6, e7⟩)).elim
  · obtain ⟨b1, b2, b3, b4⟩ := val k zk
    obtain ⟨a1, a2, a3, a4⟩ := val j zj
    rw [a1, b1] at e6
    rw [a2, b2] at e7
    rw [a3, b3] at eb
    exact h.1 j k (by omega) (by omega) (a4 ▸ aj) (b4 ▸ ak) e6 e7 eb
theorem sWhy_no {σ : St} {g p m c : Nat} (h : sWhy σ g p m c = 0) : sNameOn σ (σ 3 p) none m c = none := by
  unfold sWhy at h
  split at h
  · omega
  split at h
  · omega
  · rename_i z
    cases hq : sNameOn σ (σ 3 p) none m c with
    | none => rfl
    | some k => rw [hq] at z; exact absurd rfl z
theorem sAlive_use {σ : St} {k y u j : Nat} : sAlive (sUse σ k y u) j = sAlive σ j := by
  unfold sAlive
  rw [sUse_at]
  by_cases z : j = k ∧ σ 12 k = 0 ∧ u ≤ σ 10 k + 1
  · rw [if_neg (by omega), if_neg (by omega), if_pos ⟨rfl, z⟩, z.1, z.2.1]; rfl
  · rw [if_neg (by omega), if_neg (by omega), if_neg (by omega), if_neg (by omega)]
theorem sGd.use {σ : St} {k y u : Nat} (h : sGd σ) : sGd (sUse σ k y u) := by
  refine ⟨h.1.of (by simp [sUse_at]) (fun j _ => ⟨fun z => by rw [sAlive_use] at z; exact z, by simp [sUse_at], by simp [sUse_at], by simp [sUse_at]⟩) (fun j _ => by simp [sUse_at]), h.2.of (by simp [sUse_at]) (fun p _ => ⟨by simp [sUse_at], by simp [sUse_at]⟩)⟩
theorem sGd.mix {σ : St} {p : Nat} {o : Option Nat} (h : sGd σ) (hp : p < σ 0 0) (ho : ∀ q, o = some q → q < σ 0 0) : sGd (sMix σ p o) := by
  cases o with
  | none => exact h
  | some q =>
    have hq := ho q rfl
    refine ⟨h.1.of rfl (fun j _ => ⟨fun z => z, rfl, rfl, rfl⟩) (fun _ _ => rfl), h.2.of rfl (fun i hi => ?_)⟩
    have z1 : i ≠ p := by omega
    have z2 : i ≠ q := by omega
    simp [sMix, su, z1, z2]
theorem sGd.older {σ : St} (h : sGd σ) : sGd (sOlder σ) :=
  ⟨h.1.of (sOlder_n σ).2.1 (fun j _ => ⟨fun z => z, rfl, rfl, rfl⟩) (fun _ _ => rfl), h.2.of (sOlder_n σ).1 (fun _ _ => ⟨rfl, rfl⟩)⟩
theorem sHeirTo_b {σ : St} {p : Nat} : ∀ {n q : Nat}, sHeirTo σ p n = some q → σ 3 q = σ 3 p
  | 0, q, h => by cases h
  | n + 1, q, h => by
    rw [sHeirTo] at h
    split at h
    · rename_i z
      cases h
      simp only [sHeirC, sYounger, Bool.and_eq_true, decide_eq_true_eq] at z
      exact z.2.1.2.2
    · exact sHeirTo_b h
theorem sGd.outgrow {σ : St} {k : Nat} (h : sGd σ) (hk : k < σ 0 1) (ha : sAlive σ k = true) : sGd (sOutgrow σ k) := by
  cases hq : sHeirOf σ k with
  | none => rw [sOutgrow_n hq]; exact h.state (by decide)
  | some q =>
    have e : sOutgrow σ k = sAddN (su σ 12 k 4) (σ 9 k) q (σ 6 k) (σ 7 k) (σ 0 2) := by unfold sOutgrow; rw [hq]
    rw [e]
    have hb : σ 3 q = σ 3 (σ 9 k) := by
      unfold sHeirOf at hq
      split at hq
      · exact sHeirTo_b hq
      · cases hq
    refine (h.state (k := k) (v := 4) (by decide)).addN ?_
    cases hn : sNameOn (su σ 12 k 4) (su σ 12 k 4 3 q) none (σ 6 k) (σ 7 k) with
    | none => rfl
    | some j =>
      obtain ⟨h1, h2, h3⟩ := sNO_s hn
      have h1 : j < σ 0 1 := h1
      have h2 : σ 3 (σ 9 j) = σ 3 q := h2
      rw [sIs_i] at h3
      obtain ⟨g1, g2⟩ := sAlive_su (by decide) h3.1
      exact absurd (h.1 j k h1 hk g2 ha h3.2.1 h3.2.2 (by rw [h2, hb])) g1
theorem sGd.endStep {σ : St} {k : Nat} (h : sGd σ) (hk : k < σ 0 1) : sGd (sEndStep σ k) := by
  unfold sEndStep
  split
  · exact h
  split
  · exact h.state (by decide)
  split
  · rename_i z _ _
    exact h.outgrow hk (by simpa using z)
  · exact h
theorem sGd.end_ {σ : St} {T : Nat} (h : sGd σ) (hI : eIv σ T) : ∀ {k : Nat}, k ≤ σ 0 1 → sGd (sEnd σ k)
  | 0, _ => h
  | k + 1, hk => by
    have := (hI.end_ (k := k) (by omega)).2.1
    rw [sEnd]
    exact (h.end_ hI (k := k) (by omega)).endStep (by omega)
theorem sGd.years {σ : St} {T : Nat} (h : sGd σ) (hI : eIv σ T) : ∀ {n : Nat}, σ 0 2 + n ≤ 999 → sGd (sYears σ n)
  | 0, _ => h
  | n + 1, hn => by
    obtain ⟨h1, h2, h3⟩ := hI.years (n := n) (by omega)
    obtain ⟨z1, z2, z3⟩ := sOlder_n (sYears σ n)
    rw [sYears]
    exact (h.years hI (n := n) (by omega)).older.end_ (h1.older (by omega)) (by omega)
theorem sGd.pass {σ : St} {T n : Nat} (h : sGd σ) (hI : eIv σ T) : sGd (sPass σ n) := by
  unfold sPass
  split
  · rename_i z
    simp only [sYearsOK, decide_eq_true_eq] at z
    exact h.years hI z.2.2
  · exact h
theorem sGd.person {σ : St} {T a f b : Nat} (h : sGd σ) (hI : eIv σ T) : sGd (sPerson σ a f b) := by
  unfold sPerson
  split
  · exact h.addP hI.ho
  · exact h
theorem sGd.sitting {σ : St} {p b : Nat} (h : sGd σ) : sGd (sSit σ p b) := by
  unfold sSit
  split
  · rename_i z
    simp only [sSitOK, Bool.and_eq_true, Bool.not_eq_true'] at z
    exact h.sit z.2
  · exact h
theorem sGd.give {σ : St} {g p m c : Nat} (h : sGd σ) : sGd (sGive σ g p m c) := by
  unfold sGive
  split
  · rename_i z
    simp only [sGiveOK, Bool.and_eq_true, decide_eq_true_eq] at z
    exact h.addN (sWhy_no z.2)
  · exact h
theorem sGd.giveT {σ : St} {g p m c : Nat} (h : sGd σ) : sGd (sGiveT σ g p m c) := by
  unfold sGiveT
  split
  · rename_i z
    exact h.addN (sWhy_no z)
  · exact h.count (by decide)
theorem sGd.setting {σ : St} {w v : Nat} (h : sGd σ) : sGd (sSet σ w v) := by
  unfold sSet
  split
  · exact h.set
  · exact h
theorem sFBN_lt {σ : St} {p m c q : Nat} (h : sFBN σ p m c = some q) : q < σ 0 0 := (fst_lt h).1
theorem sGd.call {σ : St} {b m c : Nat} (h : sGd σ) : sGd (sCall σ b m c) := by
  unfold sCall
  split
  · exact h
  · rename_i p hp
    split
    · exact h.use
    · exact h.mix (sCallW_lt hp) (fun q hq => sFBN_lt hq)
theorem sGd.callT {σ : St} {b m c : Nat} (h : sGd σ) : sGd (sCallT σ b m c) := by
  unfold sCallT
  split
  · exact h.call.count (by decide)
  · exact h.call
theorem sGd.obey {σ : St} {T : Nat} {k : Option Nat} {tl : Nat → Nat} (h : sGd σ) (hI : eIv σ T) : sGd (sObey σ k tl).1 := by
  unfold sObey
  split
  · exact h.person hI
  split
  · exact h.give
  split
  · exact h.call
  split
  · exact h.pass hI
  split
  · exact h.sitting
  split
  · exact h.setting
  · exact h
theorem sGd.turn {σ : St} {T n : Nat} (h : sGd σ) (hI : eIv σ T) : sGd (sTurn σ n) := by
  unfold sTurn
  split
  · exact h.person hI
  split
  · exact h.give
  split
  · exact h.call
  split
  · exact h.sitting
  split
  · exact h.setting
  · exact h.pass hI
theorem sGd.run {σ : St} {T k : Nat} (h : sGd σ) (hI : eIv σ T) : sGd (sRun σ k).1 := by
  unfold sRun
  split
  · split
    · exact h.give
    · exact h
  split
  · split
    · exact h.call
    · exact h
  split
  · split
    · exact h.pass hI
    · exact h
  split
  · split
    · exact h.sitting
    · exact h
  split
  · split
    · exact h.setting
    · exact h
  split
  · exact h
  split
  · exact h
  split
  · exact h
  split
  · exact h
  · exact h
theorem eIv.giveT {σ : St} {T g p m c : Nat} (h : eIv σ T) (hg : g < σ 0 0) (hp : p < σ 0 0) (hm : sCode m c = true) : eIv (sGiveT σ g p m c) (T + 1) := by
  have hm := of_decide_eq_true hm
  unfold sGiveT
  split
  · rename_i z
    exact (h.addN hg hp ⟨hm.1, hm.2.1⟩ hm.2.2 (sWhy_40 z)).mono (Nat.le_succ T)
  · exact h.count (by decide)
theorem eIv.callT {σ : St} {T b m c : Nat} (h : eIv σ T) : eIv (sCallT σ b m c) (T + 2) := by
  unfold sCallT
  split
  · exact h.call.count (by decide)
  · exact h.call.mono (by omega)

