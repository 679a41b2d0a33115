/-! WHAT WOULD BE IS SO WHEN IT IS DONE -/
theorem sRem_last {σ : St} {c : Nat} {τ : Nat → St} (hc : c ≤ 14) : ∃ c', sRemC c = c' + 1 ∧ sRem c τ σ c' = σ ∧ c' < 14 := by
  by_cases z : c < 14
  · exact ⟨c, by unfold sRemC; rw [if_pos z], by unfold sRem; rw [if_pos z]; exact if_pos rfl, z⟩
  · refine ⟨13, by unfold sRemC; rw [if_neg z]; omega, ?_, by omega⟩
    unfold sRem
    rw [if_neg z]
    exact if_pos rfl
theorem sBestTo_none {σ : St} {p m : Nat} : ∀ {k : Nat}, (sBestTo σ p m k).1 = none → ∀ j, j < k → (sNameOn σ (σ 3 p) none m j).isSome = true
  | 0, _, j, hj => absurd hj (Nat.not_lt_zero j)
  | k + 1, h, j, hj => by
    rw [sBestTo] at h
    split at h
    · cases h
    · rename_i z
      by_cases w : j = k
      · rw [w]
        cases e : (sNameOn σ (σ 3 p) none m k).isSome with
        | true => rfl
        | false => exact absurd ⟨Or.inl h, e⟩ z
      · exact sBestTo_none h j (by omega)
theorem sBestTo_ok {σ : St} {p m : Nat} : ∀ {k b : Nat}, (sBestTo σ p m k).1 = some b → (sNameOn σ (σ 3 p) none m b).isSome = false
  | 0, b, h => by cases h
  | k + 1, b, h => by
    rw [sBestTo] at h
    split at h
    · rename_i z
      cases h
      exact z.2
    · exact sBestTo_ok h
theorem sBest_no {σ : St} {g p m : Nat} (h : sBest σ g p m = none) : 0 < sWhy σ g p m 0 := by
  unfold sBest at h
  unfold sWhy
  split at h
  · rename_i z
    split
    · omega
    · rename_i z2
      split
      · omega
      · rw [if_pos (z.resolve_left z2)]
        omega
  · rename_i z
    have e := sBestTo_none h 0 (Nat.pow_pos (by decide))
    rw [if_neg (fun w => z (Or.inl w)), if_pos e]
    omega
theorem sBest_yes {σ : St} {g p m c : Nat} (h : sBest σ g p m = some c) : sWhy σ g p m c = 0 ∧ c < 26 ^ m := by
  unfold sBest at h
  split at h
  · cases h
  · rename_i z
    refine ⟨?_, sBestTo_lt h⟩
    unfold sWhy
    rw [if_neg (fun w => z (Or.inl w)), if_neg (by rw [sBestTo_ok h]; decide), if_neg (fun w => z (Or.inr w))]
theorem sCallT_more {σ : St} {b m c : Nat} (hb : b < 4) (hmc : sCode m c = true) : σ 0 3 < sCallT σ b m c 0 3 + sCallT σ b m c 0 4 + sSum (sCallT σ b m c 10) (sCallT σ b m c 0 1) := by
  unfold sCallT
  cases hW : sCallW σ b m c with
  | none =>
    have e : sCall σ b m c = σ := by unfold sCall; rw [hW]
    rw [if_pos rfl, e]
    have e3 : su σ 0 4 (σ 0 4 + 1) 0 3 = σ 0 3 := su_ne (by omega)
    have e4 : su σ 0 4 (σ 0 4 + 1) 0 4 = σ 0 4 + 1 := su_same _ _ _ _
    omega
  | some p =>
    rw [if_neg (fun z => nomatch z)]
    cases hn : sNameOf σ p m c with
    | some k =>
      have e : sCall σ b m c = sUse σ k (σ 0 2) (σ 14 0) := by unfold sCall; rw [hW]; simp only [hn]
      rw [e]
      have e3 : sUse σ k (σ 0 2) (σ 14 0) 0 3 = σ 0 3 := by simp [sUse_at]
      have e1 : sUse σ k (σ 0 2) (σ 14 0) 0 1 = σ 0 1 := by simp [sUse_at]
      have es : sSum (sUse σ k (σ 0 2) (σ 14 0) 10) (σ 0 1) = sSum (σ 10) (σ 0 1) + 1 := sSum_1 (p := k) (sNf_s hn).1 fun j _ => by
        by_cases z : j = k
        · subst z; simp [sUse_at]
        · simp [sUse_at, z]
      rw [e3, e1, es]
      omega
    | none =>
      have e : sCall σ b m c = sMix σ p (sFBN σ p m c) := by unfold sCall; rw [hW]; simp only [hn]
      have hM : sMeant σ b m c = some p := by
        unfold sCallW at hW
        rw [if_pos ⟨hb, hmc⟩] at hW
        exact hW
      have hF : (sFBN σ p m c).isSome = true := by
        cases h1 : fst (fun p => decide (σ 3 p = b) && (sNameOf σ p m c).isSome) (σ 0 0) with
        | some q =>
          rw [sMeant_1 h1] at hM
          cases hM
          have := (fst_lt h1).2.1
          simp only [Bool.and_eq_true] at this
          rw [hn] at this
          cases this.2
        | none =>
          rw [sMeant_2 h1] at hM
          have := (fst_lt hM).2.1
          simp only [Bool.and_eq_true] at this
          exact this.2
      obtain ⟨q, hq⟩ := Option.isSome_iff_exists.mp hF
      rw [e, hq]
      have e3 : sMix σ p (some q) 0 3 = σ 0 3 + 1 := by simp [sMix, su]
      omega
theorem sMeantN_is {σ : St} {b m c : Nat} (hU : sUq σ) (hH : sHo σ) : sMeantN σ b m c = sMeant σ b m c := (sMeantN_eq σ b m c).trans (sMns_eq hU hH)
/-! how long a name lasts -/
def sDue (σ : St) (n : Nat) : Prop := σ 14 1 ≤ σ 0 2 - σ 11 n ∨ 4 * σ 14 2 * σ 6 n < σ 1 (σ 9 n)
/-- two states say the same of a name, but perhaps whether it is alive -/
def sLk (σ τ : St) (n : Nat) : Prop := τ 6 n = σ 6 n ∧ τ 9 n = σ 9 n ∧ τ 11 n = σ 11 n ∧ τ 1 = σ 1 ∧ τ 14 = σ 14 ∧ τ 0 2 = σ 0 2 ∧ σ 0 1 ≤ τ 0 1
theorem sLk.rf {σ : St} {n : Nat} : sLk σ σ n := ⟨rfl, rfl, rfl, rfl, rfl, rfl, Nat.le_refl _⟩
theorem sLk.trans {σ τ υ : St} {n : Nat} (h : sLk σ τ n) (g : sLk τ υ n) : sLk σ υ n := by
  obtain ⟨a1, a2, a3, a4, a5, a6, a7⟩ := h
  obtain ⟨b1, b2, b3, b4, b5, b6, b7⟩ := g
  exact ⟨b1.trans a1, b2.trans a2, b3.trans a3, b4.trans a4, b5.trans a5, b6.trans a6, Nat.le_trans a7 b7⟩
theorem sLk.due {σ τ : St} {n : Nat} (h : sLk σ τ n) : sDue τ n ↔ sDue σ n := by
  obtain ⟨a1, a2, a3, a4, a5, a6, a7⟩ := h
  unfold sDue
  rw [a1, a2, a3, a4, a5, a6]
theorem sEndStep_lk {σ : St} {k n : Nat} (hn : n < σ 0 1) : sLk σ (sEndStep σ k) n ∧ (n ≠ k → sEndStep σ k 12 n = σ 12 n) := by
  have hz : n ≠ σ 0 1 := by omega
  have one : ∀ v, sLk σ (su σ 12 k v) n ∧ (n ≠ k → su σ 12 k v 12 n = σ 12 n) := fun v => ⟨⟨rfl, rfl, rfl, rfl, rfl, rfl, Nat.le_refl _⟩, fun h => su_ne (Or.inr h)⟩
  unfold sEndStep
  split
  · exact ⟨sLk.rf, fun _ => rfl⟩
  split
  · exact one 2
  split
  · cases hq : sHeirOf σ k with
    | none => rw [sOutgrow_n hq]; exact one 3
    | some q =>
      have e : sOutgrow σ k = sAddN (su σ 12 k 4) (σ 9 k) q (σ 6 k) (σ 7 k) (σ 0 2) := by unfold sOutgrow; rw [hq]
      rw [e]
      refine ⟨⟨?_, ?_, ?_, rfl, rfl, ?_, ?_⟩, fun h => ?_⟩
      · simp [sAddN, su, hz]
      · simp [sAddN, su, hz]
      · simp [sAddN, su, hz]
      · simp [sAddN, su]
      · simp [sAddN, su]
      · simp [sAddN, su, hz, h]
  · exact ⟨sLk.rf, fun _ => rfl⟩
theorem sEndStep_self {σ : St} {n : Nat} (hn : n < σ 0 1) (ha : sAlive σ n = true) : (sDue σ n → 1 < sEndStep σ n 12 n ∧ sEndQ σ n = 1) ∧ (¬ sDue σ n → sEndStep σ n 12 n = σ 12 n) := by
  have hz : n ≠ σ 0 1 := by omega
  refine ⟨fun d => ?_, fun d => ?_⟩
  · by_cases z : σ 14 1 ≤ σ 0 2 - σ 11 n
    · obtain ⟨e1, e2⟩ := sEnd_forg ha z
      rw [e1, e2, su_same]
      exact ⟨by omega, rfl⟩
    · obtain ⟨e1, e2⟩ := sEnd_out ha (Nat.not_le.mp z) (d.resolve_left z)
      rw [e1, e2]
      refine ⟨?_, rfl⟩
      cases hq : sHeirOf σ n with
      | none => rw [sOutgrow_n hq, su_same]; omega
      | some q =>
        have e : sOutgrow σ n = sAddN (su σ 12 n 4) (σ 9 n) q (σ 6 n) (σ 7 n) (σ 0 2) := by unfold sOutgrow; rw [hq]
        rw [e]
        simp [sAddN, su, hz]
  · rw [(sEnd_stay ha (Nat.not_le.mp (fun z => d (Or.inl z))) (Nat.not_lt.mp (fun z => d (Or.inr z)))).1]
theorem sEnd_lk {σ : St} {n : Nat} (hn : n < σ 0 1) : ∀ k, sLk σ (sEnd σ k) n ∧ (k ≤ n → sEnd σ k 12 n = σ 12 n) ∧ (sAlive σ n = true → n < k → (sDue σ n → 1 < sEnd σ k 12 n ∧ 0 < sEndN σ k) ∧ (¬ sDue σ n → sEnd σ k 12 n = σ 12 n))
  | 0 => ⟨sLk.rf, fun _ => rfl, fun _ h => absurd h (Nat.not_lt_zero n)⟩
  | k + 1 => by
    obtain ⟨h1, h2, h3⟩ := sEnd_lk hn k
    have hn2 : n < sEnd σ k 0 1 := Nat.lt_of_lt_of_le hn h1.2.2.2.2.2.2
    obtain ⟨g1, g2⟩ := sEndStep_lk (k := k) hn2
    rw [sEnd, sEndN]
    refine ⟨h1.trans g1, fun hk => (g2 (by omega)).trans (h2 (by omega)), fun ha hk => ?_⟩
    by_cases z : n = k
    · subst z
      have e12 := h2 (Nat.le_refl n)
      have ha2 : sAlive (sEnd σ n) n = true := by unfold sAlive at ha ⊢; rw [e12]; exact ha
      obtain ⟨q1, q2⟩ := sEndStep_self hn2 ha2
      refine ⟨fun d => ?_, fun d => ?_⟩
      · have := q1 (h1.due.mpr d)
        exact ⟨this.1, by rw [this.2]; omega⟩
      · rw [q2 (fun w => d (h1.due.mp w)), e12]
    · obtain ⟨q1, q2⟩ := h3 ha (by omega)
      rw [g2 z]
      exact ⟨fun d => ⟨(q1 d).1, by have := (q1 d).2; omega⟩, q2⟩
/-- n stands after j years as it stood -/
def sStill (σ τ : St) (n j : Nat) : Prop := τ 12 n = σ 12 n ∧ τ 6 n = σ 6 n ∧ τ 9 n = σ 9 n ∧ τ 11 n = σ 11 n ∧ τ 1 (σ 9 n) = σ 1 (σ 9 n) + j ∧ τ 14 = σ 14 ∧ τ 0 2 = σ 0 2 + j ∧ n < τ 0 1 ∧ τ 0 0 = σ 0 0
theorem sStill_due {σ τ : St} {n j : Nat} (h : sStill σ τ n j) (hH : σ 9 n < σ 0 0) : sDue (sOlder τ) n ↔ (σ 14 1 ≤ σ 0 2 + j + 1 - σ 11 n ∨ 4 * σ 14 2 * σ 6 n < σ 1 (σ 9 n) + j + 1) := by
  obtain ⟨a1, a2, a3, a4, a5, a6, a7, a8, a9⟩ := h
  have e2 : sOlder τ 0 2 = σ 0 2 + j + 1 := by rw [(sOlder_n τ).2.2, a7]
  have e11 : sOlder τ 11 n = σ 11 n := a4
  have e6 : sOlder τ 6 n = σ 6 n := a2
  have e9 : sOlder τ 9 n = σ 9 n := a3
  have e14 : sOlder τ 14 = σ 14 := a6
  have e1 : sOlder τ 1 (σ 9 n) = σ 1 (σ 9 n) + j + 1 := by
    rw [← a5]
    have : σ 9 n < τ 0 0 := by omega
    simp [sOlder, sGrow, su, this]
  unfold sDue
  rw [e2, e11, e6, e9, e14, e1]
theorem sEndStep_00 (σ : St) (k : Nat) : sEndStep σ k 0 0 = σ 0 0 := by
  unfold sEndStep
  split
  · rfl
  split
  · exact su_f (by decide)
  split
  · cases hq : sHeirOf σ k with
    | none => rw [sOutgrow_n hq]; exact su_f (by decide)
    | some q =>
      have e : sOutgrow σ k = sAddN (su σ 12 k 4) (σ 9 k) q (σ 6 k) (σ 7 k) (σ 0 2) := by unfold sOutgrow; rw [hq]
      rw [e]
      simp [sAddN, su]
  · rfl
theorem sStill_next {σ τ : St} {n j : Nat} (h : sStill σ τ n j) (hH : σ 9 n < σ 0 0) (ha : sAlive σ n = true) :
    (sDue (sOlder τ) n → 1 < sEnd (sOlder τ) (τ 0 1) 12 n ∧ 0 < sEndN (sOlder τ) (τ 0 1)) ∧ (¬ sDue (sOlder τ) n → sStill σ (sEnd (sOlder τ) (τ 0 1)) n (j + 1)) := by
  have hw := h
  obtain ⟨a1, a2, a3, a4, a5, a6, a7, a8, a9⟩ := h
  obtain ⟨z0, z1, z2⟩ := sOlder_n τ
  have hn : n < sOlder τ 0 1 := by omega
  have ha2 : sAlive (sOlder τ) n = true := by
    unfold sAlive at ha ⊢
    rw [show sOlder τ 12 n = σ 12 n from a1]
    exact ha
  obtain ⟨h1, -, h3⟩ := sEnd_lk hn (τ 0 1)
  obtain ⟨q1, q2⟩ := h3 ha2 a8
  refine ⟨q1, fun d => ?_⟩
  obtain ⟨b1, b2, b3, b4, b5, b6, b7⟩ := h1
  have e1 : sOlder τ 1 (σ 9 n) = σ 1 (σ 9 n) + j + 1 := by
    rw [← a5]
    have : σ 9 n < τ 0 0 := by omega
    simp [sOlder, sGrow, su, this]
  have e00 : ∀ k, sEnd (sOlder τ) k 0 0 = sOlder τ 0 0 := by
    intro k
    induction k with
    | zero => rfl
    | succ k ih =>
      rw [sEnd, sEndStep_00, ih]
  exact ⟨(q2 d).trans a1, b1.trans a2, b2.trans a3, b3.trans a4, by rw [b4, e1]; omega, b5.trans a6, by rw [b6, z2]; omega, by omega, by rw [e00, z0]; exact a9⟩
theorem sLeft_i {σ : St} {n L : Nat} (ha : sAlive σ n = true) (hL : sLeft σ n = L) (hy : σ 11 n ≤ σ 0 2) : 1 ≤ L ∧ (L ≤ σ 14 1 ∨ L = 1) ∧
    (∀ j, j + 1 < L → ¬ (σ 14 1 ≤ σ 0 2 + j + 1 - σ 11 n ∨ 4 * σ 14 2 * σ 6 n < σ 1 (σ 9 n) + j + 1)) ∧
    (∀ j, j + 1 = L → (σ 14 1 ≤ σ 0 2 + j + 1 - σ 11 n ∨ 4 * σ 14 2 * σ 6 n < σ 1 (σ 9 n) + j + 1)) := by
  unfold sLeft at hL
  rw [if_pos ha] at hL
  generalize 4 * σ 14 2 * σ 6 n = K at hL ⊢
  generalize σ 1 (σ 9 n) = A at hL ⊢
  generalize σ 14 1 = S at hL ⊢
  generalize σ 0 2 = Y at hL hy ⊢
  generalize σ 11 n = Q at hL hy ⊢
  refine ⟨by omega, by omega, fun j hj => by omega, fun j hj => by omega⟩
theorem sYears_still {σ : St} {n L : Nat} (hn : n < σ 0 1) (hH : σ 9 n < σ 0 0) (ha : sAlive σ n = true) (hL : sLeft σ n = L) (hy : σ 11 n ≤ σ 0 2) : ∀ j, j < L → sStill σ (sYears σ j) n j
  | 0, _ => ⟨rfl, rfl, rfl, rfl, rfl, rfl, rfl, hn, rfl⟩
  | j + 1, hj => by
    have h := sYears_still hn hH ha hL hy j (by omega)
    rw [sYears]
    exact (sStill_next h hH ha).2 fun d => (sLeft_i ha hL hy).2.2.1 j hj ((sStill_due h hH).mp d)
theorem sYears_last {σ : St} {n L : Nat} (hn : n < σ 0 1) (hH : σ 9 n < σ 0 0) (ha : sAlive σ n = true) (hL : sLeft σ n = L) (hy : σ 11 n ≤ σ 0 2) : 1 < sYears σ L 12 n ∧ 0 < sYearsN σ L ∧ n < sYears σ L 0 1 := by
  obtain ⟨g1, g2, g3, g4⟩ := sLeft_i ha hL hy
  obtain ⟨j, rfl⟩ : ∃ j, L = j + 1 := ⟨L - 1, by omega⟩
  have h := sYears_still hn hH ha hL hy j (by omega)
  obtain ⟨q1, q2⟩ := (sStill_next h hH ha).1 ((sStill_due h hH).mpr (g4 j rfl))
  rw [sYears, sYearsN]
  refine ⟨q1, by omega, ?_⟩
  have h8 : n < sYears σ j 0 1 := h.2.2.2.2.2.2.2.1
  have e := (sOlder_n (sYears σ j)).2.1
  exact Nat.lt_of_lt_of_le (by omega : n < sOlder (sYears σ j) 0 1) (sEnd_lk (by omega : n < sOlder (sYears σ j) 0 1) (sYears σ j 0 1)).1.2.2.2.2.2.2
