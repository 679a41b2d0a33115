/-! NO TWO ON A BENCH HAVE LIKE NAMES; and what follows for the ways in which a call is read -/
def sUq (σ : St) : Prop := ∀ j k, j < σ 0 1 → k < σ 0 1 → sAlive σ j = true → sAlive σ k = true → σ 6 j = σ 6 k → σ 7 j = σ 7 k → σ 3 (σ 9 j) = σ 3 (σ 9 k) → j = k
def sZr (σ : St) : Prop := ∀ p, σ 0 0 ≤ p → σ 4 p = 0 ∧ σ 5 p = 0
def sHo (σ : St) : Prop := ∀ k, k < σ 0 1 → σ 9 k < σ 0 0
theorem eIv.ho {σ : St} {T : Nat} (h : eIv σ T) : sHo σ := fun k hk => (h.2.2.2.2.1 k hk).1
theorem sIs_i {σ : St} {k m c : Nat} : sIs σ k m c = true ↔ sAlive σ k = true ∧ σ 6 k = m ∧ σ 7 k = c := by simp [sIs]
theorem sNO_s {σ : St} {b m c k : Nat} (h : sNameOn σ b none m c = some k) : k < σ 0 1 ∧ σ 3 (σ 9 k) = b ∧ sIs σ k m c = true := by
  have h2 := fst_lt h
  have h3 := h2.2.1
  simp only [Bool.and_eq_true, decide_eq_true_eq] at h3
  exact ⟨h2.1, h3.2.1, h3.2.2⟩
theorem sNO_n {σ : St} {b m c k : Nat} (h : sNameOn σ b none m c = none) (hk : k < σ 0 1) (hb : σ 3 (σ 9 k) = b) (hi : sIs σ k m c = true) : False := by
  have h2 := fst_no h k hk
  simp [hb, hi] at h2
theorem sNf_s {σ : St} {p m c k : Nat} (h : sNameOf σ p m c = some k) : k < σ 0 1 ∧ σ 9 k = p ∧ sIs σ k m c = true := by
  have h2 := fst_lt h
  have h3 := h2.2.1
  simp only [Bool.and_eq_true, decide_eq_true_eq] at h3
  exact ⟨h2.1, h3.1, h3.2⟩
theorem sNf_n {σ : St} {p m c k : Nat} (h : sNameOf σ p m c = none) (hk : k < σ 0 1) (hb : σ 9 k = p) (hi : sIs σ k m c = true) : False := by
  have h2 := fst_no h k hk
  simp [hb, hi] at h2
theorem sNf_of {σ : St} {p m c k : Nat} (hk : k < σ 0 1) (hb : σ 9 k = p) (hi : sIs σ k m c = true) : (sNameOf σ p m c).isSome = true := by
  cases h : sNameOf σ p m c with
  | none => exact (sNf_n h hk hb hi).elim
  | some j => rfl
theorem sBNTo_none {σ : St} {p m c : Nat} : ∀ {n : Nat}, sBNTo σ p m c n = none → ∀ k, k < n → sBNC σ p m c k = false
  | 0, _, k, hk => absurd hk (Nat.not_lt_zero k)
  | n + 1, h, k, hk => by
    rw [sBNTo] at h
    split at h
    · split at h
      · cases h
      · split at h <;> cases h
    · rename_i z
      rcases Nat.lt_or_ge k n with q | q
      · exact sBNTo_none h k q
      · have e : k = n := by omega
        rw [e]; simpa using z
theorem sBNTo_min {σ : St} {p m c : Nat} : ∀ {n e : Nat}, sBNTo σ p m c n = some e → ∀ k, k < n → sBNC σ p m c k = true → σ 9 e ≤ σ 9 k
  | 0, e, h, k, hk, _ => absurd hk (Nat.not_lt_zero k)
  | n + 1, e, h, k, hk, hc => by
    rw [sBNTo] at h
    split at h
    · split at h
      · rename_i z q
        cases h
        rcases Nat.lt_or_ge k n with q2 | q2
        · rw [sBNTo_none q k q2] at hc; cases hc
        · have e2 : k = n := by omega
          rw [e2]; exact Nat.le_refl _
      · rename_i z e1 q
        split at h
        · rename_i z2
          cases h
          rcases Nat.lt_or_ge k n with q2 | q2
          · have := sBNTo_min q k q2 hc; omega
          · have e2 : k = n := by omega
            rw [e2]; exact Nat.le_refl _
        · rename_i z2
          cases h
          rcases Nat.lt_or_ge k n with q2 | q2
          · exact sBNTo_min q k q2 hc
          · have e2 : k = n := by omega
            rw [e2]; omega
    · rename_i z
      rcases Nat.lt_or_ge k n with q2 | q2
      · exact sBNTo_min h k q2 hc
      · have e2 : k = n := by omega
        rw [e2] at hc; exact absurd hc z
theorem sFBN_eq {σ : St} {p m c : Nat} (hH : sHo σ) : sFBN σ p m c = (sBN σ p m c).map (σ 9) := by
  unfold sFBN
  cases hb : sBN σ p m c with
  | none =>
    refine fst_none_of fun q hq => Bool.eq_false_iff.mpr fun z => ?_
    simp only [Bool.and_eq_true] at z
    obtain ⟨k, hk⟩ := Option.isSome_iff_exists.mp z.2
    obtain ⟨h1, h2, h3⟩ := sNf_s hk
    have := sBNTo_none hb k h1
    rw [sBNC, h3, h2, z.1] at this
    cases this
  | some e =>
    obtain ⟨h1, h2⟩ := sBNTo_lt hb
    simp only [sBNC, Bool.and_eq_true] at h2
    refine fst_of (hH e h1) ?_ fun q hq => Bool.eq_false_iff.mpr fun z => ?_
    · rw [h2.2, sNf_of h1 rfl h2.1]; rfl
    · simp only [Bool.and_eq_true] at z
      obtain ⟨k, hk⟩ := Option.isSome_iff_exists.mp z.2
      obtain ⟨g1, g2, g3⟩ := sNf_s hk
      have := sBNTo_min hb k g1 (by rw [sBNC, g3, g2, z.1]; rfl)
      omega
theorem sMeant_1 {σ : St} {b m c p : Nat} (h : fst (fun p => decide (σ 3 p = b) && (sNameOf σ p m c).isSome) (σ 0 0) = some p) : sMeant σ b m c = some p := by unfold sMeant; rw [h]
theorem sMeant_2 {σ : St} {b m c : Nat} (h : fst (fun p => decide (σ 3 p = b) && (sNameOf σ p m c).isSome) (σ 0 0) = none) : sMeant σ b m c = fst (fun p => decide (σ 3 p = b) && (sFBN σ p m c).isSome) (σ 0 0) := by unfold sMeant; rw [h]
theorem sMns_eq {σ : St} {b m c : Nat} (hU : sUq σ) (hH : sHo σ) : sMns σ b m c = sMeant σ b m c := by
  cases h : sNameOn σ b none m c with
  | some k =>
    obtain ⟨h1, h2, h3⟩ := sNO_s h
    rw [sMns_y h]
    refine (sMeant_1 (fst_of (hH k h1) ?_ fun q hq => Bool.eq_false_iff.mpr fun z => ?_)).symm
    · rw [decide_eq_true h2, sNf_of h1 rfl h3]; rfl
    · simp only [Bool.and_eq_true, decide_eq_true_eq] at z
      obtain ⟨j, hj⟩ := Option.isSome_iff_exists.mp z.2
      obtain ⟨g1, g2, g3⟩ := sNf_s hj
      rw [sIs_i] at g3 h3
      have e := hU j k g1 h1 g3.1 h3.1 (by omega) (by omega) (by rw [g2, z.1, h2])
      subst e
      omega
  | none =>
    rw [sMns_n h, sMeant_2 (fst_none_of fun q hq => Bool.eq_false_iff.mpr fun z => ?_)]
    · exact fst_congr fun p hp => by rw [sFBN_eq hH, Option.isSome_map]
    · simp only [Bool.and_eq_true, decide_eq_true_eq] at z
      obtain ⟨j, hj⟩ := Option.isSome_iff_exists.mp z.2
      obtain ⟨g1, g2, g3⟩ := sNf_s hj
      exact sNO_n h g1 (by rw [g2]; exact z.1) g3
theorem sBro_c (σ : St) (p q : Nat) : sBro σ p q = sBro σ q p := by
  unfold sBro
  by_cases z : p = q
  · rw [z]
  · rw [show decide (p ≠ q) = true from decide_eq_true z, show decide (q ≠ p) = true from decide_eq_true (fun e => z e.symm)]
    by_cases z2 : σ 2 p = σ 2 q
    · rw [z2]
    · rw [decide_eq_false z2, decide_eq_false (fun e => z2 e.symm)]
theorem sFBO_of {σ : St} {b p q : Nat} (hq : q < σ 0 0) (h3 : σ 3 q = b) (hb : sBro σ p q = true) : ∃ e, sFBO σ b p = some e ∧ e ≤ q := by
  cases h : sFBO σ b p with
  | none =>
    have := fst_no h q hq
    rw [decide_eq_true h3, hb] at this
    cases this
  | some e =>
    refine ⟨e, rfl, Nat.le_of_not_lt fun z => ?_⟩
    have := (fst_lt h).2.2 q z
    rw [decide_eq_true h3, hb] at this
    cases this
theorem sMNlo_no2 {σ : St} {b m c : Nat} : ∀ {n : Nat}, sMNlo σ b m c n = none → ∀ k, k < n → sIs σ k m c = true → sFBO σ b (σ 9 k) = none
  | 0, _, k, hk, _ => absurd hk (Nat.not_lt_zero k)
  | n + 1, h, k, hk, hi => by
    rw [sMNlo] at h
    by_cases h1 : sIs σ n m c = true
    · rw [if_pos h1] at h
      cases hf : sFBO σ b (σ 9 n) with
      | none =>
        rw [hf] at h
        rcases Nat.lt_or_ge k n with q2 | q2
        · exact sMNlo_no2 h k q2 hi
        · have e2 : k = n := by omega
          rw [e2]; exact hf
      | some q =>
        cases hl : sMNlo σ b m c n with
        | none => rw [hf, hl] at h; cases h
        | some l => rw [hf, hl] at h; simp only at h; split at h <;> cases h
    · rw [if_neg h1] at h
      rcases Nat.lt_or_ge k n with q2 | q2
      · exact sMNlo_no2 h k q2 hi
      · have e2 : k = n := by omega
        rw [e2] at hi; exact absurd hi h1
theorem sMNlo_so2 {σ : St} {b m c : Nat} : ∀ {n e : Nat}, sMNlo σ b m c n = some e → (∃ k, k < n ∧ sIs σ k m c = true ∧ sFBO σ b (σ 9 k) = some e) ∧ ∀ k, k < n → sIs σ k m c = true → ∀ q, sFBO σ b (σ 9 k) = some q → e ≤ q
  | 0, e, h => by cases h
  | n + 1, e, h => by
    rw [sMNlo] at h
    by_cases h1 : sIs σ n m c = true
    · rw [if_pos h1] at h
      cases hf : sFBO σ b (σ 9 n) with
      | none =>
        rw [hf] at h
        obtain ⟨⟨k, g1, g2, g3⟩, g4⟩ := sMNlo_so2 h
        refine ⟨⟨k, by omega, g2, g3⟩, fun j hj hi q hq => ?_⟩
        rcases Nat.lt_or_ge j n with q2 | q2
        · exact g4 j q2 hi q hq
        · have e2 : j = n := by omega
          rw [e2, hf] at hq; cases hq
      | some q0 =>
        cases hl : sMNlo σ b m c n with
        | none =>
          rw [hf, hl] at h
          cases h
          refine ⟨⟨n, Nat.lt_succ_self n, h1, hf⟩, fun j hj hi q hq => ?_⟩
          rcases Nat.lt_or_ge j n with q2 | q2
          · rw [sMNlo_no2 hl j q2 hi] at hq; cases hq
          · have e2 : j = n := by omega
            rw [e2, hf] at hq; cases hq; exact Nat.le_refl _
        | some l =>
          obtain ⟨⟨k, g1, g2, g3⟩, g4⟩ := sMNlo_so2 hl
          rw [hf, hl] at h
          by_cases h2 : q0 < l
          · simp only [if_pos h2] at h
            cases h
            refine ⟨⟨n, Nat.lt_succ_self n, h1, hf⟩, fun j hj hi q hq => ?_⟩
            rcases Nat.lt_or_ge j n with q2 | q2
            · have := g4 j q2 hi q hq; omega
            · have e2 : j = n := by omega
              rw [e2, hf] at hq; cases hq; exact Nat.le_refl _
          · simp only [if_neg h2] at h
            cases h
            refine ⟨⟨k, by omega, g2, g3⟩, fun j hj hi q hq => ?_⟩
            rcases Nat.lt_or_ge j n with q2 | q2
            · exact g4 j q2 hi q hq
            · have e2 : j = n := by omega
              rw [e2, hf] at hq; cases hq; omega
    · rw [if_neg h1] at h
      obtain ⟨⟨k, g1, g2, g3⟩, g4⟩ := sMNlo_so2 h
      refine ⟨⟨k, by omega, g2, g3⟩, fun j hj hi q hq => ?_⟩
      rcases Nat.lt_or_ge j n with q2 | q2
      · exact g4 j q2 hi q hq
      · have e2 : j = n := by omega
        rw [e2] at hi; exact absurd hi h1
theorem sMNlo_eq (σ : St) (b m c : Nat) : sMNlo σ b m c (σ 0 1) = sLM σ b m c := by
  unfold sLM
  cases h : sMNlo σ b m c (σ 0 1) with
  | none =>
    refine (fst_none_of fun p hp => Bool.eq_false_iff.mpr fun z => ?_).symm
    simp only [Bool.and_eq_true, decide_eq_true_eq] at z
    obtain ⟨k, hk⟩ := Option.isSome_iff_exists.mp z.2
    obtain ⟨h1, h2⟩ := sBNTo_lt hk
    simp only [sBNC, Bool.and_eq_true] at h2
    obtain ⟨e, he, -⟩ := sFBO_of hp z.1 ((sBro_c σ _ _).trans h2.2)
    rw [sMNlo_no2 h k h1 h2.1] at he
    cases he
  | some e =>
    obtain ⟨⟨k, g1, g2, g3⟩, g4⟩ := sMNlo_so2 h
    have g5 := fst_lt g3
    have g6 := g5.2.1
    simp only [Bool.and_eq_true, decide_eq_true_eq] at g6
    refine (fst_of g5.1 ?_ fun p hp => Bool.eq_false_iff.mpr fun z => ?_).symm
    · rw [decide_eq_true g6.1]
      cases hb : sBN σ e m c with
      | none =>
        have := sBNTo_none hb k g1
        rw [sBNC, g2, sBro_c, g6.2] at this
        cases this
      | some j => rfl
    · simp only [Bool.and_eq_true, decide_eq_true_eq] at z
      obtain ⟨j, hj⟩ := Option.isSome_iff_exists.mp z.2
      obtain ⟨h1, h2⟩ := sBNTo_lt hj
      simp only [sBNC, Bool.and_eq_true] at h2
      obtain ⟨e2, he2, hl2⟩ := sFBO_of (by omega) z.1 ((sBro_c σ _ _).trans h2.2)
      have := g4 j h1 h2.1 e2 he2
      omega
theorem sMeantN_eq (σ : St) (b m c : Nat) : sMeantN σ b m c = sMns σ b m c := by
  have e : fst (fun k => sIs σ k m c && decide (σ 3 (σ 9 k) = b)) (σ 0 1) = sNameOn σ b none m c := by
    unfold sNameOn
    exact fst_congr fun k _ => by rw [show decide (some (σ 9 k) ≠ none) = true from by simp, Bool.true_and, Bool.and_comm]
  unfold sMeantN sMns
  rw [e]
  cases h : sNameOn σ b none m c with
  | some k => rfl
  | none => exact sMNlo_eq σ b m c
theorem sGoC_eq {σ : St} {b m c : Nat} (hU : sUq σ) (hH : sHo σ) (hb : b < 4) (hmc : sCode m c = true) : sGoC σ b m c = sCallT σ b m c := by
  have hW : sCallW σ b m c = sMns σ b m c := (if_pos ⟨hb, hmc⟩).trans (sMns_eq hU hH).symm
  cases h : sNameOn σ b none m c with
  | some k =>
    obtain ⟨h1, h2, h3⟩ := sNO_s h
    have hw2 : sCallW σ b m c = some (σ 9 k) := hW.trans (sMns_y h)
    have hn : sNameOf σ (σ 9 k) m c = some k := by
      obtain ⟨j, hj⟩ := Option.isSome_iff_exists.mp (sNf_of h1 rfl h3)
      obtain ⟨g1, g2, g3⟩ := sNf_s hj
      rw [sIs_i] at g3 h3
      have e := hU j k g1 h1 g3.1 h3.1 (by omega) (by omega) (by rw [g2])
      rw [← e]; rw [← e] at hj; exact hj
    rw [sGoC_y h]
    unfold sCallT
    rw [if_neg (by rw [hw2]; exact fun z => nomatch z)]
    unfold sCall
    rw [hw2]
    simp only [hn]
  | none =>
    have hw2 : sCallW σ b m c = sLM σ b m c := hW.trans (sMns_n h)
    cases hl : sLM σ b m c with
    | none =>
      have e : sCall σ b m c = σ := by unfold sCall; rw [hw2, hl]
      rw [sGoC_0 h hl]
      unfold sCallT
      rw [if_pos (hw2.trans hl), e]
    | some p =>
      have g := (fst_lt hl).2.1
      simp only [Bool.and_eq_true, decide_eq_true_eq] at g
      have hn : sNameOf σ p m c = none := by
        cases hq : sNameOf σ p m c with
        | none => rfl
        | some j => obtain ⟨g1, g2, g3⟩ := sNf_s hq; exact (sNO_n h g1 (by rw [g2]; exact g.1) g3).elim
      have e : sCall σ b m c = sMix σ p (sFBN σ p m c) := by unfold sCall; rw [hw2, hl]; simp only [hn]
      unfold sGoC
      rw [h, hl]
      unfold sCallT
      rw [if_neg (by rw [hw2, hl]; exact fun z => nomatch z), e, sFBN_eq hH]

