/-! years beyond the last one, for a look ahead -/
def eIy (Y : Nat) (σ : St) (T : Nat) : Prop :=
  (σ 0 0 ≤ 12 ∧ σ 0 1 ≤ 40 ∧ σ 0 2 ≤ Y) ∧ (∀ i, 3 ≤ i → σ 0 i ≤ T) ∧ (∀ p, σ 1 p ≤ 99 + σ 0 2 ∧ σ 2 p < 6 ∧ σ 3 p < 4 ∧ σ 4 p ≤ T ∧ σ 5 p ≤ T) ∧
  (∀ k, σ 6 k ≤ 4 ∧ σ 7 k < 456976 ∧ σ 8 k < 12 ∧ σ 9 k < 12 ∧ σ 10 k ≤ T ∧ σ 11 k ≤ σ 0 2 ∧ σ 12 k ≤ 4 ∧ σ 13 k ≤ 1) ∧
  (∀ k, k < σ 0 1 → σ 9 k < σ 0 0 ∧ σ 8 k < σ 0 0 ∧ 1 ≤ σ 6 k ∧ σ 7 k < 26 ^ σ 6 k) ∧
  ((1 ≤ σ 14 0 ∧ 1 ≤ σ 14 1) ∧ ∀ j, σ 14 j ≤ 9) ∧ ∀ f j, 15 ≤ f → σ f j = 0
theorem eIy.ok {Y : Nat} {σ : St} {T : Nat} (h : eIy Y σ T) (hT : T < 2 ^ 30) (hY : Y ≤ 1100) : eOK σ := by
  obtain ⟨⟨a1, a2, a3⟩, b, c, d, e, ⟨⟨f1, f2⟩, f3⟩, g⟩ := h
  refine ⟨fun f i => ?_, a1, a2, fun k hk => ⟨(e k hk).1, (e k hk).2.1, (e k hk).2.2.1, (d k).1, (e k hk).2.2.2, (d k).2.2.2.2.2.2.1, (d k).2.2.2.2.2.2.2, (d k).2.2.2.2.2.1⟩, by omega, fun p _ => by have := (c p).1; omega, ⟨f1, f3 0⟩, ⟨f2, f3 1⟩, f3 2⟩
  have hc := c i
  have hd := d i
  rcases Nat.lt_or_ge f 15 with q | q
  · match f, q with
    | 0, _ =>
      rcases Nat.lt_or_ge i 3 with q2 | q2
      · match i, q2 with
        | 0, _ => omega
        | 1, _ => omega
        | 2, _ => omega
      · have := b i q2; omega
    | 1, _ => omega
    | 2, _ => omega
    | 3, _ => omega
    | 4, _ => omega
    | 5, _ => omega
    | 6, _ => omega
    | 7, _ => omega
    | 8, _ => omega
    | 9, _ => omega
    | 10, _ => omega
    | 11, _ => omega
    | 12, _ => omega
    | 13, _ => omega
    | 14, _ => have := f3 i; omega
  · rw [g f i q]; decide
theorem eIy.state {Y : Nat} {σ : St} {T k v : Nat} (h : eIy Y σ T) (hv : v ≤ 4) : eIy Y (su σ 12 k v) T := by
  obtain ⟨a, b, c, d, e, f, g⟩ := h
  refine ⟨a, b, c, fun j => ?_, e, f, fun f j hf => ?_⟩
  · have := d j
    by_cases z : j = k
    · subst z; simp [su]; omega
    · simp [su, z]; omega
  · simp [su, show f ≠ 12 by omega]; exact g f j hf
theorem eIy.addN {Y : Nat} {σ : St} {T gv p m c : Nat} (h : eIy Y σ T) (hg : gv < σ 0 0) (hp : p < σ 0 0) (hm : 1 ≤ m ∧ m ≤ 4) (hc : c < 26 ^ m) (hlt : σ 0 1 < 40) : eIy Y (sAddN σ gv p m c (σ 0 2)) T := by
  obtain ⟨⟨a1, a2, a3⟩, b1, c1, d, e, f1, g⟩ := h
  have hc4 : c < 456976 := Nat.lt_of_lt_of_le hc (Nat.pow_le_pow_right (by decide) hm.2)
  have n0 : sAddN σ gv p m c (σ 0 2) 0 0 = σ 0 0 := by simp [sAddN, su]
  have n1 : sAddN σ gv p m c (σ 0 2) 0 1 = σ 0 1 + 1 := by simp [sAddN, su]
  have n2 : sAddN σ gv p m c (σ 0 2) 0 2 = σ 0 2 := by simp [sAddN, su]
  refine ⟨by rw [n0, n1, n2]; omega, fun j hj => ?_, fun j => ?_, fun j => ?_, ?_, ?_, fun f j hf => ?_⟩
  · have := b1 j hj
    simp [sAddN, su, show j ≠ 1 by omega]; omega
  · rw [n2]; have := c1 j; simp [sAddN, su]; omega
  · rw [n2]
    have := d j
    by_cases z : j = σ 0 1
    · subst z; simp [sAddN, su]; omega
    · simp [sAddN, su, z]; omega
  · rw [n0, n1]; intro k hk
    by_cases z : k = σ 0 1
    · subst z; simp [sAddN, su]; omega
    · have := e k (by omega); simp [sAddN, su, z]; omega
  · simp [sAddN, su]; exact f1
  · have z1 : f ≠ 0 := by omega
    have z2 : f ≠ 6 := by omega
    have z3 : f ≠ 7 := by omega
    have z4 : f ≠ 8 := by omega
    have z5 : f ≠ 9 := by omega
    have z6 : f ≠ 10 := by omega
    have z7 : f ≠ 11 := by omega
    have z8 : f ≠ 12 := by omega
    have z9 : f ≠ 13 := by omega
    simp [sAddN, su, z1, z2, z3, z4, z5, z6, z7, z8, z9]; exact g f j hf
theorem eIy.older {Y : Nat} {σ : St} {T : Nat} (h : eIy Y σ T) (hy : σ 0 2 < Y) : eIy Y (sOlder σ) T := by
  obtain ⟨⟨a1, a2, a3⟩, b1, c1, d, e, f1, g⟩ := h
  have n2 : sOlder σ 0 2 = σ 0 2 + 1 := by simp [sOlder, sGrow, su]
  have n0 : sOlder σ 0 0 = σ 0 0 := by simp [sOlder, sGrow, su]
  have n1 : sOlder σ 0 1 = σ 0 1 := by simp [sOlder, sGrow, su]
  refine ⟨by rw [n0, n1, n2]; omega, fun j hj => ?_, fun j => ?_, fun j => ?_, ?_, ?_, fun f j hf => ?_⟩
  · have := b1 j hj
    simp [sOlder, sGrow, su, show j ≠ 2 by omega]; omega
  · rw [n2]
    have := c1 j
    by_cases z : j < σ 0 0
    · simp [sOlder, sGrow, su, z]; omega
    · simp [sOlder, sGrow, su, z]; omega
  · rw [n2]; have := d j; simp [sOlder, sGrow, su]; omega
  · rw [n0, n1]; intro k hk; have := e k hk; simp [sOlder, sGrow, su]; omega
  · simp [sOlder, sGrow, su]; exact f1
  · simp [sOlder, sGrow, su, show f ≠ 1 by omega, show f ≠ 0 by omega]; exact g f j hf
theorem eIy.outgrow {Y : Nat} {σ : St} {T k : Nat} (h : eIy Y σ T) (hk : k < σ 0 1) : eIy Y (sOutgrow σ k) T ∧ σ 0 1 ≤ sOutgrow σ k 0 1 ∧ sOutgrow σ k 0 2 = σ 0 2 ∧ sOutgrow σ k 0 0 = σ 0 0 := by
  unfold sOutgrow
  have e := h.2.2.2.2.1 k hk
  have d := h.2.2.2.1 k
  cases hq : sHeirOf σ k with
  | none => exact ⟨h.state (by decide), by simp [su], by simp [su], by simp [su]⟩
  | some q =>
    obtain ⟨h1, h2⟩ := sHeirOf_lt hq
    refine ⟨?_, by simp [sAddN, su], by simp [sAddN, su], by simp [sAddN, su]⟩
    have := (h.state (k := k) (v := 4) (by decide)).addN (gv := σ 9 k) (p := q) (m := σ 6 k) (c := σ 7 k) (by simp [su]; omega) (by simp [su]; omega) (by omega) (by omega) (by simp [su]; omega)
    simpa [su] using this
theorem eIy.endStep {Y : Nat} {σ : St} {T k : Nat} (h : eIy Y σ T) (hk : k < σ 0 1) : eIy Y (sEndStep σ k) T ∧ σ 0 1 ≤ sEndStep σ k 0 1 ∧ sEndStep σ k 0 2 = σ 0 2 ∧ sEndStep σ k 0 0 = σ 0 0 := by
  unfold sEndStep
  split
  · exact ⟨h, Nat.le_refl _, rfl, rfl⟩
  split
  · exact ⟨h.state (by decide), by simp [su], by simp [su], by simp [su]⟩
  split
  · exact h.outgrow hk
  · exact ⟨h, Nat.le_refl _, rfl, rfl⟩
theorem eIy.end_ {Y : Nat} {σ : St} {T : Nat} (h : eIy Y σ T) : ∀ {k : Nat}, k ≤ σ 0 1 → eIy Y (sEnd σ k) T ∧ σ 0 1 ≤ sEnd σ k 0 1 ∧ sEnd σ k 0 2 = σ 0 2 ∧ sEnd σ k 0 0 = σ 0 0
  | 0, _ => ⟨h, Nat.le_refl _, rfl, rfl⟩
  | k + 1, hk => by
    obtain ⟨h1, h2, h3, h4⟩ := h.end_ (k := k) (by omega)
    obtain ⟨g1, g2, g3, g4⟩ := h1.endStep (k := k) (by omega)
    rw [sEnd]
    exact ⟨g1, by omega, by omega, by omega⟩
theorem eIv.y {σ : St} {T : Nat} (h : eIv σ T) : eIy 1090 σ T := ⟨⟨h.1.1, h.1.2.1, Nat.le_trans h.1.2.2 (by decide)⟩, h.2⟩
/-- what years leave as it is -/
def sSm (σ τ : St) (c : Nat) : Prop := τ 0 0 = σ 0 0 ∧ τ 0 2 = σ 0 2 ∧ τ 1 = σ 1 ∧ τ 14 = σ 14 ∧ c ≤ τ 0 1 ∧ ∀ j, j < c → τ 6 j = σ 6 j ∧ τ 9 j = σ 9 j ∧ τ 11 j = σ 11 j
theorem sSm.trans {σ τ υ : St} {c : Nat} (h : sSm σ τ c) (k : sSm τ υ c) : sSm σ υ c := by
  obtain ⟨a1, a2, a3, a4, a5, a6⟩ := h
  obtain ⟨b1, b2, b3, b4, b5, b6⟩ := k
  exact ⟨b1.trans a1, b2.trans a2, b3.trans a3, b4.trans a4, b5, fun j hj => ⟨(b6 j hj).1.trans (a6 j hj).1, (b6 j hj).2.1.trans (a6 j hj).2.1, (b6 j hj).2.2.trans (a6 j hj).2.2⟩⟩
theorem sSm.rf {σ : St} {c : Nat} (h : c ≤ σ 0 1) : sSm σ σ c := ⟨rfl, rfl, rfl, rfl, h, fun _ _ => ⟨rfl, rfl, rfl⟩⟩
theorem sSm.state {σ : St} {c k v : Nat} (h : c ≤ σ 0 1) : sSm σ (su σ 12 k v) c := ⟨rfl, rfl, rfl, rfl, h, fun _ _ => ⟨rfl, rfl, rfl⟩⟩
theorem sSm.addN {σ : St} {c g p m d y : Nat} (h : c ≤ σ 0 1) : sSm σ (sAddN σ g p m d y) c := by
  refine ⟨rfl, rfl, rfl, rfl, by show c ≤ σ 0 1 + 1; omega, fun j hj => ?_⟩
  have e : j ≠ σ 0 1 := by omega
  simp [sAddN, su, e]
theorem sSm.outgrow {σ : St} {c k : Nat} (h : c ≤ σ 0 1) : sSm σ (sOutgrow σ k) c := by
  cases hq : sHeirOf σ k with
  | none => rw [sOutgrow_n hq]; exact sSm.state h
  | some q =>
    have e : sOutgrow σ k = sAddN (su σ 12 k 4) (σ 9 k) q (σ 6 k) (σ 7 k) (σ 0 2) := by unfold sOutgrow; rw [hq]
    rw [e]
    exact (sSm.state (k := k) (v := 4) h).trans (sSm.addN h)
theorem sSm.step {σ : St} {c k : Nat} (h : c ≤ σ 0 1) : sSm σ (sEndStep σ k) c := by
  unfold sEndStep
  split
  · exact sSm.rf h
  split
  · exact sSm.state h
  split
  · exact sSm.outgrow h
  · exact sSm.rf h
theorem sSm.end_ {σ : St} {c : Nat} (h : c ≤ σ 0 1) : ∀ n, sSm σ (sEnd σ n) c
  | 0 => sSm.rf h
  | n + 1 => by
    have k := sSm.end_ h n
    rw [sEnd]
    exact k.trans (sSm.step k.2.2.2.2.1)
theorem sEndStep_12 {τ : St} {j k : Nat} (hj : j ≠ k) (hk : k < τ 0 1) : sEndStep τ j 12 k = τ 12 k := by
  unfold sEndStep
  split
  · rfl
  split
  · rw [su_ne (by omega)]
  split
  · cases hq : sHeirOf τ j with
    | none => rw [sOutgrow_n hq, su_ne (by omega)]
    | some q =>
      have e : sOutgrow τ j = sAddN (su τ 12 j 4) (τ 9 j) q (τ 6 j) (τ 7 j) (τ 0 2) := by unfold sOutgrow; rw [hq]
      have e2 : k ≠ τ 0 1 := by omega
      rw [e]
      simp [sAddN, su, e2, Ne.symm hj]
  · rfl
theorem sEnd_lo {σ : St} {k : Nat} (hk : k < σ 0 1) : ∀ {n : Nat}, n ≤ k → sEnd σ n 12 k = σ 12 k
  | 0, _ => rfl
  | n + 1, hn => by
    have h := (sSm.end_ (σ := σ) (c := σ 0 1) (Nat.le_refl _) n).2.2.2.2.1
    rw [sEnd, sEndStep_12 (by omega) (by omega), sEnd_lo hk (by omega)]
theorem sEnd_hi {σ : St} {k : Nat} (hk : k < σ 0 1) : ∀ {d : Nat}, sEnd σ (k + 1 + d) 12 k = sEnd σ (k + 1) 12 k
  | 0 => rfl
  | d + 1 => by
    have h := (sSm.end_ (σ := σ) (c := σ 0 1) (Nat.le_refl _) (k + 1 + d)).2.2.2.2.1
    rw [← Nat.add_assoc, sEnd, sEndStep_12 (by omega) (by omega), sEnd_hi hk]
theorem sStep_alive {τ : St} {k : Nat} (hk : k < τ 0 1) : sAlive (sEndStep τ k) k = (sAlive τ k && (decide (¬ τ 14 1 ≤ τ 0 2 - τ 11 k) && decide (¬ 4 * τ 14 2 * τ 6 k < τ 1 (τ 9 k)))) := by
  cases ha : sAlive τ k with
  | false => rw [(sEnd_dead ha).1, ha]; rfl
  | true =>
    by_cases h1 : τ 14 1 ≤ τ 0 2 - τ 11 k
    · rw [(sEnd_forg ha h1).1, decide_eq_false (fun z => z h1)]
      simp [sAlive, su_same]
    · by_cases h2 : 4 * τ 14 2 * τ 6 k < τ 1 (τ 9 k)
      · rw [(sEnd_out ha (by omega) h2).1, sOutgrow_dead hk, decide_eq_false (p := ¬ 4 * τ 14 2 * τ 6 k < τ 1 (τ 9 k)) (fun z => z h2), Bool.and_false, Bool.and_false]
      · rw [(sEnd_stay ha (by omega) (by omega)).1, ha, decide_eq_true h1, decide_eq_true h2]; rfl
theorem sOlder_f (σ : St) : sOlder σ 14 = σ 14 ∧ sOlder σ 6 = σ 6 ∧ sOlder σ 9 = σ 9 ∧ sOlder σ 11 = σ 11 ∧ sOlder σ 12 = σ 12 ∧ ∀ p, p < σ 0 0 → sOlder σ 1 p = σ 1 p + 1 := by
  refine ⟨rfl, rfl, rfl, rfl, rfl, fun p hp => ?_⟩
  show (if 1 = 1 ∧ p < σ 0 0 then σ 1 p + 1 else σ 1 p) = _
  rw [if_pos ⟨rfl, hp⟩]
/-- a year's end -/
theorem sYr_alive {σ : St} {k : Nat} (hk : k < σ 0 1) (hH : σ 9 k < σ 0 0) : sAlive (sEnd (sOlder σ) (σ 0 1)) k = (sAlive σ k && (decide (¬ σ 14 1 ≤ σ 0 2 + 1 - σ 11 k) && decide (¬ 4 * σ 14 2 * σ 6 k < σ 1 (σ 9 k) + 1))) := by
  obtain ⟨z0, z1, z2⟩ := sOlder_n σ
  obtain ⟨f14, f6, f9, f11, f12, f1⟩ := sOlder_f σ
  have hk' : k < sOlder σ 0 1 := by omega
  obtain ⟨a1, a2, a3, a4, a5, a6⟩ := sSm.end_ (σ := sOlder σ) (c := sOlder σ 0 1) (Nat.le_refl _) k
  have e1 : sAlive (sEnd (sOlder σ) (σ 0 1)) k = sAlive (sEndStep (sEnd (sOlder σ) k) k) k := by
    unfold sAlive
    have := sEnd_hi hk' (d := σ 0 1 - (k + 1))
    rw [show k + 1 + (σ 0 1 - (k + 1)) = σ 0 1 by omega] at this
    rw [this, sEnd]
  have e2 : sAlive (sEnd (sOlder σ) k) k = sAlive σ k := by
    unfold sAlive
    rw [sEnd_lo hk' (Nat.le_refl k), f12]
  rw [e1, sStep_alive (by omega), e2, a4, a2, a3, (a6 k hk').1, (a6 k hk').2.1, (a6 k hk').2.2, f14, f6, f9, f11, z2, f1 _ hH]
theorem sYears_sm {σ : St} : ∀ i, sYears σ i 0 0 = σ 0 0 ∧ sYears σ i 0 2 = σ 0 2 + i ∧ sYears σ i 14 = σ 14 ∧ σ 0 1 ≤ sYears σ i 0 1 ∧ (∀ p, p < σ 0 0 → sYears σ i 1 p = σ 1 p + i) ∧ ∀ j, j < σ 0 1 → sYears σ i 6 j = σ 6 j ∧ sYears σ i 9 j = σ 9 j ∧ sYears σ i 11 j = σ 11 j
  | 0 => ⟨rfl, rfl, rfl, Nat.le_refl _, fun _ _ => rfl, fun _ _ => ⟨rfl, rfl, rfl⟩⟩
  | i + 1 => by
    obtain ⟨b0, b2, b14, b1, bp, bj⟩ := sYears_sm (σ := σ) i
    obtain ⟨z0, z1, z2⟩ := sOlder_n (sYears σ i)
    obtain ⟨f14, f6, f9, f11, f12, f1⟩ := sOlder_f (sYears σ i)
    obtain ⟨a1, a2, a3, a4, a5, a6⟩ := sSm.end_ (σ := sOlder (sYears σ i)) (c := sOlder (sYears σ i) 0 1) (Nat.le_refl _) (sYears σ i 0 1)
    rw [sYears]
    refine ⟨by omega, by omega, by rw [a4, f14, b14], by omega, fun p hp => ?_, fun j hj => ?_⟩
    · rw [a3, f1 p (by omega), bp p hp]; omega
    · have hj2 : j < sOlder (sYears σ i) 0 1 := by omega
      rw [(a6 j hj2).1, (a6 j hj2).2.1, (a6 j hj2).2.2, f6, f9, f11]
      exact bj j hj
theorem sYears_al {σ : St} {k : Nat} (hk : k < σ 0 1) (hH : σ 9 k < σ 0 0) : ∀ i, sAlive (sYears σ i) k = true ↔ sAlive σ k = true ∧ (i = 0 ∨ (σ 0 2 + i - σ 11 k < σ 14 1 ∧ σ 1 (σ 9 k) + i ≤ 4 * σ 14 2 * σ 6 k))
  | 0 => ⟨fun h => ⟨h, Or.inl rfl⟩, fun h => h.1⟩
  | i + 1 => by
    obtain ⟨b0, b2, b14, b1, bp, bj⟩ := sYears_sm (σ := σ) i
    obtain ⟨c6, c9, c11⟩ := bj k hk
    have h1 := sYr_alive (σ := sYears σ i) (k := k) (by omega) (by rw [c9, b0]; exact hH)
    rw [b14, b2, c11, c6, c9, bp _ hH] at h1
    rw [sYears, h1, Bool.and_eq_true, Bool.and_eq_true, decide_eq_true_eq, decide_eq_true_eq, sYears_al hk hH i]
    constructor
    · rintro ⟨⟨h2, h3⟩, h4, h5⟩
      exact ⟨h2, Or.inr ⟨by omega, by omega⟩⟩
    · rintro ⟨h2, h3⟩
      exact ⟨⟨h2, by omega⟩, by omega, by omega⟩
theorem sLeft_al {σ : St} {k : Nat} (hk : k < σ 0 1) (hH : σ 9 k < σ 0 0) (hl : σ 11 k ≤ σ 0 2) (i : Nat) : sAlive (sYears σ i) k = true ↔ i < sLeft σ k := by
  rw [sYears_al hk hH i]
  unfold sLeft
  by_cases ha : sAlive σ k = true
  · rw [if_pos ha]
    obtain ⟨D, hD⟩ : ∃ D, D = 4 * σ 14 2 * σ 6 k := ⟨_, rfl⟩
    rw [← hD]
    constructor
    · rintro ⟨-, h⟩; omega
    · intro h; exact ⟨ha, by omega⟩
  · rw [if_neg ha]
    exact ⟨fun h => absurd h.1 ha, fun h => absurd h (Nat.not_lt_zero i)⟩
theorem sLeft_9 {σ : St} {k : Nat} (h : σ 14 1 ≤ 9) : sLeft σ k ≤ 9 := by
  unfold sLeft
  split
  · omega
  · omega
theorem eIy.years {σ : St} {T : Nat} (h : eIy 1090 σ T) (h9 : σ 0 2 ≤ 999) : ∀ {i : Nat}, i ≤ 50 → eIy 1090 (sYears σ i) T
  | 0, _ => h
  | i + 1, hi => by
    have e := h.years h9 (i := i) (by omega)
    have b2 := (sYears_sm (σ := σ) i).2.1
    obtain ⟨z0, z1, z2⟩ := sOlder_n (sYears σ i)
    rw [sYears]
    exact ((e.older (by omega)).end_ (k := sYears σ i 0 1) (by omega)).1
theorem eIy.goE {σ : St} {T : Nat} (h : eIy 1090 σ T) (hT : T < 2 ^ 30) (hy : σ 0 2 < 1090) : ∀ k, k ≤ σ 0 1 → eOK (sEnd (sOlder σ) k) ∧ σ 0 1 ≤ sEnd (sOlder σ) k 0 1 := fun k hk => by
  obtain ⟨z1, z2, z3⟩ := sOlder_n σ
  obtain ⟨g1, g2, g3, g4⟩ := (h.older hy).end_ (k := k) (by omega)
  exact ⟨g1.ok hT (by decide), by omega⟩
set_option maxHeartbeats 4000000 in
set_option maxRecDepth 20000 in
theorem c_X11_endsIn {h : eH} {n m bad ℓ c k T : Nat} {σ : St} {x : Nat → Nat} {τ τs : Nat → St} {us : Nat → Nat} (hO : eMo h m bad σ x ℓ c τ us τs) (hI : eIv σ T) (hT30 : T < 2 ^ 30) (hk : k < σ 0 1) : kX11_endsIn [.ref m, .int (nI k)] h n (.inl (some (.int (nI (sLeft σ k)))), (fun g' => eMo g' m 0 σ x ℓ c τ us τs ∧ eFr h g' m (m + 9)), some n) 0 0 := by
  refine eM.of RX11 "endsIn" [(0, .ref m), (1, .int (nI k))] pn_X11 rfl rfl (Nat.le_of_ble_eq_true rfl) rfl ?_
  obtain ⟨⟨ap, gd, lo, lr, hM⟩, hN, ⟨ρ, hT⟩, ⟨υ, hR⟩, hBk, hKp, ⟨hU, hu⟩, ⟨H, hH⟩, hX, hx⟩ := id hO
  have FR : eFr h h m (m + 9) := eFr.rf
  have hK := hI.ok hT30
  have hB := hK.1
  have h12 := hK.2.1
  have h40 := hK.2.2.1
  have h9 := hI.1.2.2
  have hkk := hK.2.2.2.1 k hk
  have hl9 := sLeft_9 (k := k) hK.2.2.2.2.2.2.2.1.2
  refine ev_aload_n dX11_endsIn_0 rfl rfl ?_
  refine ev_aload_n dX11_endsIn_1 rfl rfl ?_
  refine ev_getfield dX11_endsIn_2 fl_X11_7 (by first | assumption | omega | exact ePp.ob (by assumption) | exact eNm.ob (by assumption) | exact eRg.ob (by assumption) | exact eTx.ob (by assumption) | exact ePa.ob (by assumption) | exact eMB.ob (by assumption)) rfl ?_
  refine ev_iload_n dX11_endsIn_5 rfl rfl ?_
  refine ev_callSi dX11_endsIn_6 (c_X11_isName hN hB) lk_X11_238 ⟨Nat.le_of_ble_eq_true rfl, Nat.le_of_ble_eq_true rfl⟩ rfl (Nat.le_of_ble_eq_true rfl) ⟨by first | exact Nat.le_of_ble_eq_true rfl | omega, by first | exact Nat.le_of_ble_eq_true rfl | omega⟩ (eRo ?_)
  rw [zdec (by omega)]
  first | ((with_reducible show eV _ _ _ (Value.int (bI _) :: _) _ _ _ _); refine ev_if_eqB (tgt := 16) dX11_endsIn_9 (by decide) (fun c_9 => ?_) (fun c_9 => ?_)) | ((with_reducible show eV _ _ _ (Value.int (nI _) :: _) _ _ _ _); refine ev_if_eqN (tgt := 16) dX11_endsIn_9 (by decide) (by first | exact hB _ _ | omega) (fun c_9 => ?_) (fun c_9 => ?_)) | (refine ev_if_eqZ (tgt := 16) dX11_endsIn_9 (by decide) (fun c_9 => ?_) (fun c_9 => ?_))
  · exact absurd hk (of_decide_eq_false c_9)
  · refine ev_iconst (v := nI 0) dX11_endsIn_12 rfl ?_
    refine ev_goto (tgt := 17) dX11_endsIn_13 (by decide) ?_
    refine ev_callVi dX11_endsIn_17 (c_X11_refused (w := 0) hM (by decide)) rfl lk_X11_120 (by first | assumption | omega | exact ePp.ob (by assumption) | exact eNm.ob (by assumption) | exact eRg.ob (by assumption) | exact eTx.ob (by assumption) | exact ePa.ob (by assumption) | exact eMB.ob (by assumption)) ⟨Nat.le_of_ble_eq_true rfl, Nat.le_of_ble_eq_true rfl⟩ rfl (Nat.le_of_ble_eq_true rfl) ⟨by first | exact Nat.le_of_ble_eq_true rfl | omega, by first | exact Nat.le_of_ble_eq_true rfl | omega⟩ (fun g_17 hg_17 => ?_)
    obtain ⟨w_17, fr_17⟩ := hg_17
    replace hM := w_17
    first | replace hN := eRow.fr hN (fr_17 _ (by omega)) | replace hN := eMB.fr hN (fr_17 _ (by omega)) | replace hN := eArr.fr hN (fr_17 _ (by omega)) | replace hN := Eq.trans (fr_17 _ (by omega)) hN | replace hN := eBo.fr hN (fr_17 _ (by omega)) | replace hN := ePp.fr1 hN (fun a _ _ => fr_17 a (by omega)) | replace hN := eNm.fr1 hN (fun a _ _ => fr_17 a (by omega)) | replace hN := eRg.fr hN (fun a _ _ => fr_17 a (by omega)) | replace hN := eTx.fr hN (fun a _ _ => fr_17 a (by omega)) | replace hN := ePa.fr hN (fun a _ _ => fr_17 a (by omega)) | replace hN := eRf.fr hN (fr_17 _ (by omega)) | replace hN := eSl.fr hN (fun a _ _ => fr_17 a (by omega)) | replace hN := eSe.fr hN (fun a _ _ => fr_17 a (by omega)) | replace hN := z_17 hN | replace hN := z_17
    first | replace hT := eRow.fr hT (fr_17 _ (by omega)) | replace hT := eMB.fr hT (fr_17 _ (by omega)) | replace hT := eArr.fr hT (fr_17 _ (by omega)) | replace hT := Eq.trans (fr_17 _ (by omega)) hT | replace hT := eBo.fr hT (fr_17 _ (by omega)) | replace hT := ePp.fr1 hT (fun a _ _ => fr_17 a (by omega)) | replace hT := eNm.fr1 hT (fun a _ _ => fr_17 a (by omega)) | replace hT := eRg.fr hT (fun a _ _ => fr_17 a (by omega)) | replace hT := eTx.fr hT (fun a _ _ => fr_17 a (by omega)) | replace hT := ePa.fr hT (fun a _ _ => fr_17 a (by omega)) | replace hT := eRf.fr hT (fr_17 _ (by omega)) | replace hT := eSl.fr hT (fun a _ _ => fr_17 a (by omega)) | replace hT := eSe.fr hT (fun a _ _ => fr_17 a (by omega)) | replace hT := z_17 hT | replace hT := z_17
    first | replace hR := eRow.fr hR (fr_17 _ (by omega)) | replace hR := eMB.fr hR (fr_17 _ (by omega)) | replace hR := eArr.fr hR (fr_17 _ (by omega)) | replace hR := Eq.trans (fr_17 _ (by omega)) hR | replace hR := eBo.fr hR (fr_17 _ (by omega)) | replace hR := ePp.fr1 hR (fun a _ _ => fr_17 a (by omega)) | replace hR := eNm.fr1 hR (fun a _ _ => fr_17 a (by omega)) | replace hR := eRg.fr hR (fun a _ _ => fr_17 a (by omega)) | replace hR := eTx.fr hR (fun a _ _ => fr_17 a (by omega)) | replace hR := ePa.fr hR (fun a _ _ => fr_17 a (by omega)) | replace hR := eRf.fr hR (fr_17 _ (by omega)) | replace hR := eSl.fr hR (fun a _ _ => fr_17 a (by omega)) | replace hR := eSe.fr hR (fun a _ _ => fr_17 a (by omega)) | replace hR := z_17 hR | replace hR := z_17
    first | replace hBk := eRow.fr hBk (fr_17 _ (by omega)) | replace hBk := eMB.fr hBk (fr_17 _ (by omega)) | replace hBk := eArr.fr hBk (fr_17 _ (by omega)) | replace hBk := Eq.trans (fr_17 _ (by omega)) hBk | replace hBk := eBo.fr hBk (fr_17 _ (by omega)) | replace hBk := ePp.fr1 hBk (fun a _ _ => fr_17 a (by omega)) | replace hBk := eNm.fr1 hBk (fun a _ _ => fr_17 a (by omega)) | replace hBk := eRg.fr hBk (fun a _ _ => fr_17 a (by omega)) | replace hBk := eTx.fr hBk (fun a _ _ => fr_17 a (by omega)) | replace hBk := ePa.fr hBk (fun a _ _ => fr_17 a (by omega)) | replace hBk := eRf.fr hBk (fr_17 _ (by omega)) | replace hBk := eSl.fr hBk (fun a _ _ => fr_17 a (by omega)) | replace hBk := eSe.fr hBk (fun a _ _ => fr_17 a (by omega)) | replace hBk := z_17 hBk | replace hBk := z_17
    first | replace hKp := eRow.fr hKp (fr_17 _ (by omega)) | replace hKp := eMB.fr hKp (fr_17 _ (by omega)) | replace hKp := eArr.fr hKp (fr_17 _ (by omega)) | replace hKp := Eq.trans (fr_17 _ (by omega)) hKp | replace hKp := eBo.fr hKp (fr_17 _ (by omega)) | replace hKp := ePp.fr1 hKp (fun a _ _ => fr_17 a (by omega)) | replace hKp := eNm.fr1 hKp (fun a _ _ => fr_17 a (by omega)) | replace hKp := eRg.fr hKp (fun a _ _ => fr_17 a (by omega)) | replace hKp := eTx.fr hKp (fun a _ _ => fr_17 a (by omega)) | replace hKp := ePa.fr hKp (fun a _ _ => fr_17 a (by omega)) | replace hKp := eRf.fr hKp (fr_17 _ (by omega)) | replace hKp := eSl.fr hKp (fun a _ _ => fr_17 a (by omega)) | replace hKp := eSe.fr hKp (fun a _ _ => fr_17 a (by omega)) | replace hKp := z_17 hKp | replace hKp := z_17
    first | replace hU := eRow.fr hU (fr_17 _ (by omega)) | replace hU := eMB.fr hU (fr_17 _ (by omega)) | replace hU := eArr.fr hU (fr_17 _ (by omega)) | replace hU := Eq.trans (fr_17 _ (by omega)) hU | replace hU := eBo.fr hU (fr_17 _ (by omega)) | replace hU := ePp.fr1 hU (fun a _ _ => fr_17 a (by omega)) | replace hU := eNm.fr1 hU (fun a _ _ => fr_17 a (by omega)) | replace hU := eRg.fr hU (fun a _ _ => fr_17 a (by omega)) | replace hU := eTx.fr hU (fun a _ _ => fr_17 a (by omega)) | replace hU := ePa.fr hU (fun a _ _ => fr_17 a (by omega)) | replace hU := eRf.fr hU (fr_17 _ (by omega)) | replace hU := eSl.fr hU (fun a _ _ => fr_17 a (by omega)) | replace hU := eSe.fr hU (fun a _ _ => fr_17 a (by omega)) | replace hU := z_17 hU | replace hU := z_17
    first | replace hH := eRow.fr hH (fr_17 _ (by omega)) | replace hH := eMB.fr hH (fr_17 _ (by omega)) | replace hH := eArr.fr hH (fr_17 _ (by omega)) | replace hH := Eq.trans (fr_17 _ (by omega)) hH | replace hH := eBo.fr hH (fr_17 _ (by omega)) | replace hH := ePp.fr1 hH (fun a _ _ => fr_17 a (by omega)) | replace hH := eNm.fr1 hH (fun a _ _ => fr_17 a (by omega)) | replace hH := eRg.fr hH (fun a _ _ => fr_17 a (by omega)) | replace hH := eTx.fr hH (fun a _ _ => fr_17 a (by omega)) | replace hH := ePa.fr hH (fun a _ _ => fr_17 a (by omega)) | replace hH := eRf.fr hH (fr_17 _ (by omega)) | replace hH := eSl.fr hH (fun a _ _ => fr_17 a (by omega)) | replace hH := eSe.fr hH (fun a _ _ => fr_17 a (by omega)) | replace hH := z_17 hH | replace hH := z_17
    first | replace hX := eRow.fr hX (fr_17 _ (by omega)) | replace hX := eMB.fr hX (fr_17 _ (by omega)) | replace hX := eArr.fr hX (fr_17 _ (by omega)) | replace hX := Eq.trans (fr_17 _ (by omega)) hX | replace hX := eBo.fr hX (fr_17 _ (by omega)) | replace hX := ePp.fr1 hX (fun a _ _ => fr_17 a (by omega)) | replace hX := eNm.fr1 hX (fun a _ _ => fr_17 a (by omega)) | replace hX := eRg.fr hX (fun a _ _ => fr_17 a (by omega)) | replace hX := eTx.fr hX (fun a _ _ => fr_17 a (by omega)) | replace hX := ePa.fr hX (fun a _ _ => fr_17 a (by omega)) | replace hX := eRf.fr hX (fr_17 _ (by omega)) | replace hX := eSl.fr hX (fun a _ _ => fr_17 a (by omega)) | replace hX := eSe.fr hX (fun a _ _ => fr_17 a (by omega)) | replace hX := z_17 hX | replace hX := z_17
    first | replace FR := eFr.trans FR (eFr.one fr_17 (by omega) (by omega)) | replace FR := eFr.trans FR (eFr.wide fr_17 (by omega) (by omega)) | replace FR := eF2.a FR fr_17 | replace FR := eF2.b FR fr_17 | replace FR := eF2.c FR fr_17 | replace FR := eF2.t FR fr_17
    first | ((with_reducible show eV _ _ _ (Value.int (bI _) :: _) _ _ _ _); refine ev_if_eqB (tgt := 25) dX11_endsIn_20 (by decide) (fun c_20 => ?_) (fun c_20 => ?_)) | ((with_reducible show eV _ _ _ (Value.int (nI _) :: _) _ _ _ _); refine ev_if_eqN (tgt := 25) dX11_endsIn_20 (by decide) (by first | exact hB _ _ | omega) (fun c_20 => ?_) (fun c_20 => ?_)) | (refine ev_if_eqZ (tgt := 25) dX11_endsIn_20 (by decide) (fun c_20 => ?_) (fun c_20 => ?_))
    · refine ev_aload_n dX11_endsIn_25 rfl rfl ?_
      refine ev_getfield dX11_endsIn_26 fl_X11_7 (by first | assumption | omega | exact ePp.ob (by assumption) | exact eNm.ob (by assumption) | exact eRg.ob (by assumption) | exact eTx.ob (by assumption) | exact ePa.ob (by assumption) | exact eMB.ob (by assumption)) rfl ?_
      refine ev_aload_n dX11_endsIn_29 rfl rfl ?_
      refine ev_getfield dX11_endsIn_30 fl_X11_13 (by first | assumption | omega | exact ePp.ob (by assumption) | exact eNm.ob (by assumption) | exact eRg.ob (by assumption) | exact eTx.ob (by assumption) | exact ePa.ob (by assumption) | exact eMB.ob (by assumption)) rfl ?_
      refine ev_callSv dX11_endsIn_33 (c_X11_copy hN hT (by omega)) lk_X11_217 ⟨Nat.le_of_ble_eq_true rfl, Nat.le_of_ble_eq_true rfl⟩ rfl (Nat.le_of_ble_eq_true rfl) ⟨by first | exact Nat.le_of_ble_eq_true rfl | omega, by first | exact Nat.le_of_ble_eq_true rfl | omega⟩ (fun g_33 hg_33 => ?_)
      obtain ⟨w_33, fr_33⟩ := hg_33
      first | replace hM := eRow.fr hM (fr_33 _ (by omega)) | replace hM := eMB.fr hM (fr_33 _ (by omega)) | replace hM := eArr.fr hM (fr_33 _ (by omega)) | replace hM := Eq.trans (fr_33 _ (by omega)) hM | replace hM := eBo.fr hM (fr_33 _ (by omega)) | replace hM := ePp.fr1 hM (fun a _ _ => fr_33 a (by omega)) | replace hM := eNm.fr1 hM (fun a _ _ => fr_33 a (by omega)) | replace hM := eRg.fr hM (fun a _ _ => fr_33 a (by omega)) | replace hM := eTx.fr hM (fun a _ _ => fr_33 a (by omega)) | replace hM := ePa.fr hM (fun a _ _ => fr_33 a (by omega)) | replace hM := eRf.fr hM (fr_33 _ (by omega)) | replace hM := eSl.fr hM (fun a _ _ => fr_33 a (by omega)) | replace hM := eSe.fr hM (fun a _ _ => fr_33 a (by omega)) | replace hM := z_33 hM | replace hM := z_33
      first | replace hN := eRow.fr hN (fr_33 _ (by omega)) | replace hN := eMB.fr hN (fr_33 _ (by omega)) | replace hN := eArr.fr hN (fr_33 _ (by omega)) | replace hN := Eq.trans (fr_33 _ (by omega)) hN | replace hN := eBo.fr hN (fr_33 _ (by omega)) | replace hN := ePp.fr1 hN (fun a _ _ => fr_33 a (by omega)) | replace hN := eNm.fr1 hN (fun a _ _ => fr_33 a (by omega)) | replace hN := eRg.fr hN (fun a _ _ => fr_33 a (by omega)) | replace hN := eTx.fr hN (fun a _ _ => fr_33 a (by omega)) | replace hN := ePa.fr hN (fun a _ _ => fr_33 a (by omega)) | replace hN := eRf.fr hN (fr_33 _ (by omega)) | replace hN := eSl.fr hN (fun a _ _ => fr_33 a (by omega)) | replace hN := eSe.fr hN (fun a _ _ => fr_33 a (by omega)) | replace hN := z_33 hN | replace hN := z_33
      replace hT := w_33
      first | replace hR := eRow.fr hR (fr_33 _ (by omega)) | replace hR := eMB.fr hR (fr_33 _ (by omega)) | replace hR := eArr.fr hR (fr_33 _ (by omega)) | replace hR := Eq.trans (fr_33 _ (by omega)) hR | replace hR := eBo.fr hR (fr_33 _ (by omega)) | replace hR := ePp.fr1 hR (fun a _ _ => fr_33 a (by omega)) | replace hR := eNm.fr1 hR (fun a _ _ => fr_33 a (by omega)) | replace hR := eRg.fr hR (fun a _ _ => fr_33 a (by omega)) | replace hR := eTx.fr hR (fun a _ _ => fr_33 a (by omega)) | replace hR := ePa.fr hR (fun a _ _ => fr_33 a (by omega)) | replace hR := eRf.fr hR (fr_33 _ (by omega)) | replace hR := eSl.fr hR (fun a _ _ => fr_33 a (by omega)) | replace hR := eSe.fr hR (fun a _ _ => fr_33 a (by omega)) | replace hR := z_33 hR | replace hR := z_33
      first | replace hBk := eRow.fr hBk (fr_33 _ (by omega)) | replace hBk := eMB.fr hBk (fr_33 _ (by omega)) | replace hBk := eArr.fr hBk (fr_33 _ (by omega)) | replace hBk := Eq.trans (fr_33 _ (by omega)) hBk | replace hBk := eBo.fr hBk (fr_33 _ (by omega)) | replace hBk := ePp.fr1 hBk (fun a _ _ => fr_33 a (by omega)) | replace hBk := eNm.fr1 hBk (fun a _ _ => fr_33 a (by omega)) | replace hBk := eRg.fr hBk (fun a _ _ => fr_33 a (by omega)) | replace hBk := eTx.fr hBk (fun a _ _ => fr_33 a (by omega)) | replace hBk := ePa.fr hBk (fun a _ _ => fr_33 a (by omega)) | replace hBk := eRf.fr hBk (fr_33 _ (by omega)) | replace hBk := eSl.fr hBk (fun a _ _ => fr_33 a (by omega)) | replace hBk := eSe.fr hBk (fun a _ _ => fr_33 a (by omega)) | replace hBk := z_33 hBk | replace hBk := z_33
      first | replace hKp := eRow.fr hKp (fr_33 _ (by omega)) | replace hKp := eMB.fr hKp (fr_33 _ (by omega)) | replace hKp := eArr.fr hKp (fr_33 _ (by omega)) | replace hKp := Eq.trans (fr_33 _ (by omega)) hKp | replace hKp := eBo.fr hKp (fr_33 _ (by omega)) | replace hKp := ePp.fr1 hKp (fun a _ _ => fr_33 a (by omega)) | replace hKp := eNm.fr1 hKp (fun a _ _ => fr_33 a (by omega)) | replace hKp := eRg.fr hKp (fun a _ _ => fr_33 a (by omega)) | replace hKp := eTx.fr hKp (fun a _ _ => fr_33 a (by omega)) | replace hKp := ePa.fr hKp (fun a _ _ => fr_33 a (by omega)) | replace hKp := eRf.fr hKp (fr_33 _ (by omega)) | replace hKp := eSl.fr hKp (fun a _ _ => fr_33 a (by omega)) | replace hKp := eSe.fr hKp (fun a _ _ => fr_33 a (by omega)) | replace hKp := z_33 hKp | replace hKp := z_33
      first | replace hU := eRow.fr hU (fr_33 _ (by omega)) | replace hU := eMB.fr hU (fr_33 _ (by omega)) | replace hU := eArr.fr hU (fr_33 _ (by omega)) | replace hU := Eq.trans (fr_33 _ (by omega)) hU | replace hU := eBo.fr hU (fr_33 _ (by omega)) | replace hU := ePp.fr1 hU (fun a _ _ => fr_33 a (by omega)) | replace hU := eNm.fr1 hU (fun a _ _ => fr_33 a (by omega)) | replace hU := eRg.fr hU (fun a _ _ => fr_33 a (by omega)) | replace hU := eTx.fr hU (fun a _ _ => fr_33 a (by omega)) | replace hU := ePa.fr hU (fun a _ _ => fr_33 a (by omega)) | replace hU := eRf.fr hU (fr_33 _ (by omega)) | replace hU := eSl.fr hU (fun a _ _ => fr_33 a (by omega)) | replace hU := eSe.fr hU (fun a _ _ => fr_33 a (by omega)) | replace hU := z_33 hU | replace hU := z_33
      first | replace hH := eRow.fr hH (fr_33 _ (by omega)) | replace hH := eMB.fr hH (fr_33 _ (by omega)) | replace hH := eArr.fr hH (fr_33 _ (by omega)) | replace hH := Eq.trans (fr_33 _ (by omega)) hH | replace hH := eBo.fr hH (fr_33 _ (by omega)) | replace hH := ePp.fr1 hH (fun a _ _ => fr_33 a (by omega)) | replace hH := eNm.fr1 hH (fun a _ _ => fr_33 a (by omega)) | replace hH := eRg.fr hH (fun a _ _ => fr_33 a (by omega)) | replace hH := eTx.fr hH (fun a _ _ => fr_33 a (by omega)) | replace hH := ePa.fr hH (fun a _ _ => fr_33 a (by omega)) | replace hH := eRf.fr hH (fr_33 _ (by omega)) | replace hH := eSl.fr hH (fun a _ _ => fr_33 a (by omega)) | replace hH := eSe.fr hH (fun a _ _ => fr_33 a (by omega)) | replace hH := z_33 hH | replace hH := z_33
      first | replace hX := eRow.fr hX (fr_33 _ (by omega)) | replace hX := eMB.fr hX (fr_33 _ (by omega)) | replace hX := eArr.fr hX (fr_33 _ (by omega)) | replace hX := Eq.trans (fr_33 _ (by omega)) hX | replace hX := eBo.fr hX (fr_33 _ (by omega)) | replace hX := ePp.fr1 hX (fun a _ _ => fr_33 a (by omega)) | replace hX := eNm.fr1 hX (fun a _ _ => fr_33 a (by omega)) | replace hX := eRg.fr hX (fun a _ _ => fr_33 a (by omega)) | replace hX := eTx.fr hX (fun a _ _ => fr_33 a (by omega)) | replace hX := ePa.fr hX (fun a _ _ => fr_33 a (by omega)) | replace hX := eRf.fr hX (fr_33 _ (by omega)) | replace hX := eSl.fr hX (fun a _ _ => fr_33 a (by omega)) | replace hX := eSe.fr hX (fun a _ _ => fr_33 a (by omega)) | replace hX := z_33 hX | replace hX := z_33
      first | replace FR := eFr.trans FR (eFr.one fr_33 (by omega) (by omega)) | replace FR := eFr.trans FR (eFr.wide fr_33 (by omega) (by omega)) | replace FR := eF2.a FR fr_33 | replace FR := eF2.b FR fr_33 | replace FR := eF2.c FR fr_33 | replace FR := eF2.t FR fr_33
      refine ev_iconst (v := nI 0) dX11_endsIn_36 rfl ?_
      refine ev_istore_n dX11_endsIn_37 rfl (Nat.le_of_ble_eq_true rfl) ?_
      have H_38 : ∀ (d_38 : Nat) (i : Nat) (g : eH), d_38 = 50 - i → (i ≤ sLeft σ k) → (eMB g m 0 c ℓ ap gd lo lr) → (eRow g (m + 2) (sYears σ i)) → (eFr g_33 g (m + 2) (m + 3)) → eV mX11_endsIn 38 [(0, .ref m), (1, .int (nI k)), (2, .int (nI i))] [] (g, n, 0, 0) (.inl (some (.int (nI (sLeft σ k)))), (fun g' => eMo g' m 0 σ x ℓ c τ us τs ∧ eFr h g' m (m + 9)), some n) 0 0 := by
        intro d_38
        induction d_38 using Nat.strongRecOn with
        | _ d_38 ih_38 =>
        intro i g hd_38 hi hM hT F2
        have hJ := hI.y.years h9 (i := i) (by omega)
        have hJK := hJ.ok hT30 (by decide)
        have hb2 := (sYears_sm (σ := σ) i).2.1
        refine ev_aload_n dX11_endsIn_38 rfl rfl ?_
        refine ev_getfield dX11_endsIn_39 fl_X11_13 (by first | assumption | omega | exact ePp.ob (by assumption) | exact eNm.ob (by assumption) | exact eRg.ob (by assumption) | exact eTx.ob (by assumption) | exact ePa.ob (by assumption) | exact eMB.ob (by assumption)) rfl ?_
        refine ev_iload_n dX11_endsIn_42 rfl rfl ?_
        refine ev_callSi dX11_endsIn_43 (c_X11_isAlive hT hJK.1 (by omega)) lk_X11_64 ⟨Nat.le_of_ble_eq_true rfl, Nat.le_of_ble_eq_true rfl⟩ rfl (Nat.le_of_ble_eq_true rfl) ⟨by first | exact Nat.le_of_ble_eq_true rfl | omega, by first | exact Nat.le_of_ble_eq_true rfl | omega⟩ (eRo ?_)
        first | ((with_reducible show eV _ _ _ (Value.int (bI _) :: _) _ _ _ _); refine ev_if_eqB (tgt := 63) dX11_endsIn_46 (by decide) (fun c_46 => ?_) (fun c_46 => ?_)) | ((with_reducible show eV _ _ _ (Value.int (nI _) :: _) _ _ _ _); refine ev_if_eqN (tgt := 63) dX11_endsIn_46 (by decide) (by first | exact hB _ _ | omega) (fun c_46 => ?_) (fun c_46 => ?_)) | (refine ev_if_eqZ (tgt := 63) dX11_endsIn_46 (by decide) (fun c_46 => ?_) (fun c_46 => ?_))
        · refine ev_iload_n dX11_endsIn_63 rfl rfl ?_
          exact ev_iret dX11_endsIn_64 rfl rfl (by exact nR (by have := mt (sLeft_al hk hkk.1 hkk.2.2.2.2.2.2.2 i).mpr (by rw [c_46]; decide); omega)) (by exact ⟨⟨⟨_, _, _, _, hM⟩, hN.fr (F2 _ (by omega)), ⟨_, hT⟩, ⟨_, hR.fr (F2 _ (by omega))⟩, eArr.fr hBk (F2 _ (by omega)), eArr.fr hKp (F2 _ (by omega)), ⟨hU.fr (F2 _ (by omega)), hu⟩, ⟨_, hH.fr (F2 _ (by omega))⟩, hX.fr (F2 _ (by omega)), hx⟩, FR.trans (F2.wide (by omega) (by omega))⟩) (fun _ e => by first | exact Option.some.inj e | (have e2 := Option.some.inj e; omega)) (by first | exact Nat.le_of_ble_eq_true rfl | omega) (by first | exact Nat.le_of_ble_eq_true rfl | omega)
        · have hlt := (sLeft_al hk hkk.1 hkk.2.2.2.2.2.2.2 i).mp c_46
          refine ev_aload_n dX11_endsIn_49 rfl rfl ?_
          refine ev_getfield dX11_endsIn_50 fl_X11_13 (by first | assumption | omega | exact ePp.ob (by assumption) | exact eNm.ob (by assumption) | exact eRg.ob (by assumption) | exact eTx.ob (by assumption) | exact ePa.ob (by assumption) | exact eMB.ob (by assumption)) rfl ?_
          refine ev_callSi dX11_endsIn_53 (c_X11_goYear hT hJK (hJ.goE hT30 (by omega))) lk_X11_108 ⟨Nat.le_of_ble_eq_true rfl, Nat.le_of_ble_eq_true rfl⟩ rfl (Nat.le_of_ble_eq_true rfl) ⟨by first | exact Nat.le_of_ble_eq_true rfl | omega, by first | exact Nat.le_of_ble_eq_true rfl | omega⟩ (fun g_53 hg_53 => ?_)
          obtain ⟨w_53, fr_53⟩ := hg_53
          first | replace hM := eRow.fr hM (fr_53 _ (by omega)) | replace hM := eMB.fr hM (fr_53 _ (by omega)) | replace hM := eArr.fr hM (fr_53 _ (by omega)) | replace hM := Eq.trans (fr_53 _ (by omega)) hM | replace hM := eBo.fr hM (fr_53 _ (by omega)) | replace hM := ePp.fr1 hM (fun a _ _ => fr_53 a (by omega)) | replace hM := eNm.fr1 hM (fun a _ _ => fr_53 a (by omega)) | replace hM := eRg.fr hM (fun a _ _ => fr_53 a (by omega)) | replace hM := eTx.fr hM (fun a _ _ => fr_53 a (by omega)) | replace hM := ePa.fr hM (fun a _ _ => fr_53 a (by omega)) | replace hM := eRf.fr hM (fr_53 _ (by omega)) | replace hM := eSl.fr hM (fun a _ _ => fr_53 a (by omega)) | replace hM := eSe.fr hM (fun a _ _ => fr_53 a (by omega)) | replace hM := z_53 hM | replace hM := z_53
          replace hT := w_53
          first | replace F2 := eFr.trans F2 (eFr.one fr_53 (by omega) (by omega)) | replace F2 := eFr.trans F2 (eFr.wide fr_53 (by omega) (by omega)) | replace F2 := eF2.a F2 fr_53 | replace F2 := eF2.b F2 fr_53 | replace F2 := eF2.c F2 fr_53 | replace F2 := eF2.t F2 fr_53
          refine ev_istore_n dX11_endsIn_56 rfl (Nat.le_of_ble_eq_true rfl) ?_
          first | refine ev_iincN dX11_endsIn_57 rfl (Nat.le_of_ble_eq_true rfl) ?_ | refine ev_iinc dX11_endsIn_57 rfl rfl (Nat.le_of_ble_eq_true rfl) ?_
          refine ev_goto (tgt := 38) dX11_endsIn_60 (by decide) ?_
          exact (ih_38 _ (by omega) (i + 1) _ rfl (by first | omega | assumption | rfl) (by first | omega | assumption | rfl) (by exact hT) (by first | omega | assumption | rfl)).sub1 ⟨rfl, rfl, rfl, trivial⟩ rfl
      exact (H_38 _ 0 g_33 rfl (by exact Nat.zero_le _) (by exact hM) (by exact hT) (by exact eFr.rf)).sub1 ⟨rfl, rfl, rfl, trivial⟩ rfl
    · exact absurd c_20 (by decide)
set_option maxHeartbeats 4000000 in
set_option maxRecDepth 20000 in
theorem c_X11_endsIn_1 {h : eH} {n m bad ℓ c : Nat} {z : Int32} {σ : St} {x : Nat → Nat} {τ τs : Nat → St} {us : Nat → Nat} (hO : eMo h m bad σ x ℓ c τ us τs) (hK : eOK σ) (hz : ¬ (0 ≤ z.toInt ∧ z.toInt < (σ 0 1 : Int))) : kX11_endsIn [.ref m, .int z] h n (.inl (some (.int (nI 0))), (fun g' => eMo g' m 1 σ x ℓ c τ us τs ∧ eFr h g' m (m + 9)), some n) 0 0 := by
  refine eM.of RX11 "endsIn" [(0, .ref m), (1, .int z)] pn_X11 rfl rfl (Nat.le_of_ble_eq_true rfl) rfl ?_
  obtain ⟨⟨ap, gd, lo, lr, hM⟩, hN, ⟨ρ, hT⟩, ⟨υ, hR⟩, hBk, hKp, ⟨hU, hu⟩, ⟨H, hH⟩, hX, hx⟩ := id hO
  have FR : eFr h h m (m + 9) := eFr.rf
  have hB := hK.1
  refine ev_aload_n dX11_endsIn_0 rfl rfl ?_
  refine ev_aload_n dX11_endsIn_1 rfl rfl ?_
  refine ev_getfield dX11_endsIn_2 fl_X11_7 (by first | assumption | omega | exact ePp.ob (by assumption) | exact eNm.ob (by assumption) | exact eRg.ob (by assumption) | exact eTx.ob (by assumption) | exact ePa.ob (by assumption) | exact eMB.ob (by assumption)) rfl ?_
  refine ev_iload_n dX11_endsIn_5 rfl rfl ?_
  refine ev_callSi dX11_endsIn_6 (c_X11_isName hN hB) lk_X11_238 ⟨Nat.le_of_ble_eq_true rfl, Nat.le_of_ble_eq_true rfl⟩ rfl (Nat.le_of_ble_eq_true rfl) ⟨by first | exact Nat.le_of_ble_eq_true rfl | omega, by first | exact Nat.le_of_ble_eq_true rfl | omega⟩ (eRo ?_)
  first | ((with_reducible show eV _ _ _ (Value.int (bI _) :: _) _ _ _ _); refine ev_if_eqB (tgt := 16) dX11_endsIn_9 (by decide) (fun c_9 => ?_) (fun c_9 => ?_)) | ((with_reducible show eV _ _ _ (Value.int (nI _) :: _) _ _ _ _); refine ev_if_eqN (tgt := 16) dX11_endsIn_9 (by decide) (by first | exact hB _ _ | omega) (fun c_9 => ?_) (fun c_9 => ?_)) | (refine ev_if_eqZ (tgt := 16) dX11_endsIn_9 (by decide) (fun c_9 => ?_) (fun c_9 => ?_))
  · refine ev_iconst (v := nI 1) dX11_endsIn_16 rfl ?_
    refine ev_callVi dX11_endsIn_17 (c_X11_refused (w := 1) hM (by decide)) rfl lk_X11_120 (by first | assumption | omega | exact ePp.ob (by assumption) | exact eNm.ob (by assumption) | exact eRg.ob (by assumption) | exact eTx.ob (by assumption) | exact ePa.ob (by assumption) | exact eMB.ob (by assumption)) ⟨Nat.le_of_ble_eq_true rfl, Nat.le_of_ble_eq_true rfl⟩ rfl (Nat.le_of_ble_eq_true rfl) ⟨by first | exact Nat.le_of_ble_eq_true rfl | omega, by first | exact Nat.le_of_ble_eq_true rfl | omega⟩ (fun g_17 hg_17 => ?_)
    obtain ⟨w_17, fr_17⟩ := hg_17
    replace hM := w_17
    first | replace hN := eRow.fr hN (fr_17 _ (by omega)) | replace hN := eMB.fr hN (fr_17 _ (by omega)) | replace hN := eArr.fr hN (fr_17 _ (by omega)) | replace hN := Eq.trans (fr_17 _ (by omega)) hN | replace hN := eBo.fr hN (fr_17 _ (by omega)) | replace hN := ePp.fr1 hN (fun a _ _ => fr_17 a (by omega)) | replace hN := eNm.fr1 hN (fun a _ _ => fr_17 a (by omega)) | replace hN := eRg.fr hN (fun a _ _ => fr_17 a (by omega)) | replace hN := eTx.fr hN (fun a _ _ => fr_17 a (by omega)) | replace hN := ePa.fr hN (fun a _ _ => fr_17 a (by omega)) | replace hN := eRf.fr hN (fr_17 _ (by omega)) | replace hN := eSl.fr hN (fun a _ _ => fr_17 a (by omega)) | replace hN := eSe.fr hN (fun a _ _ => fr_17 a (by omega)) | replace hN := z_17 hN | replace hN := z_17
    first | replace hT := eRow.fr hT (fr_17 _ (by omega)) | replace hT := eMB.fr hT (fr_17 _ (by omega)) | replace hT := eArr.fr hT (fr_17 _ (by omega)) | replace hT := Eq.trans (fr_17 _ (by omega)) hT | replace hT := eBo.fr hT (fr_17 _ (by omega)) | replace hT := ePp.fr1 hT (fun a _ _ => fr_17 a (by omega)) | replace hT := eNm.fr1 hT (fun a _ _ => fr_17 a (by omega)) | replace hT := eRg.fr hT (fun a _ _ => fr_17 a (by omega)) | replace hT := eTx.fr hT (fun a _ _ => fr_17 a (by omega)) | replace hT := ePa.fr hT (fun a _ _ => fr_17 a (by omega)) | replace hT := eRf.fr hT (fr_17 _ (by omega)) | replace hT := eSl.fr hT (fun a _ _ => fr_17 a (by omega)) | replace hT := eSe.fr hT (fun a _ _ => fr_17 a (by omega)) | replace hT := z_17 hT | replace hT := z_17
    first | replace hR := eRow.fr hR (fr_17 _ (by omega)) | replace hR := eMB.fr hR (fr_17 _ (by omega)) | replace hR := eArr.fr hR (fr_17 _ (by omega)) | replace hR := Eq.trans (fr_17 _ (by omega)) hR | replace hR := eBo.fr hR (fr_17 _ (by omega)) | replace hR := ePp.fr1 hR (fun a _ _ => fr_17 a (by omega)) | replace hR := eNm.fr1 hR (fun a _ _ => fr_17 a (by omega)) | replace hR := eRg.fr hR (fun a _ _ => fr_17 a (by omega)) | replace hR := eTx.fr hR (fun a _ _ => fr_17 a (by omega)) | replace hR := ePa.fr hR (fun a _ _ => fr_17 a (by omega)) | replace hR := eRf.fr hR (fr_17 _ (by omega)) | replace hR := eSl.fr hR (fun a _ _ => fr_17 a (by omega)) | replace hR := eSe.fr hR (fun a _ _ => fr_17 a (by omega)) | replace hR := z_17 hR | replace hR := z_17
    first | replace hBk := eRow.fr hBk (fr_17 _ (by omega)) | replace hBk := eMB.fr hBk (fr_17 _ (by omega)) | replace hBk := eArr.fr hBk (fr_17 _ (by omega)) | replace hBk := Eq.trans (fr_17 _ (by omega)) hBk | replace hBk := eBo.fr hBk (fr_17 _ (by omega)) | replace hBk := ePp.fr1 hBk (fun a _ _ => fr_17 a (by omega)) | replace hBk := eNm.fr1 hBk (fun a _ _ => fr_17 a (by omega)) | replace hBk := eRg.fr hBk (fun a _ _ => fr_17 a (by omega)) | replace hBk := eTx.fr hBk (fun a _ _ => fr_17 a (by omega)) | replace hBk := ePa.fr hBk (fun a _ _ => fr_17 a (by omega)) | replace hBk := eRf.fr hBk (fr_17 _ (by omega)) | replace hBk := eSl.fr hBk (fun a _ _ => fr_17 a (by omega)) | replace hBk := eSe.fr hBk (fun a _ _ => fr_17 a (by omega)) | replace hBk := z_17 hBk | replace hBk := z_17
    first | replace hKp := eRow.fr hKp (fr_17 _ (by omega)) | replace hKp := eMB.fr hKp (fr_17 _ (by omega)) | replace hKp := eArr.fr hKp (fr_17 _ (by omega)) | replace hKp := Eq.trans (fr_17 _ (by omega)) hKp | replace hKp := eBo.fr hKp (fr_17 _ (by omega)) | replace hKp := ePp.fr1 hKp (fun a _ _ => fr_17 a (by omega)) | replace hKp := eNm.fr1 hKp (fun a _ _ => fr_17 a (by omega)) | replace hKp := eRg.fr hKp (fun a _ _ => fr_17 a (by omega)) | replace hKp := eTx.fr hKp (fun a _ _ => fr_17 a (by omega)) | replace hKp := ePa.fr hKp (fun a _ _ => fr_17 a (by omega)) | replace hKp := eRf.fr hKp (fr_17 _ (by omega)) | replace hKp := eSl.fr hKp (fun a _ _ => fr_17 a (by omega)) | replace hKp := eSe.fr hKp (fun a _ _ => fr_17 a (by omega)) | replace hKp := z_17 hKp | replace hKp := z_17
    first | replace hU := eRow.fr hU (fr_17 _ (by omega)) | replace hU := eMB.fr hU (fr_17 _ (by omega)) | replace hU := eArr.fr hU (fr_17 _ (by omega)) | replace hU := Eq.trans (fr_17 _ (by omega)) hU | replace hU := eBo.fr hU (fr_17 _ (by omega)) | replace hU := ePp.fr1 hU (fun a _ _ => fr_17 a (by omega)) | replace hU := eNm.fr1 hU (fun a _ _ => fr_17 a (by omega)) | replace hU := eRg.fr hU (fun a _ _ => fr_17 a (by omega)) | replace hU := eTx.fr hU (fun a _ _ => fr_17 a (by omega)) | replace hU := ePa.fr hU (fun a _ _ => fr_17 a (by omega)) | replace hU := eRf.fr hU (fr_17 _ (by omega)) | replace hU := eSl.fr hU (fun a _ _ => fr_17 a (by omega)) | replace hU := eSe.fr hU (fun a _ _ => fr_17 a (by omega)) | replace hU := z_17 hU | replace hU := z_17
    first | replace hH := eRow.fr hH (fr_17 _ (by omega)) | replace hH := eMB.fr hH (fr_17 _ (by omega)) | replace hH := eArr.fr hH (fr_17 _ (by omega)) | replace hH := Eq.trans (fr_17 _ (by omega)) hH | replace hH := eBo.fr hH (fr_17 _ (by omega)) | replace hH := ePp.fr1 hH (fun a _ _ => fr_17 a (by omega)) | replace hH := eNm.fr1 hH (fun a _ _ => fr_17 a (by omega)) | replace hH := eRg.fr hH (fun a _ _ => fr_17 a (by omega)) | replace hH := eTx.fr hH (fun a _ _ => fr_17 a (by omega)) | replace hH := ePa.fr hH (fun a _ _ => fr_17 a (by omega)) | replace hH := eRf.fr hH (fr_17 _ (by omega)) | replace hH := eSl.fr hH (fun a _ _ => fr_17 a (by omega)) | replace hH := eSe.fr hH (fun a _ _ => fr_17 a (by omega)) | replace hH := z_17 hH | replace hH := z_17
    first | replace hX := eRow.fr hX (fr_17 _ (by omega)) | replace hX := eMB.fr hX (fr_17 _ (by omega)) | replace hX := eArr.fr hX (fr_17 _ (by omega)) | replace hX := Eq.trans (fr_17 _ (by omega)) hX | replace hX := eBo.fr hX (fr_17 _ (by omega)) | replace hX := ePp.fr1 hX (fun a _ _ => fr_17 a (by omega)) | replace hX := eNm.fr1 hX (fun a _ _ => fr_17 a (by omega)) | replace hX := eRg.fr hX (fun a _ _ => fr_17 a (by omega)) | replace hX := eTx.fr hX (fun a _ _ => fr_17 a (by omega)) | replace hX := ePa.fr hX (fun a _ _ => fr_17 a (by omega)) | replace hX := eRf.fr hX (fr_17 _ (by omega)) | replace hX := eSl.fr hX (fun a _ _ => fr_17 a (by omega)) | replace hX := eSe.fr hX (fun a _ _ => fr_17 a (by omega)) | replace hX := z_17 hX | replace hX := z_17
    first | replace FR := eFr.trans FR (eFr.one fr_17 (by omega) (by omega)) | replace FR := eFr.trans FR (eFr.wide fr_17 (by omega) (by omega)) | replace FR := eF2.a FR fr_17 | replace FR := eF2.b FR fr_17 | replace FR := eF2.c FR fr_17 | replace FR := eF2.t FR fr_17
    first | ((with_reducible show eV _ _ _ (Value.int (bI _) :: _) _ _ _ _); refine ev_if_eqB (tgt := 25) dX11_endsIn_20 (by decide) (fun c_20 => ?_) (fun c_20 => ?_)) | ((with_reducible show eV _ _ _ (Value.int (nI _) :: _) _ _ _ _); refine ev_if_eqN (tgt := 25) dX11_endsIn_20 (by decide) (by first | exact hB _ _ | omega) (fun c_20 => ?_) (fun c_20 => ?_)) | (refine ev_if_eqZ (tgt := 25) dX11_endsIn_20 (by decide) (fun c_20 => ?_) (fun c_20 => ?_))
    · exact absurd c_20 (by decide)
    · refine ev_iconst (v := nI 0) dX11_endsIn_23 rfl ?_
      exact ev_iret dX11_endsIn_24 rfl rfl (by rfl) (by exact ⟨⟨⟨_, _, _, _, hM⟩, hN, ⟨_, hT⟩, ⟨_, hR⟩, hBk, hKp, ⟨hU, hu⟩, ⟨_, hH⟩, hX, hx⟩, FR⟩) (fun _ e => Option.some.inj e) (Nat.le_of_ble_eq_true rfl) (Nat.le_of_ble_eq_true rfl)
  · exact absurd (of_decide_eq_true c_9) hz

