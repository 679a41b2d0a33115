/-! what the calls do to a state -/
def sCode (m c : Nat) : Bool := decide (1 ≤ m ∧ m ≤ 4 ∧ c < 26 ^ m)
def sMix (σ : St) (p : Nat) (o : Option Nat) : St := match o with
  | none => σ
  | some q => su (su (su σ 4 p (σ 4 p + 1)) 5 q (σ 5 q + 1)) 0 3 (σ 0 3 + 1)
def sCallW (σ : St) (b m c : Nat) : Option Nat := if b < 4 ∧ sCode m c = true then sMeant σ b m c else none
def sCall (σ : St) (b m c : Nat) : St := match sCallW σ b m c with
  | none => σ
  | some p => match sNameOf σ p m c with
    | some k => sUse σ k (σ 0 2) (σ 14 0)
    | none => sMix σ p (sFBN σ p m c)
def sHeirOf (σ : St) (k : Nat) : Option Nat := if σ 12 k = 1 ∧ ¬ 40 ≤ σ 0 1 then sHeir σ (σ 9 k) else none
def sOutgrow (σ : St) (k : Nat) : St := match sHeirOf σ k with
  | none => su σ 12 k 3
  | some q => sAddN (su σ 12 k 4) (σ 9 k) q (σ 6 k) (σ 7 k) (σ 0 2)
def sEndStep (σ : St) (k : Nat) : St := if sAlive σ k = false then σ else if σ 14 1 ≤ σ 0 2 - σ 11 k then su σ 12 k 2 else if 4 * σ 14 2 * σ 6 k < σ 1 (σ 9 k) then sOutgrow σ k else σ
def sEndQ (σ : St) (k : Nat) : Nat := if sAlive σ k = false then 0 else if σ 14 1 ≤ σ 0 2 - σ 11 k then 1 else if 4 * σ 14 2 * σ 6 k < σ 1 (σ 9 k) then 1 else 0
def sEnd (σ : St) : Nat → St
  | 0 => σ
  | k + 1 => sEndStep (sEnd σ k) k
def sEndN (σ : St) : Nat → Nat
  | 0 => 0
  | k + 1 => sEndN σ k + sEndQ (sEnd σ k) k
def sOlder (σ : St) : St := sGrow (su σ 0 2 (σ 0 2 + 1)) (σ 0 0)
def sYears (σ : St) : Nat → St
  | 0 => σ
  | k + 1 => sEnd (sOlder (sYears σ k)) (sYears σ k 0 1)
def sYearsN (σ : St) : Nat → Nat
  | 0 => 0
  | k + 1 => sYearsN σ k + sEndN (sOlder (sYears σ k)) (sYears σ k 0 1)
def sYearsOK (σ : St) (n : Nat) : Bool := decide (1 ≤ n ∧ n ≤ 9 ∧ σ 0 2 + n ≤ 999)
def sPass (σ : St) (n : Nat) : St := if sYearsOK σ n = true then sYears σ n else σ
def sPersonOK (σ : St) (a f b : Nat) : Bool := decide (f < 6 ∧ b < 4 ∧ a ≤ 99 ∧ ¬ 12 ≤ σ 0 0)
def sPerson (σ : St) (a f b : Nat) : St := if sPersonOK σ a f b = true then sAddP σ a f b else σ
def sSitOK (σ : St) (p b : Nat) : Bool := decide (p < σ 0 0 ∧ b < 4) && !sKept σ p b
def sSit (σ : St) (p b : Nat) : St := if sSitOK σ p b = true then su σ 3 p b else σ
def sGiveOK (σ : St) (g p m c : Nat) : Bool := decide (g < σ 0 0 ∧ p < σ 0 0) && sCode m c && decide (sWhy σ g p m c = 0)
def sGive (σ : St) (g p m c : Nat) : St := if sGiveOK σ g p m c = true then sAddN σ g p m c (σ 0 2) else σ
def sSetOK (w v : Nat) : Bool := decide (w < 3 ∧ (if w = 2 then 0 else 1) ≤ v ∧ v ≤ 9)
def sSet (σ : St) (w v : Nat) : St := if sSetOK w v = true then su σ 14 w v else σ
/-! what holds of a state at all times; T bounds what counts calls -/
def eIv (σ : St) (T : Nat) : Prop :=
  (σ 0 0 ≤ 12 ∧ σ 0 1 ≤ 40 ∧ σ 0 2 ≤ 999) ∧ (∀ i, 3 ≤ i → σ 0 i ≤ T) ∧ (∀ p, σ 1 p ≤ 99 + σ 0 2 ∧ σ 2 p < 6 ∧ σ 3 p < 4 ∧ σ 4 p ≤ T ∧ σ 5 p ≤ T) ∧
  (∀ k, σ 6 k ≤ 4 ∧ σ 7 k < 456976 ∧ σ 8 k < 12 ∧ σ 9 k < 12 ∧ σ 10 k ≤ T ∧ σ 11 k ≤ σ 0 2 ∧ σ 12 k ≤ 4 ∧ σ 13 k ≤ 1) ∧
  (∀ k, k < σ 0 1 → σ 9 k < σ 0 0 ∧ σ 8 k < σ 0 0 ∧ 1 ≤ σ 6 k ∧ σ 7 k < 26 ^ σ 6 k) ∧
  ((1 ≤ σ 14 0 ∧ 1 ≤ σ 14 1) ∧ ∀ j, σ 14 j ≤ 9) ∧ ∀ f j, 15 ≤ f → σ f j = 0
theorem eIv.ok {σ : St} {T : Nat} (h : eIv σ T) (hT : T < 2 ^ 30) : eOK σ := by
  obtain ⟨⟨a1, a2, a3⟩, b, c, d, e, ⟨⟨f1, f2⟩, f3⟩, g⟩ := h
  refine ⟨fun f i => ?_, a1, a2, fun k hk => ⟨(e k hk).1, (e k hk).2.1, (e k hk).2.2.1, (d k).1, (e k hk).2.2.2, (d k).2.2.2.2.2.2.1, (d k).2.2.2.2.2.2.2, (d k).2.2.2.2.2.1⟩, by omega, fun p _ => by have := (c p).1; omega, ⟨f1, f3 0⟩, ⟨f2, f3 1⟩, f3 2⟩
  have hc := c i
  have hd := d i
  rcases Nat.lt_or_ge f 15 with q | q
  · match f, q with
    | 0, _ =>
      rcases Nat.lt_or_ge i 3 with q2 | q2
      · match i, q2 with
        | 0, _ => omega
        | 1, _ => omega
        | 2, _ => omega
      · have := b i q2; omega
    | 1, _ => omega
    | 2, _ => omega
    | 3, _ => omega
    | 4, _ => omega
    | 5, _ => omega
    | 6, _ => omega
    | 7, _ => omega
    | 8, _ => omega
    | 9, _ => omega
    | 10, _ => omega
    | 11, _ => omega
    | 12, _ => omega
    | 13, _ => omega
    | 14, _ => have := f3 i; omega
  · rw [g f i q]; decide
theorem eIv.mono {σ : St} {T U : Nat} (h : eIv σ T) (hT : T ≤ U) : eIv σ U := by
  obtain ⟨a, b, c, d, e, f, g⟩ := h
  exact ⟨a, fun i hi => Nat.le_trans (b i hi) hT, fun p => by have := c p; omega, fun k => by have := d k; omega, e, f, g⟩
theorem eIv.state {σ : St} {T k v : Nat} (h : eIv σ T) (hv : v ≤ 4) : eIv (su σ 12 k v) T := by
  obtain ⟨a, b, c, d, e, f, g⟩ := h
  refine ⟨a, b, c, fun j => ?_, e, f, fun f j hf => ?_⟩
  · have := d j
    by_cases z : j = k
    · subst z; simp [su]; omega
    · simp [su, z]; omega
  · simp [su, show f ≠ 12 by omega]; exact g f j hf
theorem eIv.sit {σ : St} {T p v : Nat} (h : eIv σ T) (hv : v < 4) : eIv (su σ 3 p v) T := by
  obtain ⟨a, b, c, d, e, f, g⟩ := h
  refine ⟨a, b, fun j => ?_, d, e, f, fun f j hf => ?_⟩
  · have := c j
    by_cases z : j = p
    · subst z; simp [su]; omega
    · simp [su, z]; omega
  · simp [su, show f ≠ 3 by omega]; exact g f j hf
theorem eIv.set {σ : St} {T w v : Nat} (h : eIv σ T) (hw : sSetOK w v = true) : eIv (su σ 14 w v) T := by
  obtain ⟨a, b, c, d, e, ⟨⟨f1, f2⟩, f3⟩, g⟩ := h
  simp only [sSetOK, decide_eq_true_eq] at hw
  refine ⟨a, b, c, d, e, ⟨⟨?_, ?_⟩, fun j => ?_⟩, fun f j hf => ?_⟩
  · by_cases z : w = 0
    · subst z; simp [su]; simp at hw; omega
    · simp [su, Ne.symm z]; exact f1
  · by_cases z : w = 1
    · subst z; simp [su]; simp at hw; omega
    · simp [su, Ne.symm z]; exact f2
  · by_cases z : j = w
    · subst z; simp [su]; omega
    · simp [su, z]; exact f3 j
  · simp [su, show f ≠ 14 by omega]; exact g f j hf
theorem eIv.count {σ : St} {T i : Nat} (h : eIv σ T) (hi : 3 ≤ i) : eIv (su σ 0 i (σ 0 i + 1)) (T + 1) := by
  obtain ⟨⟨a1, a2, a3⟩, b, c, d, e, f, g⟩ := h
  have n0 : su σ 0 i (σ 0 i + 1) 0 0 = σ 0 0 := su_ne (by omega)
  have n1 : su σ 0 i (σ 0 i + 1) 0 1 = σ 0 1 := su_ne (by omega)
  have n2 : su σ 0 i (σ 0 i + 1) 0 2 = σ 0 2 := su_ne (by omega)
  refine ⟨by rw [n0, n1, n2]; exact ⟨a1, a2, a3⟩, fun j hj => ?_, fun j => ?_, fun j => ?_, ?_, f, fun f j hf => ?_⟩
  · have := b j hj
    by_cases z : j = i
    · subst z; simp [su]; omega
    · simp [su, z]; omega
  · rw [n2]; have := c j; simp only [su]; simp; omega
  · rw [n2]; have := d j; simp only [su]; simp; omega
  · rw [n0, n1]; exact e
  · simp [su, show f ≠ 0 by omega]; exact g f j hf
theorem eIv.addP {σ : St} {T a f b : Nat} (h : eIv σ T) (ha : a ≤ 99) (hf : f < 6) (hb : b < 4) (hlt : σ 0 0 < 12) : eIv (sAddP σ a f b) T := by
  obtain ⟨⟨a1, a2, a3⟩, b1, c, d, e, f1, g⟩ := h
  have n0 : sAddP σ a f b 0 0 = σ 0 0 + 1 := by simp [sAddP, su]
  have n1 : sAddP σ a f b 0 1 = σ 0 1 := by simp [sAddP, su]
  have n2 : sAddP σ a f b 0 2 = σ 0 2 := by simp [sAddP, su]
  refine ⟨by rw [n0, n1, n2]; omega, fun j hj => ?_, fun j => ?_, fun j => ?_, ?_, ?_, fun f j hf => ?_⟩
  · have := b1 j hj
    simp [sAddP, su, show j ≠ 0 by omega]; omega
  · rw [n2]
    have := c j
    by_cases z : j = σ 0 0
    · subst z; simp [sAddP, su]; omega
    · simp [sAddP, su, z]; omega
  · rw [n2]; have := d j; simp [sAddP, su]; omega
  · rw [n0, n1]; intro k hk; have := e k hk; simp [sAddP, su]; omega
  · simp [sAddP, su]; exact f1
  · have z1 : f ≠ 0 := by omega
    have z2 : f ≠ 1 := by omega
    have z3 : f ≠ 2 := by omega
    have z4 : f ≠ 3 := by omega
    have z5 : f ≠ 4 := by omega
    have z6 : f ≠ 5 := by omega
    simp [sAddP, su, z1, z2, z3, z4, z5, z6]; exact g f j hf
theorem eIv.addN {σ : St} {T gv p m c : Nat} (h : eIv σ T) (hg : gv < σ 0 0) (hp : p < σ 0 0) (hm : 1 ≤ m ∧ m ≤ 4) (hc : c < 26 ^ m) (hlt : σ 0 1 < 40) : eIv (sAddN σ gv p m c (σ 0 2)) T := by
  obtain ⟨⟨a1, a2, a3⟩, b1, c1, d, e, f1, g⟩ := h
  have hc4 : c < 456976 := Nat.lt_of_lt_of_le hc (Nat.pow_le_pow_right (by decide) hm.2)
  have n0 : sAddN σ gv p m c (σ 0 2) 0 0 = σ 0 0 := by simp [sAddN, su]
  have n1 : sAddN σ gv p m c (σ 0 2) 0 1 = σ 0 1 + 1 := by simp [sAddN, su]
  have n2 : sAddN σ gv p m c (σ 0 2) 0 2 = σ 0 2 := by simp [sAddN, su]
  refine ⟨by rw [n0, n1, n2]; omega, fun j hj => ?_, fun j => ?_, fun j => ?_, ?_, ?_, fun f j hf => ?_⟩
  · have := b1 j hj
    simp [sAddN, su, show j ≠ 1 by omega]; omega
  · rw [n2]; have := c1 j; simp [sAddN, su]; omega
  · rw [n2]
    have := d j
    by_cases z : j = σ 0 1
    · subst z; simp [sAddN, su]; omega
    · simp [sAddN, su, z]; omega
  · rw [n0, n1]; intro k hk
    by_cases z : k = σ 0 1
    · subst z; simp [sAddN, su]; omega
    · have := e k (by omega); simp [sAddN, su, z]; omega
  · simp [sAddN, su]; exact f1
  · have z1 : f ≠ 0 := by omega
    have z2 : f ≠ 6 := by omega
    have z3 : f ≠ 7 := by omega
    have z4 : f ≠ 8 := by omega
    have z5 : f ≠ 9 := by omega
    have z6 : f ≠ 10 := by omega
    have z7 : f ≠ 11 := by omega
    have z8 : f ≠ 12 := by omega
    have z9 : f ≠ 13 := by omega
    simp [sAddN, su, z1, z2, z3, z4, z5, z6, z7, z8, z9]; exact g f j hf
theorem eIv.use {σ : St} {T k : Nat} (h : eIv σ T) : eIv (sUse σ k (σ 0 2) (σ 14 0)) (T + 1) := by
  obtain ⟨⟨a1, a2, a3⟩, b1, c1, d, e, f1, g⟩ := h
  refine ⟨by simp [sUse_at]; omega, fun j hj => ?_, fun j => ?_, fun j => ?_, ?_, ?_, fun f j hf => ?_⟩
  · have := b1 j hj
    simp [sUse_at]; omega
  · have := c1 j; simp [sUse_at]; omega
  · have := d j
    have h2 : sUse σ k (σ 0 2) (σ 14 0) 0 2 = σ 0 2 := by simp [sUse_at]
    rw [h2]
    by_cases z : j = k
    · subst z
      simp only [sUse_at]
      by_cases w : σ 12 j = 0 ∧ σ 14 0 ≤ σ 10 j + 1
      · simp [w]; omega
      · simp [w]; omega
    · simp [sUse_at, z]; omega
  · intro k2 hk; have := e k2 (by simpa [sUse_at] using hk); simp [sUse_at]; omega
  · simp [sUse_at]; exact f1
  · have z6 : f ≠ 10 := by omega
    have z7 : f ≠ 11 := by omega
    have z8 : f ≠ 12 := by omega
    have z9 : f ≠ 13 := by omega
    simp [sUse_at, z6, z7, z8, z9]; exact g f j hf
theorem eIv.mix {σ : St} {T p : Nat} {o : Option Nat} (h : eIv σ T) : eIv (sMix σ p o) (T + 1) := by
  cases o with
  | none => exact h.mono (Nat.le_succ T)
  | some q =>
    obtain ⟨⟨a1, a2, a3⟩, b1, c1, d, e, f1, g⟩ := h
    refine ⟨by simp [sMix, su]; omega, fun j hj => ?_, fun j => ?_, fun j => ?_, ?_, ?_, fun f j hf => ?_⟩
    · have := b1 j hj
      by_cases z : j = 3
      · subst z; simp [sMix, su]; omega
      · simp [sMix, su, z]; omega
    · have := c1 j
      have := c1 p
      have := c1 q
      exact ⟨by simp [sMix, su]; omega, by simp [sMix, su]; omega, by simp [sMix, su]; omega, by simp [sMix, su]; split <;> omega, by simp [sMix, su]; split <;> omega⟩
    · have := d j; simp [sMix, su]; omega
    · intro k2 hk; have := e k2 (by simpa [sMix, su] using hk); simp [sMix, su]; omega
    · simp [sMix, su]; exact f1
    · have z6 : f ≠ 0 := by omega
      have z7 : f ≠ 4 := by omega
      have z8 : f ≠ 5 := by omega
      simp [sMix, su, z6, z7, z8]; exact g f j hf
theorem eIv.older {σ : St} {T : Nat} (h : eIv σ T) (hy : σ 0 2 < 999) : eIv (sOlder σ) T := by
  obtain ⟨⟨a1, a2, a3⟩, b1, c1, d, e, f1, g⟩ := h
  have n2 : sOlder σ 0 2 = σ 0 2 + 1 := by simp [sOlder, sGrow, su]
  have n0 : sOlder σ 0 0 = σ 0 0 := by simp [sOlder, sGrow, su]
  have n1 : sOlder σ 0 1 = σ 0 1 := by simp [sOlder, sGrow, su]
  refine ⟨by rw [n0, n1, n2]; omega, fun j hj => ?_, fun j => ?_, fun j => ?_, ?_, ?_, fun f j hf => ?_⟩
  · have := b1 j hj
    simp [sOlder, sGrow, su, show j ≠ 2 by omega]; omega
  · rw [n2]
    have := c1 j
    by_cases z : j < σ 0 0
    · simp [sOlder, sGrow, su, z]; omega
    · simp [sOlder, sGrow, su, z]; omega
  · rw [n2]; have := d j; simp [sOlder, sGrow, su]; omega
  · rw [n0, n1]; intro k hk; have := e k hk; simp [sOlder, sGrow, su]; omega
  · simp [sOlder, sGrow, su]; exact f1
  · simp [sOlder, sGrow, su, show f ≠ 1 by omega, show f ≠ 0 by omega]; exact g f j hf
theorem sHeirOf_lt {σ : St} {k q : Nat} (h : sHeirOf σ k = some q) : q < σ 0 0 ∧ σ 0 1 < 40 := by
  unfold sHeirOf at h
  by_cases z : σ 12 k = 1 ∧ ¬ 40 ≤ σ 0 1
  · rw [if_pos z] at h
    exact ⟨sHeirTo_lt h, by omega⟩
  · rw [if_neg z] at h
    cases h
theorem eIv.outgrow {σ : St} {T k : Nat} (h : eIv σ T) (hk : k < σ 0 1) : eIv (sOutgrow σ k) T ∧ σ 0 1 ≤ sOutgrow σ k 0 1 ∧ sOutgrow σ k 0 2 = σ 0 2 ∧ sOutgrow σ k 0 0 = σ 0 0 := by
  unfold sOutgrow
  have e := h.2.2.2.2.1 k hk
  have d := h.2.2.2.1 k
  cases hq : sHeirOf σ k with
  | none => exact ⟨h.state (by decide), by simp [su], by simp [su], by simp [su]⟩
  | some q =>
    obtain ⟨h1, h2⟩ := sHeirOf_lt hq
    refine ⟨?_, by simp [sAddN, su], by simp [sAddN, su], by simp [sAddN, su]⟩
    have := (h.state (k := k) (v := 4) (by decide)).addN (gv := σ 9 k) (p := q) (m := σ 6 k) (c := σ 7 k) (by simp [su]; omega) (by simp [su]; omega) (by omega) (by omega) (by simp [su]; omega)
    simpa [su] using this
theorem eIv.endStep {σ : St} {T k : Nat} (h : eIv σ T) (hk : k < σ 0 1) : eIv (sEndStep σ k) T ∧ σ 0 1 ≤ sEndStep σ k 0 1 ∧ sEndStep σ k 0 2 = σ 0 2 ∧ sEndStep σ k 0 0 = σ 0 0 := by
  unfold sEndStep
  split
  · exact ⟨h, Nat.le_refl _, rfl, rfl⟩
  split
  · exact ⟨h.state (by decide), by simp [su], by simp [su], by simp [su]⟩
  split
  · exact h.outgrow hk
  · exact ⟨h, Nat.le_refl _, rfl, rfl⟩
theorem eIv.end_ {σ : St} {T : Nat} (h : eIv σ T) : ∀ {k : Nat}, k ≤ σ 0 1 → eIv (sEnd σ k) T ∧ σ 0 1 ≤ sEnd σ k 0 1 ∧ sEnd σ k 0 2 = σ 0 2 ∧ sEnd σ k 0 0 = σ 0 0
  | 0, _ => ⟨h, Nat.le_refl _, rfl, rfl⟩
  | k + 1, hk => by
    obtain ⟨h1, h2, h3, h4⟩ := h.end_ (k := k) (by omega)
    obtain ⟨g1, g2, g3, g4⟩ := h1.endStep (k := k) (by omega)
    rw [sEnd]
    exact ⟨g1, by omega, by omega, by omega⟩
theorem sOlder_n (σ : St) : sOlder σ 0 0 = σ 0 0 ∧ sOlder σ 0 1 = σ 0 1 ∧ sOlder σ 0 2 = σ 0 2 + 1 := by simp [sOlder, sGrow, su]
theorem eIv.years {σ : St} {T : Nat} (h : eIv σ T) : ∀ {n : Nat}, σ 0 2 + n ≤ 999 → eIv (sYears σ n) T ∧ sYears σ n 0 2 = σ 0 2 + n ∧ sYears σ n 0 0 = σ 0 0
  | 0, _ => ⟨h, rfl, rfl⟩
  | n + 1, hn => by
    obtain ⟨h1, h2, h3⟩ := h.years (n := n) (by omega)
    obtain ⟨z1, z2, z3⟩ := sOlder_n (sYears σ n)
    obtain ⟨g1, g2, g3, g4⟩ := (h1.older (by omega)).end_ (k := sYears σ n 0 1) (by omega)
    rw [sYears]
    exact ⟨g1, by omega, by omega⟩
theorem eIv.pass {σ : St} {T n : Nat} (h : eIv σ T) : eIv (sPass σ n) T := by
  unfold sPass
  split
  · rename_i q
    simp only [sYearsOK, decide_eq_true_eq] at q
    exact (h.years q.2.2).1
  · exact h
theorem eIv.person {σ : St} {T a f b : Nat} (h : eIv σ T) : eIv (sPerson σ a f b) T := by
  unfold sPerson
  split
  · rename_i q
    simp only [sPersonOK, decide_eq_true_eq] at q
    exact h.addP q.2.2.1 q.1 q.2.1 (by omega)
  · exact h
theorem eIv.sitting {σ : St} {T p b : Nat} (h : eIv σ T) : eIv (sSit σ p b) T := by
  unfold sSit
  split
  · rename_i q
    simp only [sSitOK, Bool.and_eq_true, decide_eq_true_eq] at q
    exact h.sit q.1.2
  · exact h
theorem sWhy_40 {σ : St} {g p m c : Nat} (h : sWhy σ g p m c = 0) : σ 0 1 < 40 := by
  unfold sWhy at h
  split at h
  · omega
  split at h
  · omega
  split at h <;> omega
theorem eIv.give {σ : St} {T g p m c : Nat} (h : eIv σ T) : eIv (sGive σ g p m c) T := by
  unfold sGive
  split
  · rename_i q
    simp only [sGiveOK, sCode, Bool.and_eq_true, decide_eq_true_eq] at q
    exact h.addN q.1.1.1 q.1.1.2 ⟨q.1.2.1, q.1.2.2.1⟩ q.1.2.2.2 (sWhy_40 q.2)
  · exact h
theorem eIv.setting {σ : St} {T w v : Nat} (h : eIv σ T) : eIv (sSet σ w v) T := by
  unfold sSet
  split
  · rename_i q
    exact h.set q
  · exact h
theorem eIv.call {σ : St} {T b m c : Nat} (h : eIv σ T) : eIv (sCall σ b m c) (T + 1) := by
  unfold sCall
  split
  · exact h.mono (Nat.le_succ T)
  split
  · exact h.use
  · exact h.mix
/-! what a registry of the class says -/
theorem ePp.fr1 {h g : eH} {q : Nat} {σ : St} (hP : ePp h q σ) (hg : ∀ a : Nat, q ≤ a → a < q + 6 → g a = h a) : ePp g q σ := hP.fr hg rfl (fun _ _ _ _ _ => rfl)
theorem eNm.fr1 {h g : eH} {q : Nat} {σ : St} (hP : eNm h q σ) (hg : ∀ a : Nat, q ≤ a → a < q + 9 → g a = h a) : eNm g q σ := hP.fr hg rfl (fun _ _ _ _ _ => rfl)
theorem eRg.mk {h : eH} {r : Nat} {σ : St} (r0 : h r = some (.inr (4, [.ref (r + 1), .ref (r + 7), .ref (r + 16), .int (nI (σ 0 2)), .int (nI (σ 0 3)), .int (nI (σ 0 4)), .int (nI (σ 0 5))]))) (hP : ePp h (r + 1) σ) (hN : eNm h (r + 7) σ) (hS : eArr h (r + 16) 0 3 3 (σ 14)) : eRg h r σ := ⟨r0, hP, hN, hS⟩
theorem ePp.to {h : eH} {q : Nat} {σ τ : St} (hP : ePp h q σ) (h0 : τ 0 0 = σ 0 0) (e : ∀ f, 1 ≤ f → f ≤ 5 → ∀ j, j < σ 0 0 → τ f j = σ f j) : ePp h q τ := hP.fr (fun _ _ _ => rfl) h0 e
theorem eNm.to {h : eH} {q : Nat} {σ τ : St} (hP : eNm h q σ) (h0 : τ 0 1 = σ 0 1) (e : ∀ f, 6 ≤ f → f ≤ 13 → ∀ j, j < σ 0 1 → τ f j = σ f j) : eNm h q τ := hP.fr (fun _ _ _ => rfl) h0 e
theorem zN {x : Int32} {b : Nat} (h : 0 ≤ x.toInt ∧ x.toInt < (b : Int)) : ∃ k, k < b ∧ x = nI k ∧ x.toInt = (k : Int) := by
  refine ⟨x.toInt.toNat, by omega, ?_, by omega⟩
  have hx := x.toInt_lt
  apply Int32.toInt_inj.mp
  rw [nI_toInt (by omega)]
  omega

