/-! WHAT ELSE HOLDS AT ALL TIMES: givers aren't holders, stuck names are known as such, three names at most, and the two sums of mix-ups -/
def sKp (σ : St) : Prop :=
  (∀ k, k < σ 0 1 → σ 8 k ≠ σ 9 k ∧ ((σ 12 k = 1 ∨ σ 12 k = 4) → σ 13 k = 1) ∧ (σ 12 k = 0 → σ 13 k = 0)) ∧ (∀ p, sLives σ p ≤ 3) ∧ sSum (σ 4) (σ 0 0) = σ 0 3 ∧ sSum (σ 5) (σ 0 0) = σ 0 3
theorem cnt_mono {p q : Nat → Bool} : ∀ {n : Nat}, (∀ k, k < n → p k = true → q k = true) → cnt p n ≤ cnt q n
  | 0, _ => Nat.le_refl 0
  | n + 1, h => by
    have h1 := cnt_mono (n := n) (fun k hk => h k (Nat.lt_succ_of_lt hk))
    by_cases z : p n = true
    · rw [cnt_t z, cnt_t (h n (Nat.lt_succ_self n) z)]; omega
    · rw [cnt_f (Bool.eq_false_iff.mpr z), cnt]; omega
theorem sSum_congr {f g : Nat → Nat} : ∀ {n : Nat}, (∀ k, k < n → f k = g k) → sSum f n = sSum g n
  | 0, _ => rfl
  | n + 1, h => by rw [sSum, sSum, sSum_congr (fun k hk => h k (Nat.lt_succ_of_lt hk)), h n (Nat.lt_succ_self n)]
theorem sSum_1 {f g : Nat → Nat} {p : Nat} : ∀ {n : Nat}, p < n → (∀ k, k < n → g k = if k = p then f k + 1 else f k) → sSum g n = sSum f n + 1
  | 0, hp, _ => absurd hp (Nat.not_lt_zero p)
  | n + 1, hp, h => by
    have hn := h n (Nat.lt_succ_self n)
    by_cases z : p = n
    · rw [sSum, sSum, hn, if_pos z.symm, sSum_congr (f := g) (g := f) (n := n) (fun k hk => by rw [h k (by omega), if_neg (by omega)])]
      omega
    · rw [sSum, sSum, hn, if_neg (fun e => z e.symm), sSum_1 (n := n) (by omega) (fun k hk => h k (by omega))]
      omega
theorem sKp.of {σ τ : St} (h : sKp σ) (e0 : τ 0 0 = σ 0 0) (e1 : τ 0 1 = σ 0 1) (e3 : τ 0 3 = σ 0 3)
    (e : ∀ k, k < σ 0 1 → τ 8 k = σ 8 k ∧ τ 9 k = σ 9 k ∧ (sAlive τ k = true → sAlive σ k = true) ∧ ((τ 12 k = 1 ∨ τ 12 k = 4) → τ 13 k = 1) ∧ (τ 12 k = 0 → τ 13 k = 0))
    (e4 : ∀ p, p < σ 0 0 → τ 4 p = σ 4 p ∧ τ 5 p = σ 5 p) : sKp τ := by
  refine ⟨fun k hk => ?_, fun p => ?_, ?_, ?_⟩
  · rw [e1] at hk
    obtain ⟨a1, a2, a3, a4, a5⟩ := e k hk
    exact ⟨by rw [a1, a2]; exact (h.1 k hk).1, a4, a5⟩
  · refine Nat.le_trans ?_ (h.2.1 p)
    unfold sLives
    rw [e1]
    refine cnt_mono fun k hk z => ?_
    obtain ⟨a1, a2, a3, a4, a5⟩ := e k hk
    simp only [Bool.and_eq_true, decide_eq_true_eq] at z ⊢
    exact ⟨a2 ▸ z.1, a3 z.2⟩
  · rw [e0, e3, ← h.2.2.1]; exact sSum_congr fun k hk => (e4 k hk).1
  · rw [e0, e3, ← h.2.2.2]; exact sSum_congr fun k hk => (e4 k hk).2
theorem sKp_new : sKp regNew := ⟨fun k hk => absurd (show k < 0 from hk) (Nat.not_lt_zero k), fun p => Nat.zero_le 3, rfl, rfl⟩
theorem sKp.state {σ : St} {k v : Nat} (h : sKp σ) (hv : v = 2 ∨ v = 3 ∨ (v = 4 ∧ σ 13 k = 1)) : sKp (su σ 12 k v) := by
  refine h.of rfl rfl rfl (fun j hj => ⟨rfl, rfl, fun z => (sAlive_su (by omega) z).2, ?_, ?_⟩) (fun _ _ => ⟨rfl, rfl⟩)
  · have z := (h.1 j hj).2.1
    by_cases e : j = k
    · subst e
      rw [su_same, su_f (by decide)]
      omega
    · rw [su_ne (Or.inr e), su_f (by decide)]
      exact z
  · have z := (h.1 j hj).2.2
    by_cases e : j = k
    · subst e
      rw [su_same, su_f (by decide)]
      omega
    · rw [su_ne (Or.inr e), su_f (by decide)]
      exact z
theorem sKp.set {σ : St} {w v : Nat} (h : sKp σ) : sKp (su σ 14 w v) := h.of rfl rfl rfl (fun j hj => ⟨rfl, rfl, fun z => z, (h.1 j hj).2⟩) (fun _ _ => ⟨rfl, rfl⟩)
theorem sKp.sit {σ : St} {w v : Nat} (h : sKp σ) : sKp (su σ 3 w v) := h.of rfl rfl rfl (fun j hj => ⟨rfl, rfl, fun z => z, (h.1 j hj).2⟩) (fun _ _ => ⟨rfl, rfl⟩)
theorem sKp.count {σ : St} {i v : Nat} (h : sKp σ) (hi : i = 2 ∨ 4 ≤ i) : sKp (su σ 0 i v) :=
  h.of (su_ne (by omega)) (su_ne (by omega)) (su_ne (by omega)) (fun j hj => ⟨rfl, rfl, fun z => z, (h.1 j hj).2⟩) (fun _ _ => ⟨rfl, rfl⟩)
theorem sKp.older {σ : St} (h : sKp σ) : sKp (sOlder σ) :=
  h.of (sOlder_n σ).1 (sOlder_n σ).2.1 (by simp [sOlder, sGrow, su]) (fun j hj => ⟨rfl, rfl, fun z => z, (h.1 j hj).2⟩) (fun _ _ => ⟨rfl, rfl⟩)
theorem sKp.use {σ : St} {k y u : Nat} (h : sKp σ) : sKp (sUse σ k y u) := by
  refine h.of (by simp [sUse_at]) (by simp [sUse_at]) (by simp [sUse_at]) (fun j hj => ⟨by simp [sUse_at], by simp [sUse_at], fun z => by rw [sAlive_use] at z; exact z, ?_, ?_⟩) (fun p _ => ⟨by simp [sUse_at], by simp [sUse_at]⟩)
  · have z := (h.1 j hj).2.1
    rw [sUse_at, sUse_at]
    by_cases c : j = k ∧ σ 12 k = 0 ∧ u ≤ σ 10 k + 1
    · simp [c]
    · rw [if_neg (by omega), if_neg (by omega), if_neg (by omega), if_neg (by omega), if_neg (by omega), if_neg (by omega), if_neg (by omega), if_neg (by omega)]
      exact z
  · have z := (h.1 j hj).2.2
    rw [sUse_at, sUse_at]
    by_cases c : j = k ∧ σ 12 k = 0 ∧ u ≤ σ 10 k + 1
    · simp [c]
    · rw [if_neg (by omega), if_neg (by omega), if_neg (by omega), if_neg (by omega), if_neg (by omega), if_neg (by omega), if_neg (by omega), if_neg (by omega)]
      exact z
theorem sKp.mix {σ : St} {p : Nat} {o : Option Nat} (h : sKp σ) (hp : p < σ 0 0) (ho : ∀ q, o = some q → q < σ 0 0) : sKp (sMix σ p o) := by
  cases o with
  | none => exact h
  | some q =>
    have hq := ho q rfl
    have n0 : sMix σ p (some q) 0 0 = σ 0 0 := by simp [sMix, su]
    have n3 : sMix σ p (some q) 0 3 = σ 0 3 + 1 := by simp [sMix, su]
    refine ⟨h.1, h.2.1, ?_, ?_⟩
    · rw [n0, n3, ← h.2.2.1]
      refine sSum_1 hp fun j _ => ?_
      by_cases z : j = p
      · subst z; simp [sMix, su]
      · simp [sMix, su, z]
    · rw [n0, n3, ← h.2.2.2]
      refine sSum_1 hq fun j _ => ?_
      by_cases z : j = q
      · subst z; simp [sMix, su]
      · simp [sMix, su, z]
theorem sKp.addP {σ : St} {a f b : Nat} (h : sKp σ) : sKp (sAddP σ a f b) := by
  have n0 : sAddP σ a f b 0 0 = σ 0 0 + 1 := by simp [sAddP, su]
  have n3 : sAddP σ a f b 0 3 = σ 0 3 := by simp [sAddP, su]
  refine ⟨h.1, h.2.1, ?_, ?_⟩
  · rw [n0, n3, sSum, ← h.2.2.1, sSum_congr (f := sAddP σ a f b 4) (g := σ 4) (fun k hk => by
      have z : k ≠ σ 0 0 := by omega
      simp [sAddP, su, z])]
    simp [sAddP, su]
  · rw [n0, n3, sSum, ← h.2.2.2, sSum_congr (f := sAddP σ a f b 5) (g := σ 5) (fun k hk => by
      have z : k ≠ σ 0 0 := by omega
      simp [sAddP, su, z])]
    simp [sAddP, su]
theorem sKp.addN {σ : St} {g p m c y : Nat} (h : sKp σ) (hgp : g ≠ p) (hl : sLives σ p < 3) : sKp (sAddN σ g p m c y) := by
  have val : ∀ i, i ≠ σ 0 1 → sAddN σ g p m c y 8 i = σ 8 i ∧ sAddN σ g p m c y 9 i = σ 9 i ∧ sAddN σ g p m c y 12 i = σ 12 i ∧ sAddN σ g p m c y 13 i = σ 13 i := fun i hi => by simp [sAddN, su, hi]
  have vnew : sAddN σ g p m c y 8 (σ 0 1) = g ∧ sAddN σ g p m c y 9 (σ 0 1) = p ∧ sAddN σ g p m c y 12 (σ 0 1) = 0 ∧ sAddN σ g p m c y 13 (σ 0 1) = 0 := by simp [sAddN, su]
  have n1 : sAddN σ g p m c y 0 1 = σ 0 1 + 1 := by simp [sAddN, su]
  refine ⟨fun k hk => ?_, fun q => ?_, h.2.2.1, h.2.2.2⟩
  · rw [n1] at hk
    by_cases z : k = σ 0 1
    · subst z
      obtain ⟨a1, a2, a3, a4⟩ := vnew
      rw [a1, a2, a3, a4]
      exact ⟨hgp, by omega, fun _ => rfl⟩
    · obtain ⟨a1, a2, a3, a4⟩ := val k z
      rw [a1, a2, a3, a4]
      exact h.1 k (by omega)
  · have e : cnt (fun k => decide (sAddN σ g p m c y 9 k = q) && sAlive (sAddN σ g p m c y) k) (σ 0 1) = sLives σ q := cnt_congr fun k hk => by
      obtain ⟨a1, a2, a3, a4⟩ := val k (by omega)
      unfold sAlive
      rw [a2, a3]
    unfold sLives
    rw [n1, cnt, e]
    obtain ⟨a1, a2, a3, a4⟩ := vnew
    by_cases z : p = q
    · subst z
      split <;> omega
    · rw [if_neg (by rw [a2, decide_eq_false z, Bool.false_and]; decide)]
      exact h.2.1 q
theorem sHeirTo_c {σ : St} {p : Nat} : ∀ {n q : Nat}, sHeirTo σ p n = some q → sYounger σ q p = true ∧ sLives σ q < 3
  | 0, q, h => by cases h
  | n + 1, q, h => by
    rw [sHeirTo] at h
    split at h
    · rename_i z
      cases h
      simp only [sHeirC, Bool.and_eq_true, decide_eq_true_eq] at z
      exact z.2
    · exact sHeirTo_c h
theorem sKp.outgrow {σ : St} {k : Nat} (h : sKp σ) (hk : k < σ 0 1) : sKp (sOutgrow σ k) := by
  cases hq : sHeirOf σ k with
  | none => rw [sOutgrow_n hq]; exact h.state (by omega)
  | some q =>
    have e : sOutgrow σ k = sAddN (su σ 12 k 4) (σ 9 k) q (σ 6 k) (σ 7 k) (σ 0 2) := by unfold sOutgrow; rw [hq]
    rw [e]
    unfold sHeirOf at hq
    split at hq
    · rename_i z
      obtain ⟨g1, g2⟩ := sHeirTo_c hq
      refine (h.state (Or.inr (Or.inr ⟨rfl, (h.1 k hk).2.1 (Or.inl z.1)⟩))).addN (fun e2 => ?_) (Nat.lt_of_le_of_lt ?_ g2)
      · simp only [sYounger, Bool.and_eq_true, decide_eq_true_eq] at g1
        rw [e2] at g1
        omega
      · unfold sLives
        refine cnt_mono fun j hj w => ?_
        simp only [Bool.and_eq_true] at w ⊢
        exact ⟨w.1, (sAlive_su (by decide) w.2).2⟩
    · cases hq
theorem sKp.endStep {σ : St} {k : Nat} (h : sKp σ) (hk : k < σ 0 1) : sKp (sEndStep σ k) := by
  unfold sEndStep
  split
  · exact h
  split
  · exact h.state (by omega)
  split
  · exact h.outgrow hk
  · exact h
theorem sKp.end_ {σ : St} {T : Nat} (h : sKp σ) (hI : eIv σ T) : ∀ {k : Nat}, k ≤ σ 0 1 → sKp (sEnd σ k)
  | 0, _ => h
  | k + 1, hk => by
    have := (hI.end_ (k := k) (by omega)).2.1
    rw [sEnd]
    exact (h.end_ hI (k := k) (by omega)).endStep (by omega)
theorem sKp.years {σ : St} {T : Nat} (h : sKp σ) (hI : eIv σ T) : ∀ {n : Nat}, σ 0 2 + n ≤ 999 → sKp (sYears σ n)
  | 0, _ => h
  | n + 1, hn => by
    obtain ⟨h1, h2, h3⟩ := hI.years (n := n) (by omega)
    obtain ⟨z1, z2, z3⟩ := sOlder_n (sYears σ n)
    rw [sYears]
    exact (h.years hI (n := n) (by omega)).older.end_ (h1.older (by omega)) (by omega)
theorem sKp.pass {σ : St} {T n : Nat} (h : sKp σ) (hI : eIv σ T) : sKp (sPass σ n) := by
  unfold sPass
  split
  · rename_i z
    simp only [sYearsOK, decide_eq_true_eq] at z
    exact h.years hI z.2.2
  · exact h
theorem sKp.person {σ : St} {a f b : Nat} (h : sKp σ) : sKp (sPerson σ a f b) := by
  unfold sPerson
  split
  · exact h.addP
  · exact h
theorem sKp.sitting {σ : St} {p b : Nat} (h : sKp σ) : sKp (sSit σ p b) := by
  unfold sSit
  split
  · exact h.sit
  · exact h
theorem sWhy_gp {σ : St} {g p m c : Nat} (h : sWhy σ g p m c = 0) : g ≠ p ∧ sLives σ p < 3 := by
  unfold sWhy at h
  split at h
  · omega
  · rename_i z
    unfold sWhyAny at z
    split at z
    · omega
    · rename_i z1
      split at z
      · omega
      · split at z
        · omega
        · exact ⟨z1, by omega⟩
theorem sKp.give {σ : St} {g p m c : Nat} (h : sKp σ) : sKp (sGive σ g p m c) := by
  unfold sGive
  split
  · rename_i z
    simp only [sGiveOK, Bool.and_eq_true, decide_eq_true_eq] at z
    exact h.addN (sWhy_gp z.2).1 (sWhy_gp z.2).2
  · exact h
theorem sKp.giveT {σ : St} {g p m c : Nat} (h : sKp σ) : sKp (sGiveT σ g p m c) := by
  unfold sGiveT
  split
  · rename_i z
    exact h.addN (sWhy_gp z).1 (sWhy_gp z).2
  · exact h.count (by decide)
theorem sKp.setting {σ : St} {w v : Nat} (h : sKp σ) : sKp (sSet σ w v) := by
  unfold sSet
  split
  · exact h.set
  · exact h
theorem sKp.call {σ : St} {b m c : Nat} (h : sKp σ) : sKp (sCall σ b m c) := by
  unfold sCall
  split
  · exact h
  · rename_i p hp
    split
    · exact h.use
    · exact h.mix (sCallW_lt hp) (fun q hq => sFBN_lt hq)
theorem sKp.callT {σ : St} {b m c : Nat} (h : sKp σ) : sKp (sCallT σ b m c) := by
  unfold sCallT
  split
  · exact h.call.count (by decide)
  · exact h.call
theorem sKp.obey {σ : St} {T : Nat} {k : Option Nat} {tl : Nat → Nat} (h : sKp σ) (hI : eIv σ T) : sKp (sObey σ k tl).1 := by
  unfold sObey
  split
  · exact h.person
  split
  · exact h.give
  split
  · exact h.call
  split
  · exact h.pass hI
  split
  · exact h.sitting
  split
  · exact h.setting
  · exact h
/-- all that holds of a state at all times -/
def gI (σ : St) (T : Nat) : Prop := eIv σ T ∧ sGd σ ∧ sKp σ
theorem gI.mono {σ : St} {T U : Nat} (h : gI σ T) (hT : T ≤ U) : gI σ U := ⟨h.1.mono hT, h.2⟩
theorem gI_ld {x : Nat → Nat} {ℓ : Nat} : ∀ (n : Nat) (u : Cur) (σ : St) (q T : Nat), gI σ T → gI (sLd x ℓ n u σ q).1 (T + n)
  | 0, u, σ, q, T, h => h
  | n + 1, u, σ, q, T, h => by
    by_cases e : (tCmd x ℓ u).1 = true
    · rw [sLd_y e, show T + (n + 1) = T + 1 + n by omega]
      exact gI_ld n _ _ _ _ ⟨h.1.obey, h.2.1.obey h.1, h.2.2.obey h.1⟩
    · rw [sLd_stop (Bool.eq_false_iff.mpr e)]
      exact h.mono (by omega)
