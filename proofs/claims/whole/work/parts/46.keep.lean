/-! it stays so -/
def sGd (σ : St) : Prop := sUq σ ∧ sZr σ
theorem sGd_new : sGd regNew := ⟨fun j k hj => absurd (show j < 0 from hj) (Nat.not_lt_zero j), fun p _ => ⟨rfl, rfl⟩⟩
theorem sUq.of {σ τ : St} (h : sUq σ) (e1 : τ 0 1 = σ 0 1) (e : ∀ k, k < σ 0 1 → (sAlive τ k = true → sAlive σ k = true) ∧ τ 6 k = σ 6 k ∧ τ 7 k = σ 7 k ∧ τ 9 k = σ 9 k) (e3 : ∀ k, k < σ 0 1 → τ 3 (σ 9 k) = σ 3 (σ 9 k)) : sUq τ := by
  intro j k hj hk aj ak e6 e7 eb
  rw [e1] at hj hk
  obtain ⟨a1, a2, a3, a4⟩ := e j hj
  obtain ⟨b1, b2, b3, b4⟩ := e k hk
  refine h j k hj hk (a1 aj) (b1 ak) (by omega) (by omega) ?_
  rw [a4, b4, e3 j hj, e3 k hk] at eb
  exact eb
theorem sZr.of {σ τ : St} (h : sZr σ) (e0 : τ 0 0 = σ 0 0) (e : ∀ p, σ 0 0 ≤ p → τ 4 p = σ 4 p ∧ τ 5 p = σ 5 p) : sZr τ := fun p hp => by
  rw [e0] at hp
  have := h p hp
  have := e p hp
  omega
theorem sAlive_su {σ : St} {k v j : Nat} (hv : 1 < v) (h : sAlive (su σ 12 k v) j = true) : j ≠ k ∧ sAlive σ j = true := by
  by_cases e : j = k
  · subst e
    simp [sAlive, su_same] at h
    omega
  · refine ⟨e, ?_⟩
    unfold sAlive at h ⊢
    rw [su_ne (by omega)] at h
    exact h
theorem sGd.state {σ : St} {k v : Nat} (h : sGd σ) (hv : 1 < v) : sGd (su σ 12 k v) :=
  ⟨h.1.of rfl (fun j _ => ⟨fun z => (sAlive_su hv z).2, rfl, rfl, rfl⟩) (fun _ _ => rfl), h.2.of rfl (fun _ _ => ⟨rfl, rfl⟩)⟩
theorem sGd.set {σ : St} {w v : Nat} (h : sGd σ) : sGd (su σ 14 w v) :=
  ⟨h.1.of rfl (fun j _ => ⟨fun z => z, rfl, rfl, rfl⟩) (fun _ _ => rfl), h.2.of rfl (fun _ _ => ⟨rfl, rfl⟩)⟩
theorem sGd.count {σ : St} {i v : Nat} (h : sGd σ) (hi : 2 ≤ i) : sGd (su σ 0 i v) := by
  have e0 : su σ 0 i v 0 0 = σ 0 0 := su_ne (by omega)
  have e1 : su σ 0 i v 0 1 = σ 0 1 := su_ne (by omega)
  exact ⟨h.1.of e1 (fun j _ => ⟨fun z => z, rfl, rfl, rfl⟩) (fun _ _ => rfl), h.2.of e0 (fun _ _ => ⟨rfl, rfl⟩)⟩
theorem sGd.addP {σ : St} {a f b : Nat} (h : sGd σ) (hH : sHo σ) : sGd (sAddP σ a f b) := by
  refine ⟨h.1.of rfl (fun j _ => ⟨fun z => z, rfl, rfl, rfl⟩) (fun k hk => ?_), fun p hp => ?_⟩
  · have := hH k hk
    have z : σ 9 k ≠ σ 0 0 := by omega
    simp [sAddP, su, z]
  · have hp : σ 0 0 + 1 ≤ p := hp
    have z : p ≠ σ 0 0 := by omega
    have := h.2 p (by omega)
    simp [sAddP, su, z, this]
theorem sGd.sit {σ : St} {p b : Nat} (h : sGd σ) (hk : sKept σ p b = false) : sGd (su σ 3 p b) := by
  have hno : ∀ j, j < σ 0 1 → σ 9 j = p → sAlive σ j = true → ∀ k, k < σ 0 1 → σ 9 k ≠ p → sAlive σ k = true → σ 6 j = σ 6 k → σ 7 j = σ 7 k → σ 3 (σ 9 k) = b → False := by
    intro j hj ej aj k hk2 ek ak e6 e7 eb
    have h1 : fst (fun k => decide (σ 9 k = p) && (sAlive σ k && (sNameOn σ b (some p) (σ 6 k) (σ 7 k)).isSome)) (σ 0 1) = none := by
      cases hq : fst (fun k => decide (σ 9 k = p) && (sAlive σ k && (sNameOn σ b (some p) (σ 6 k) (σ 7 k)).isSome)) (σ 0 1) with
      | none => rfl
      | some z => unfold sKept at hk; rw [hq] at hk; cases hk
    have h2 := fst_no h1 j hj
    rw [decide_eq_true ej, aj] at h2
    have h3 : sNameOn σ b (some p) (σ 6 j) (σ 7 j) = none := by
      cases hq : sNameOn σ b (some p) (σ 6 j) (σ 7 j) with
      | none => rfl
      | some z => rw [hq] at h2; cases h2
    have h4 := fst_no h3 k hk2
    simp [ek, eb, sIs, ak, ← e6, ← e7] at h4
  refine ⟨fun j k hj hk2 aj ak e6 e7 eb => ?_, h.2.of rfl (fun _ _ => ⟨rfl, rfl⟩)⟩
  have hj : j < σ 0 1 := hj
  have hk2 : k < σ 0 1 := hk2
  have aj : sAlive σ j = true := aj
  have ak : sAlive σ k = true := ak
  have e6 : σ 6 j = σ 6 k := e6
  have e7 : σ 7 j = σ 7 k := e7
  have eb : su σ 3 p b 3 (σ 9 j) = su σ 3 p b 3 (σ 9 k) := eb
  by_cases zj : σ 9 j = p <;> by_cases zk : σ 9 k = p
  · exact h.1 j k hj hk2 aj ak e6 e7 (by rw [zj, zk])
  · rw [zj, su_same, su_ne (Or.inr zk)] at eb
    exact (hno j hj zj aj k hk2 zk ak e6 e7 eb.symm).elim
  · rw [zk, su_same, su_ne (Or.inr zj)] at eb
    exact (hno k hk2 zk ak j hj zj aj e6.symm e7.symm eb).elim
  · rw [su_ne (Or.inr zj), su_ne (Or.inr zk)] at eb
    exact h.1 j k hj hk2 aj ak e6 e7 eb
theorem sGd.addN {σ : St} {g p m c y : Nat} (h : sGd σ) (hno : sNameOn σ (σ 3 p) none m c = none) : sGd (sAddN σ g p m c y) := by
  refine ⟨fun j k hj hk aj ak e6 e7 eb => ?_, h.2.of rfl (fun _ _ => ⟨rfl, rfl⟩)⟩
  have hj : j < σ 0 1 + 1 := hj
  have hk : k < σ 0 1 + 1 := hk
  have val : ∀ i, i ≠ σ 0 1 → sAddN σ g p m c y 6 i = σ 6 i ∧ sAddN σ g p m c y 7 i = σ 7 i ∧ sAddN σ g p m c y 9 i = σ 9 i ∧ sAlive (sAddN σ g p m c y) i = sAlive σ i := fun i hi => by simp [sAddN, su, sAlive, hi]
  have vnew : sAddN σ g p m c y 6 (σ 0 1) = m ∧ sAddN σ g p m c y 7 (σ 0 1) = c ∧ sAddN σ g p m c y 9 (σ 0 1) = p := by simp [sAddN, su]
  have v3 : ∀ q, sAddN σ g p m c y 3 q = σ 3 q := fun _ => rfl
  rw [v3, v3] at eb
  by_cases zj : j = σ 0 1 <;> by_cases zk : k = σ 0 1
  · omega
  · obtain ⟨b1, b2, b3, b4⟩ := val k zk
    obtain ⟨a1, a2, a3⟩ := vnew
    rw [zj, a1, b1] at e6
    rw [zj, a2, b2] at e7
    rw [zj, a3, b3] at eb
    rw [b4] at ak
    exact (sNO_n hno (by omega) eb.symm (sIs_i.mpr ⟨ak, e6.symm, e7.symm⟩)).elim
  · obtain ⟨b1, b2, b3, b4⟩ := val j zj
    obtain ⟨a1, a2, a3⟩ := vnew
    rw [zk, a1, b1] at e6
    rw [zk, a2, b2] at e7
    rw [zk, a3, b3] at eb
    rw [b4] at aj
    exact (sNO_n hno (by omega) eb (sIs_i.mpr ⟨aj, e6, e7⟩)).elim
  · obtain ⟨b1, b2, b3, b4⟩ := val k zk
    obtain ⟨a1, a2, a3, a4⟩ := val j zj
    rw [a1, b1] at e6
    rw [a2, b2] at e7
    rw [a3, b3] at eb
    exact h.1 j k (by omega) (by omega) (a4 ▸ aj) (b4 ▸ ak) e6 e7 eb
theorem sWhy_no {σ : St} {g p m c : Nat} (h : sWhy σ g p m c = 0) : sNameOn σ (σ 3 p) none m c = none := by
  unfold sWhy at h
  split at h
  · omega
  split at h
  · omega
  · rename_i z
    cases hq : sNameOn σ (σ 3 p) none m c with
    | none => rfl
    | some k => rw [hq] at z; exact absurd rfl z
theorem sAlive_use {σ : St} {k y u j : Nat} : sAlive (sUse σ k y u) j = sAlive σ j := by
  unfold sAlive
  rw [sUse_at]
  by_cases z : j = k ∧ σ 12 k = 0 ∧ u ≤ σ 10 k + 1
  · rw [if_neg (by omega), if_neg (by omega), if_pos ⟨rfl, z⟩, z.1, z.2.1]; rfl
  · rw [if_neg (by omega), if_neg (by omega), if_neg (by omega), if_neg (by omega)]
theorem sGd.use {σ : St} {k y u : Nat} (h : sGd σ) : sGd (sUse σ k y u) := by
  refine ⟨h.1.of (by simp [sUse_at]) (fun j _ => ⟨fun z => by rw [sAlive_use] at z; exact z, by simp [sUse_at], by simp [sUse_at], by simp [sUse_at]⟩) (fun j _ => by simp [sUse_at]), h.2.of (by simp [sUse_at]) (fun p _ => ⟨by simp [sUse_at], by simp [sUse_at]⟩)⟩
theorem sGd.mix {σ : St} {p : Nat} {o : Option Nat} (h : sGd σ) (hp : p < σ 0 0) (ho : ∀ q, o = some q → q < σ 0 0) : sGd (sMix σ p o) := by
  cases o with
  | none => exact h
  | some q =>
    have hq := ho q rfl
    refine ⟨h.1.of rfl (fun j _ => ⟨fun z => z, rfl, rfl, rfl⟩) (fun _ _ => rfl), h.2.of rfl (fun i hi => ?_)⟩
    have z1 : i ≠ p := by omega
    have z2 : i ≠ q := by omega
    simp [sMix, su, z1, z2]
theorem sGd.older {σ : St} (h : sGd σ) : sGd (sOlder σ) :=
  ⟨h.1.of (sOlder_n σ).2.1 (fun j _ => ⟨fun z => z, rfl, rfl, rfl⟩) (fun _ _ => rfl), h.2.of (sOlder_n σ).1 (fun _ _ => ⟨rfl, rfl⟩)⟩
theorem sHeirTo_b {σ : St} {p : Nat} : ∀ {n q : Nat}, sHeirTo σ p n = some q → σ 3 q = σ 3 p
  | 0, q, h => by cases h
  | n + 1, q, h => by
    rw [sHeirTo] at h
    split at h
    · rename_i z
      cases h
      simp only [sHeirC, sYounger, Bool.and_eq_true, decide_eq_true_eq] at z
      exact z.2.1.2.2
    · exact sHeirTo_b h
theorem sGd.outgrow {σ : St} {k : Nat} (h : sGd σ) (hk : k < σ 0 1) (ha : sAlive σ k = true) : sGd (sOutgrow σ k) := by
  cases hq : sHeirOf σ k with
  | none => rw [sOutgrow_n hq]; exact h.state (by decide)
  | some q =>
    have e : sOutgrow σ k = sAddN (su σ 12 k 4) (σ 9 k) q (σ 6 k) (σ 7 k) (σ 0 2) := by unfold sOutgrow; rw [hq]
    rw [e]
    have hb : σ 3 q = σ 3 (σ 9 k) := by
      unfold sHeirOf at hq
      split at hq
      · exact sHeirTo_b hq
      · cases hq
    refine (h.state (k := k) (v := 4) (by decide)).addN ?_
    cases hn : sNameOn (su σ 12 k 4) (su σ 12 k 4 3 q) none (σ 6 k) (σ 7 k) with
    | none => rfl
    | some j =>
      obtain ⟨h1, h2, h3⟩ := sNO_s hn
      have h1 : j < σ 0 1 := h1
      have h2 : σ 3 (σ 9 j) = σ 3 q := h2
      rw [sIs_i] at h3
      obtain ⟨g1, g2⟩ := sAlive_su (by decide) h3.1
      exact absurd (h.1 j k h1 hk g2 ha h3.2.1 h3.2.2 (by rw [h2, hb])) g1
theorem sGd.endStep {σ : St} {k : Nat} (h : sGd σ) (hk : k < σ 0 1) : sGd (sEndStep σ k) := by
  unfold sEndStep
  split
  · exact h
  split
  · exact h.state (by decide)
  split
  · rename_i z _ _
    exact h.outgrow hk (by simpa using z)
  · exact h
theorem sGd.end_ {σ : St} {T : Nat} (h : sGd σ) (hI : eIv σ T) : ∀ {k : Nat}, k ≤ σ 0 1 → sGd (sEnd σ k)
  | 0, _ => h
  | k + 1, hk => by
    have := (hI.end_ (k := k) (by omega)).2.1
    rw [sEnd]
    exact (h.end_ hI (k := k) (by omega)).endStep (by omega)
theorem sGd.years {σ : St} {T : Nat} (h : sGd σ) (hI : eIv σ T) : ∀ {n : Nat}, σ 0 2 + n ≤ 999 → sGd (sYears σ n)
  | 0, _ => h
  | n + 1, hn => by
    obtain ⟨h1, h2, h3⟩ := hI.years (n := n) (by omega)
    obtain ⟨z1, z2, z3⟩ := sOlder_n (sYears σ n)
    rw [sYears]
    exact (h.years hI (n := n) (by omega)).older.end_ (h1.older (by omega)) (by omega)
theorem sGd.pass {σ : St} {T n : Nat} (h : sGd σ) (hI : eIv σ T) : sGd (sPass σ n) := by
  unfold sPass
  split
  · rename_i z
    simp only [sYearsOK, decide_eq_true_eq] at z
    exact h.years hI z.2.2
  · exact h
theorem sGd.person {σ : St} {T a f b : Nat} (h : sGd σ) (hI : eIv σ T) : sGd (sPerson σ a f b) := by
  unfold sPerson
  split
  · exact h.addP hI.ho
  · exact h
theorem sGd.sitting {σ : St} {p b : Nat} (h : sGd σ) : sGd (sSit σ p b) := by
  unfold sSit
  split
  · rename_i z
    simp only [sSitOK, Bool.and_eq_true, Bool.not_eq_true'] at z
    exact h.sit z.2
  · exact h
theorem sGd.give {σ : St} {g p m c : Nat} (h : sGd σ) : sGd (sGive σ g p m c) := by
  unfold sGive
  split
  · rename_i z
    simp only [sGiveOK, Bool.and_eq_true, decide_eq_true_eq] at z
    exact h.addN (sWhy_no z.2)
  · exact h
theorem sGd.giveT {σ : St} {g p m c : Nat} (h : sGd σ) : sGd (sGiveT σ g p m c) := by
  unfold sGiveT
  split
  · rename_i z
    exact h.addN (sWhy_no z)
  · exact h.count (by decide)
theorem sGd.setting {σ : St} {w v : Nat} (h : sGd σ) : sGd (sSet σ w v) := by
  unfold sSet
  split
  · exact h.set
  · exact h
theorem sFBN_lt {σ : St} {p m c q : Nat} (h : sFBN σ p m c = some q) : q < σ 0 0 := (fst_lt h).1
theorem sGd.call {σ : St} {b m c : Nat} (h : sGd σ) : sGd (sCall σ b m c) := by
  unfold sCall
  split
  · exact h
  · rename_i p hp
    split
    · exact h.use
    · exact h.mix (sCallW_lt hp) (fun q hq => sFBN_lt hq)
theorem sGd.callT {σ : St} {b m c : Nat} (h : sGd σ) : sGd (sCallT σ b m c) := by
  unfold sCallT
  split
  · exact h.call.count (by decide)
  · exact h.call
theorem sGd.obey {σ : St} {T : Nat} {k : Option Nat} {tl : Nat → Nat} (h : sGd σ) (hI : eIv σ T) : sGd (sObey σ k tl).1 := by
  unfold sObey
  split
  · exact h.person hI
  split
  · exact h.give
  split
  · exact h.call
  split
  · exact h.pass hI
  split
  · exact h.sitting
  split
  · exact h.setting
  · exact h
theorem sGd.turn {σ : St} {T n : Nat} (h : sGd σ) (hI : eIv σ T) : sGd (sTurn σ n) := by
  unfold sTurn
  split
  · exact h.person hI
  split
  · exact h.give
  split
  · exact h.call
  split
  · exact h.sitting
  split
  · exact h.setting
  · exact h.pass hI
theorem sGd.run {σ : St} {T k : Nat} (h : sGd σ) (hI : eIv σ T) : sGd (sRun σ k).1 := by
  unfold sRun
  split
  · split
    · exact h.give
    · exact h
  split
  · split
    · exact h.call
    · exact h
  split
  · split
    · exact h.pass hI
    · exact h
  split
  · split
    · exact h.sitting
    · exact h
  split
  · split
    · exact h.setting
    · exact h
  split
  · exact h
  split
  · exact h
  split
  · exact h
  split
  · exact h
  · exact h
theorem eIv.giveT {σ : St} {T g p m c : Nat} (h : eIv σ T) (hg : g < σ 0 0) (hp : p < σ 0 0) (hm : sCode m c = true) : eIv (sGiveT σ g p m c) (T + 1) := by
  have hm := of_decide_eq_true hm
  unfold sGiveT
  split
  · rename_i z
    exact (h.addN hg hp ⟨hm.1, hm.2.1⟩ hm.2.2 (sWhy_40 z)).mono (Nat.le_succ T)
  · exact h.count (by decide)
theorem eIv.callT {σ : St} {T b m c : Nat} (h : eIv σ T) : eIv (sCallT σ b m c) (T + 2) := by
  unfold sCallT
  split
  · exact h.call.count (by decide)
  · exact h.call.mono (by omega)

