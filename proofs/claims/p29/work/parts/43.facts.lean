/-! WHAT IS KEPT: sums over people and names, the roll, the best giver, the one most mixed up -/
theorem sSum_0 {f : Nat → Nat} : ∀ {n : Nat}, (∀ k, k < n → f k = 0) → sSum f n = 0
  | 0, _ => rfl
  | n + 1, h => by rw [sSum, sSum_0 (fun k hk => h k (Nat.lt_succ_of_lt hk)), h n (Nat.lt_succ_self n)]
theorem cnt_0 {p : Nat → Bool} : ∀ {n : Nat}, (∀ k, k < n → p k = false) → cnt p n = 0
  | 0, _ => rfl
  | n + 1, h => by rw [cnt_f (h n (Nat.lt_succ_self n)), cnt_0 (fun k hk => h k (Nat.lt_succ_of_lt hk))]
theorem cnt_all {p : Nat → Bool} : ∀ {n : Nat}, (∀ k, k < n → p k = true) → cnt p n = n
  | 0, _ => rfl
  | n + 1, h => by rw [cnt_t (h n (Nat.lt_succ_self n)), cnt_all (fun k hk => h k (Nat.lt_succ_of_lt hk))]
/-- counted by who has it, counted in all -/
theorem sum_cnt {f : Nat → Nat} {g : Nat → Bool} {P : Nat} : ∀ {N : Nat}, (∀ k, k < N → g k = true → f k < P) → sSum (fun p => cnt (fun k => decide (f k = p) && g k) N) P = cnt g N
  | 0, _ => sSum_0 (fun _ _ => rfl)
  | N + 1, h => by
    have ih := sum_cnt (f := f) (g := g) (P := P) (N := N) (fun k hk => h k (Nat.lt_succ_of_lt hk))
    by_cases z : g N = true
    · rw [cnt_t z, ← ih]
      refine sSum_1 (h N (Nat.lt_succ_self N) z) fun p _ => ?_
      by_cases e : p = f N
      · rw [if_pos e, cnt_t (by rw [z, decide_eq_true e.symm]; rfl)]
      · rw [if_neg e, cnt_f (by rw [decide_eq_false (fun w => e w.symm)]; rfl)]
    · rw [cnt_f (Bool.eq_false_iff.mpr z), ← ih]
      exact sSum_congr fun p _ => cnt_f (by rw [Bool.eq_false_iff.mpr z, Bool.and_false])
def sAl (σ : St) : Nat := cnt (sAlive σ) (σ 0 1)
theorem sLives_sum {σ : St} (hH : sHo σ) : sSum (sLives σ) (σ 0 0) = sAl σ := sum_cnt (f := σ 9) (g := sAlive σ) (fun k hk _ => hH k hk)
theorem sGiven_sum {σ : St} {T : Nat} (h : eIv σ T) : sSum (sGiven σ) (σ 0 0) = σ 0 1 := by
  have e := sum_cnt (f := σ 8) (g := fun _ => true) (P := σ 0 0) (N := σ 0 1) (fun k hk _ => (h.2.2.2.2.1 k hk).2.1)
  rw [cnt_all (fun _ _ => rfl)] at e
  rw [← e]
  exact sSum_congr fun p _ => cnt_congr fun k _ => by rw [Bool.and_true]
theorem cnt_sum {f : Nat → Nat} : ∀ {n : Nat}, (∀ k, f k ≤ 1) → cnt (fun k => decide (f k ≠ 0)) n = sSum f n
  | 0, _ => rfl
  | n + 1, h => by
    have h1 := h n
    rw [cnt, sSum, cnt_sum h]
    by_cases z : f n = 0
    · simp [z]
    · simp [z]; omega
theorem sStuck_sum {σ : St} {T : Nat} (h : eIv σ T) : sSum (sStuckG σ) (σ 0 0) = sSum (σ 13) (σ 0 1) := by
  rw [← cnt_sum (fun k => (h.2.2.2.1 k).2.2.2.2.2.2.2)]
  exact sum_cnt (f := σ 8) (g := fun k => decide (σ 13 k ≠ 0)) (fun k hk _ => (h.2.2.2.2.1 k hk).2.1)
theorem sInState_sum {σ : St} {T : Nat} (h : eIv σ T) : sSum (sInState σ) 5 = σ 0 1 := by
  have e := sum_cnt (f := σ 12) (g := fun _ => true) (P := 5) (N := σ 0 1) (fun k hk _ => by have := (h.2.2.2.1 k).2.2.2.2.2.2.1; omega)
  rw [cnt_all (fun _ _ => rfl)] at e
  rw [← e]
  exact sSum_congr fun p _ => cnt_congr fun k _ => by rw [Bool.and_true]
theorem sStuck_le (σ : St) (p : Nat) : sStuckG σ p ≤ sGiven σ p := cnt_mono fun k _ z => by
  simp only [Bool.and_eq_true] at z
  exact z.1
theorem cnt_lt {p : Nat → Bool} {k : Nat} : ∀ {n : Nat}, k < n → p k = false → cnt p n < n
  | 0, h, _ => absurd h (Nat.not_lt_zero k)
  | n + 1, h, hp => by
    by_cases z : k = n
    · subst z
      rw [cnt_f hp]
      exact Nat.lt_succ_of_le (cnt_le p k)
    · have := cnt_lt (n := n) (by omega) hp
      rw [cnt]
      split <;> omega
theorem sBro_lt {σ : St} {p : Nat} (hp : p < σ 0 0) : sBrothers σ p < σ 0 0 := cnt_lt hp (by unfold sBro; simp)
theorem sMeant_own {σ : St} {k : Nat} (hU : sUq σ) (hH : sHo σ) (hk : k < σ 0 1) (ha : sAlive σ k = true) : sMeant σ (σ 3 (σ 9 k)) (σ 6 k) (σ 7 k) = some (σ 9 k) := by
  have hi : sIs σ k (σ 6 k) (σ 7 k) = true := sIs_i.mpr ⟨ha, rfl, rfl⟩
  refine sMeant_1 (fst_of (hH k hk) ?_ fun q hq => Bool.eq_false_iff.mpr fun z => ?_)
  · rw [decide_eq_true rfl, sNf_of hk rfl hi]; rfl
  · simp only [Bool.and_eq_true, decide_eq_true_eq] at z
    obtain ⟨j, hj⟩ := Option.isSome_iff_exists.mp z.2
    obtain ⟨g1, g2, g3⟩ := sNf_s hj
    rw [sIs_i] at g3
    have e := hU j k g1 hk g3.1 ha g3.2.1 g3.2.2 (by rw [g2, z.1])
    subst e
    omega
theorem sLeft_0 {σ : St} {k : Nat} : sLeft σ k = 0 ↔ sAlive σ k = false := by
  unfold sLeft
  by_cases z : sAlive σ k = true
  · rw [if_pos z, z]
    exact ⟨fun q => absurd q (by omega), fun q => nomatch q⟩
  · rw [if_neg z]
    simp [Bool.eq_false_iff.mpr z]
theorem sBG_none {σ : St} {T : Nat} (h : eIv σ T) : sBG σ = none ↔ σ 0 1 = 0 := by
  have h1 : ∀ {n : Nat}, sBGTo σ n = none → ∀ p, p < n → sGiven σ p = 0 := by
    intro n
    induction n with
    | zero => intro _ p hp; exact absurd hp (Nat.not_lt_zero p)
    | succ n ih =>
      intro e p hp
      rw [sBGTo] at e
      split at e
      · rename_i z
        by_cases w : p = n
        · rw [w]; exact z
        · exact ih e p (by omega)
      · split at e
        · cases e
        · split at e <;> cases e
  have h2 : ∀ {n : Nat}, (∀ p, p < n → sGiven σ p = 0) → sBGTo σ n = none := by
    intro n
    induction n with
    | zero => intro _; rfl
    | succ n ih =>
      intro e
      rw [sBGTo, if_pos (e n (Nat.lt_succ_self n))]
      exact ih fun p hp => e p (by omega)
  constructor
  · intro e
    rw [← sGiven_sum h]
    exact sSum_0 (h1 e)
  · intro e
    refine h2 fun p _ => ?_
    unfold sGiven
    rw [e]
    rfl
def sMax (f : Nat → Nat) : Nat → Nat
  | 0 => 0
  | n + 1 => if sMax f n < f n then f n else sMax f n
theorem sMix_max {σ : St} : ∀ (n : Nat), (sMax (σ 4) n = 0 ∧ sMixTo σ n = none) ∨ (sMax (σ 4) n ≠ 0 ∧ ∃ p, sMixTo σ n = some p ∧ p < n ∧ σ 4 p = sMax (σ 4) n)
  | 0 => Or.inl ⟨rfl, rfl⟩
  | n + 1 => by
    rw [sMax, sMixTo]
    rcases sMix_max (σ := σ) n with ⟨h1, h2⟩ | ⟨h1, p, h2, h3, h4⟩
    · rw [h1, h2]
      by_cases z : 0 < σ 4 n
      · simp only [if_pos z]
        exact Or.inr ⟨by omega, n, rfl, Nat.lt_succ_self n, rfl⟩
      · simp only [if_neg z]
        exact Or.inl ⟨trivial, trivial⟩
    · rw [h2]
      by_cases z : sMax (σ 4) n < σ 4 n
      · simp only [if_pos z, h4]
        exact Or.inr ⟨by omega, n, rfl, Nat.lt_succ_self n, rfl⟩
      · simp only [if_neg z, h4]
        exact Or.inr ⟨h1, p, rfl, by omega, h4⟩
/-! the roll -/
def sBf (σ : St) (k n : Nat) : Bool := decide (sKey (σ 6 k) (σ 7 k) < sKey (σ 6 n) (σ 7 n)) || (decide (sKey (σ 6 k) (σ 7 k) = sKey (σ 6 n) (σ 7 n)) && decide (k < n))
theorem sBf_i {σ : St} {k n : Nat} : sBf σ k n = true ↔ sKey (σ 6 k) (σ 7 k) < sKey (σ 6 n) (σ 7 n) ∨ (sKey (σ 6 k) (σ 7 k) = sKey (σ 6 n) (σ 7 n) ∧ k < n) := by simp [sBf]
theorem sAhead_bf (σ : St) (n : Nat) : sAhead σ n = cnt (fun k => sAlive σ k && sBf σ k n) (σ 0 1) := rfl
theorem cnt_lt2 {p q : Nat → Bool} {j : Nat} : ∀ {n : Nat}, j < n → p j = false → q j = true → (∀ k, k < n → p k = true → q k = true) → cnt p n < cnt q n
  | 0, h, _, _, _ => absurd h (Nat.not_lt_zero j)
  | n + 1, h, hp, hq, hm => by
    by_cases z : j = n
    · subst z
      rw [cnt_f hp, cnt_t hq]
      exact Nat.lt_succ_of_le (cnt_mono fun k hk => hm k (by omega))
    · have := cnt_lt2 (n := n) (by omega) hp hq (fun k hk => hm k (by omega))
      have hn := hm n (Nat.lt_succ_self n)
      by_cases w : p n = true
      · rw [cnt_t w, cnt_t (hn w)]; omega
      · rw [cnt_f (Bool.eq_false_iff.mpr w), cnt]
        split <;> omega
theorem sAhead_mono {σ : St} {a b : Nat} (ha : a < σ 0 1) (hA : sAlive σ a = true) (h : sBf σ a b = true) : sAhead σ a < sAhead σ b := by
  rw [sAhead_bf, sAhead_bf]
  refine cnt_lt2 ha ?_ ?_ (fun k _ z => ?_)
  · rw [show sBf σ a a = false from Bool.eq_false_iff.mpr (fun z => by rw [sBf_i] at z; omega), Bool.and_false]
  · rw [hA, h]; rfl
  · simp only [Bool.and_eq_true] at z ⊢
    refine ⟨z.1, ?_⟩
    rw [sBf_i] at z h ⊢
    omega
theorem sBf_tot {σ : St} {a b : Nat} (h : a ≠ b) : sBf σ a b = true ∨ sBf σ b a = true := by
  rw [sBf_i, sBf_i]
  omega
theorem sAhead_inj {σ : St} {a b : Nat} (ha : a < σ 0 1) (hb : b < σ 0 1) (hA : sAlive σ a = true) (hB : sAlive σ b = true) (e : sAhead σ a = sAhead σ b) : a = b := by
  by_cases z : a = b
  · exact z
  · rcases sBf_tot (σ := σ) z with w | w
    · have := sAhead_mono ha hA w; omega
    · have := sAhead_mono hb hB w; omega
theorem sAhead_lt {σ : St} {a : Nat} (ha : a < σ 0 1) (hA : sAlive σ a = true) : sAhead σ a < sAl σ := by
  rw [sAhead_bf]
  refine cnt_lt2 ha ?_ hA (fun k _ z => ?_)
  · rw [show sBf σ a a = false from Bool.eq_false_iff.mpr (fun z => by rw [sBf_i] at z; omega), Bool.and_false]
  · simp only [Bool.and_eq_true] at z
    exact z.1
theorem cnt_1 {p : Nat → Bool} : ∀ {n : Nat}, (∀ a b, a < n → b < n → p a = true → p b = true → a = b) → cnt p n ≤ 1
  | 0, _ => Nat.zero_le 1
  | n + 1, h => by
    by_cases z : p n = true
    · rw [cnt_t z, cnt_0 (fun k hk => Bool.eq_false_iff.mpr fun w => by have := h k n (by omega) (by omega) w z; omega)]
      exact Nat.le_refl 1
    · rw [cnt_f (Bool.eq_false_iff.mpr z)]
      exact cnt_1 fun a b ha hb => h a b (by omega) (by omega)
theorem sSum_full {f : Nat → Nat} : ∀ {n : Nat}, (∀ k, k < n → f k ≤ 1) → sSum f n = n → ∀ k, k < n → f k = 1
  | 0, _, _, k, hk => absurd hk (Nat.not_lt_zero k)
  | n + 1, h, e, k, hk => by
    have hn := h n (Nat.lt_succ_self n)
    have hs : sSum f n ≤ n := by
      have : ∀ m, m ≤ n → sSum f m ≤ m := by
        intro m
        induction m with
        | zero => intro _; exact Nat.le_refl 0
        | succ m ih =>
          intro hm
          have := ih (by omega)
          have := h m (by omega)
          rw [sSum]
          omega
      exact this n (Nat.le_refl n)
    rw [sSum] at e
    by_cases z : k = n
    · rw [z]; omega
    · exact sSum_full (n := n) (fun j hj => h j (by omega)) (by omega) k (by omega)
theorem cnt_pos {p : Nat → Bool} : ∀ {n : Nat}, 0 < cnt p n → ∃ k, k < n ∧ p k = true
  | 0, h => absurd h (Nat.lt_irrefl 0)
  | n + 1, h => by
    by_cases z : p n = true
    · exact ⟨n, Nat.lt_succ_self n, z⟩
    · rw [cnt_f (Bool.eq_false_iff.mpr z)] at h
      obtain ⟨k, h1, h2⟩ := cnt_pos h
      exact ⟨k, by omega, h2⟩
theorem sRank_at {σ : St} {r : Nat} (hr : r < sAl σ) : ∃ n, sRank σ r = some n ∧ n < σ 0 1 ∧ sAlive σ n = true ∧ sAhead σ n = r := by
  have e := sum_cnt (f := sAhead σ) (g := sAlive σ) (P := sAl σ) (N := σ 0 1) (fun k hk z => sAhead_lt hk z)
  have h1 := sSum_full (f := fun p => cnt (fun k => decide (sAhead σ k = p) && sAlive σ k) (σ 0 1)) (n := sAl σ) (fun p _ => cnt_1 fun a b ha hb za zb => by
    simp only [Bool.and_eq_true, decide_eq_true_eq] at za zb
    exact sAhead_inj ha hb za.2 zb.2 (by omega)) e r hr
  obtain ⟨n, g1, g2⟩ := cnt_pos (Nat.lt_of_lt_of_eq Nat.zero_lt_one h1.symm)
  simp only [Bool.and_eq_true, decide_eq_true_eq] at g2
  refine ⟨n, fst_of g1 (by rw [g2.2, decide_eq_true g2.1]; rfl) fun j hj => Bool.eq_false_iff.mpr fun z => ?_, g1, g2.2, g2.1⟩
  simp only [Bool.and_eq_true, decide_eq_true_eq] at z
  have := sAhead_inj (by omega) g1 z.1 g2.2 (by omega)
  omega
theorem sRank_end {σ : St} : sRank σ (sAl σ) = none := fst_none_of fun j hj => Bool.eq_false_iff.mpr fun z => by
  simp only [Bool.and_eq_true, decide_eq_true_eq] at z
  have := sAhead_lt hj z.1
  omega
theorem sKey_first {m c : Nat} (hm : 1 ≤ m) : sKey m c / 19683 = sLet m c 0 + 1 := by
  have h4 : sKey m c = sKeyTo m c 4 := rfl
  have s1 : sKeyTo m c 1 = sLet m c 0 + 1 := by
    rw [sKeyTo, if_pos (by omega)]
    show 0 * 27 + _ = _
    omega
  have s2 := sKeyTo.eq_2 m c 1
  have s3 := sKeyTo.eq_2 m c 2
  have s4 := sKeyTo.eq_2 m c 3
  have l1 := sLet_lt m c 1
  have l2 := sLet_lt m c 2
  have l3 := sLet_lt m c 3
  have d1 : (if 1 < m then sLet m c 1 + 1 else 0) < 27 := by split <;> omega
  have d2 : (if 2 < m then sLet m c 2 + 1 else 0) < 27 := by split <;> omega
  have d3 : (if 3 < m then sLet m c 3 + 1 else 0) < 27 := by split <;> omega
  generalize (if 1 < m then sLet m c 1 + 1 else 0) = a1 at s2 d1
  generalize (if 2 < m then sLet m c 2 + 1 else 0) = a2 at s3 d2
  generalize (if 3 < m then sLet m c 3 + 1 else 0) = a3 at s4 d3
  rw [h4, s4, s3, s2, s1]
  omega
theorem sRank_sort {σ : St} {r a b : Nat} {T : Nat} (h : eIv σ T) (ha : a < σ 0 1) (hb : b < σ 0 1) (hB : sAlive σ b = true) (ea : sAhead σ a = r) (eb : sAhead σ b = r + 1) : sLet (σ 6 a) (σ 7 a) 0 ≤ sLet (σ 6 b) (σ 7 b) 0 := by
  have hk : sKey (σ 6 a) (σ 7 a) ≤ sKey (σ 6 b) (σ 7 b) := by
    refine Nat.le_of_not_lt fun z => ?_
    have := sAhead_mono (b := a) hb hB (sBf_i.mpr (Or.inl z))
    omega
  have e1 := sKey_first (m := σ 6 a) (c := σ 7 a) (h.2.2.2.2.1 a ha).2.2.1
  have e2 := sKey_first (m := σ 6 b) (c := σ 7 b) (h.2.2.2.2.1 b hb).2.2.1
  have := Nat.div_le_div_right (c := 19683) hk
  omega
