/-! THE STATE OF A REGISTRY, AS NUMBERS: σ f i; f = 0: people, names, year, mixes, nobody, refused; 1..5: age, family, bench, called, lent of the person i; 6..13: many, code, giver, holder, uses, latest, state, stuck of the name i; 14: settings -/
abbrev St : Type := Nat → Nat → Nat
def su (σ : St) (f i v : Nat) : St := fun g j => if g = f ∧ j = i then v else σ g j
theorem su_same (σ : St) (f i v : Nat) : su σ f i v f i = v := if_pos ⟨rfl, rfl⟩
theorem su_ne {σ : St} {f i v g j : Nat} (h : g ≠ f ∨ j ≠ i) : su σ f i v g j = σ g j := if_neg (fun e => h.elim (fun q => q e.1) (fun q => q e.2))
theorem su_f {σ : St} {f i v g j : Nat} (h : g ≠ f) : su σ f i v g j = σ g j := su_ne (Or.inl h)
theorem su_eq (σ : St) {f g : Nat} (h : g ≠ f) (i v : Nat) : su σ f i v g = σ g := funext fun _ => su_f h
/-- the first k below n with p -/
def fst (p : Nat → Bool) : Nat → Option Nat
  | 0 => none
  | n + 1 => match fst p n with
    | some k => some k
    | none => if p n = true then some n else none
def cnt (p : Nat → Bool) : Nat → Nat
  | 0 => 0
  | n + 1 => cnt p n + (if p n = true then 1 else 0)
theorem cnt_t {p : Nat → Bool} {n : Nat} (h : p n = true) : cnt p (n + 1) = cnt p n + 1 := by rw [cnt, if_pos h]
theorem cnt_f {p : Nat → Bool} {n : Nat} (h : p n = false) : cnt p (n + 1) = cnt p n := by rw [cnt, h]; rfl
theorem cnt_le (p : Nat → Bool) : ∀ n, cnt p n ≤ n
  | 0 => Nat.le_refl 0
  | n + 1 => by
    have := cnt_le p n
    rw [cnt]
    split <;> omega
theorem cnt_congr {p q : Nat → Bool} : ∀ {n : Nat}, (∀ k, k < n → p k = q k) → cnt p n = cnt q n
  | 0, _ => rfl
  | n + 1, h => by rw [cnt, cnt, cnt_congr (fun k hk => h k (Nat.lt_succ_of_lt hk)), h n (Nat.lt_succ_self n)]
theorem fst_s {p : Nat → Bool} {n : Nat} (h : fst p n = none) (hp : p n = false) : fst p (n + 1) = none := by rw [fst, h, hp]; rfl
theorem fst_up {p : Nat → Bool} {k : Nat} (h : fst p k = none) (hp : p k = true) : ∀ {n : Nat}, k < n → fst p n = some k
  | 0, hn => absurd hn (Nat.not_lt_zero k)
  | n + 1, hn => by
    rcases Nat.lt_or_ge k n with q | q
    · rw [fst, fst_up h hp q]
    · have e : k = n := by omega
      subst e
      rw [fst, h, if_pos hp]
theorem fst_lt {p : Nat → Bool} : ∀ {n k : Nat}, fst p n = some k → k < n ∧ p k = true ∧ ∀ j, j < k → p j = false
  | 0, k, h => by cases h
  | n + 1, k, h => by
    rw [fst] at h
    cases hf : fst p n with
    | some a =>
      rw [hf] at h
      cases h
      obtain ⟨h1, h2, h3⟩ := fst_lt hf
      exact ⟨by omega, h2, h3⟩
    | none =>
      rw [hf] at h
      by_cases hp : p n = true
      · rw [if_pos hp] at h
        cases h
        refine ⟨Nat.lt_succ_self n, hp, fun j hj => ?_⟩
        exact fst_none hf j hj
      · rw [if_neg hp] at h
        cases h
where
  fst_none {p : Nat → Bool} : ∀ {n : Nat}, fst p n = none → ∀ j, j < n → p j = false
  | 0, _, j, hj => absurd hj (Nat.not_lt_zero j)
  | n + 1, h, j, hj => by
    rw [fst] at h
    cases hf : fst p n with
    | some a => rw [hf] at h; cases h
    | none =>
      rw [hf] at h
      by_cases hp : p n = true
      · rw [if_pos hp] at h; cases h
      · rcases Nat.lt_or_ge j n with q | q
        · exact fst_none hf j q
        · have e : j = n := by omega
          rw [e]
          simpa using hp
theorem fst_no {p : Nat → Bool} {n : Nat} (h : fst p n = none) : ∀ j, j < n → p j = false := fst_lt.fst_none h
theorem fst_none_of {p : Nat → Bool} : ∀ {n : Nat}, (∀ j, j < n → p j = false) → fst p n = none
  | 0, _ => rfl
  | n + 1, h => fst_s (fst_none_of fun j hj => h j (Nat.lt_succ_of_lt hj)) (h n (Nat.lt_succ_self n))
theorem fst_of {p : Nat → Bool} {n k : Nat} (hk : k < n) (hp : p k = true) (h : ∀ j, j < k → p j = false) : fst p n = some k := fst_up (fst_none_of h) hp hk
theorem fst_congr {p q : Nat → Bool} {n : Nat} (h : ∀ k, k < n → p k = q k) : fst p n = fst q n := by
  cases hq : fst q n with
  | none => exact fst_none_of fun j hj => (h j hj).trans (fst_no hq j hj)
  | some k =>
    obtain ⟨h1, h2, h3⟩ := fst_lt hq
    exact fst_of h1 ((h k h1).trans h2) fun j hj => (h j (by omega)).trans (h3 j hj)
/-! the words of the document over a state -/
def sAlive (σ : St) (n : Nat) : Bool := decide (σ 12 n ≤ 1)
def sIs (σ : St) (n m c : Nat) : Bool := sAlive σ n && (decide (σ 6 n = m) && decide (σ 7 n = c))
def sLives (σ : St) (p : Nat) : Nat := cnt (fun k => decide (σ 9 k = p) && sAlive σ k) (σ 0 1)
def sInState (σ : St) (s : Nat) : Nat := cnt (fun k => decide (σ 12 k = s)) (σ 0 1)
def sGiven (σ : St) (p : Nat) : Nat := cnt (fun k => decide (σ 8 k = p)) (σ 0 1)
def sStuckG (σ : St) (p : Nat) : Nat := cnt (fun k => decide (σ 8 k = p) && decide (σ 13 k ≠ 0)) (σ 0 1)
def sSum (f : Nat → Nat) : Nat → Nat
  | 0 => 0
  | n + 1 => sSum f n + f n
def sBro (σ : St) (p q : Nat) : Bool := decide (p ≠ q) && decide (σ 2 p = σ 2 q)
def sBrothers (σ : St) (p : Nat) : Nat := cnt (fun q => sBro σ p q) (σ 0 0)
def sNameOf (σ : St) (p m c : Nat) : Option Nat := fst (fun k => decide (σ 9 k = p) && sIs σ k m c) (σ 0 1)
def sNameOn (σ : St) (b : Nat) (ex : Option Nat) (m c : Nat) : Option Nat := fst (fun k => decide (some (σ 9 k) ≠ ex) && (decide (σ 3 (σ 9 k) = b) && sIs σ k m c)) (σ 0 1)
def sWhyAny (σ : St) (g p : Nat) : Nat := if g = p then 1 else if sBro σ g p = false ∧ σ 3 g ≠ σ 3 p then 2 else if 3 ≤ sLives σ p then 3 else 0
def sWhy (σ : St) (g p m c : Nat) : Nat := if sWhyAny σ g p ≠ 0 then sWhyAny σ g p else if (sNameOn σ (σ 3 p) none m c).isSome = true then 4 else if 40 ≤ σ 0 1 then 5 else 0
def sFBN (σ : St) (p m c : Nat) : Option Nat := fst (fun q => sBro σ p q && (sNameOf σ q m c).isSome) (σ 0 0)
def sMeant (σ : St) (b m c : Nat) : Option Nat := match fst (fun p => decide (σ 3 p = b) && (sNameOf σ p m c).isSome) (σ 0 0) with
  | some p => some p
  | none => fst (fun p => decide (σ 3 p = b) && (sFBN σ p m c).isSome) (σ 0 0)
/-! where a registry lies: 17 cells from r on -/
def ePp (h : eH) (q : Nat) (σ : St) : Prop :=
  h q = some (.inr (3, [.int (nI (σ 0 0)), .ref (q + 1), .ref (q + 2), .ref (q + 3), .ref (q + 4), .ref (q + 5)])) ∧
  eArr h (q + 1) 0 12 (σ 0 0) (σ 1) ∧ eArr h (q + 2) 0 12 (σ 0 0) (σ 2) ∧ eArr h (q + 3) 0 12 (σ 0 0) (σ 3) ∧ eArr h (q + 4) 0 12 (σ 0 0) (σ 4) ∧ eArr h (q + 5) 0 12 (σ 0 0) (σ 5)
/-- an array of booleans holds booleans -/
def eBo (h : eH) (a : Nat) : Prop := ∃ F : Nat → Int32, h a = some (.inl (2, 40, .inl F)) ∧ ∀ j, j < 40 → F j = nI 0 ∨ F j = nI 1
def eNm (h : eH) (q : Nat) (σ : St) : Prop :=
  h q = some (.inr (1, [.int (nI (σ 0 1)), .ref (q + 1), .ref (q + 2), .ref (q + 3), .ref (q + 4), .ref (q + 5), .ref (q + 6), .ref (q + 7), .ref (q + 8)])) ∧
  eArr h (q + 1) 0 40 (σ 0 1) (σ 6) ∧ eArr h (q + 2) 0 40 (σ 0 1) (σ 7) ∧ eArr h (q + 3) 0 40 (σ 0 1) (σ 8) ∧ eArr h (q + 4) 0 40 (σ 0 1) (σ 9) ∧ eArr h (q + 5) 0 40 (σ 0 1) (σ 10) ∧ eArr h (q + 6) 0 40 (σ 0 1) (σ 11) ∧ eArr h (q + 7) 0 40 (σ 0 1) (σ 12) ∧ eArr h (q + 8) 2 40 (σ 0 1) (σ 13) ∧ eBo h (q + 8)
def eRg (h : eH) (r : Nat) (σ : St) : Prop :=
  h r = some (.inr (4, [.ref (r + 1), .ref (r + 7), .ref (r + 16), .int (nI (σ 0 2)), .int (nI (σ 0 3)), .int (nI (σ 0 4)), .int (nI (σ 0 5))])) ∧ ePp h (r + 1) σ ∧ eNm h (r + 7) σ ∧ eArr h (r + 16) 0 3 3 (σ 14)
/-- all numbers are small -/
def eB (σ : St) : Prop := ∀ f i, σ f i < 2 ^ 31
/-! letters -/
def sLet (m c p : Nat) : Nat := c / 26 ^ (m - 1 - p) % 26
def sKeyTo (m c : Nat) : Nat → Nat
  | 0 => 0
  | j + 1 => sKeyTo m c j * 27 + (if j < m then sLet m c j + 1 else 0)
def sKey (m c : Nat) : Nat := sKeyTo m c 4
def sRep (m c p : Nat) : Bool := (fst (fun i => decide (sLet m c i = sLet m c p)) p).isSome
def sAhead (σ : St) (n : Nat) : Nat := cnt (fun k => sAlive σ k && (decide (sKey (σ 6 k) (σ 7 k) < sKey (σ 6 n) (σ 7 n)) || (decide (sKey (σ 6 k) (σ 7 k) = sKey (σ 6 n) (σ 7 n)) && decide (k < n)))) (σ 0 1)
def sRank (σ : St) (r : Nat) : Option Nat := fst (fun k => sAlive σ k && decide (sAhead σ k = r)) (σ 0 1)
theorem sLet_lt (m c p : Nat) : sLet m c p < 26 := Nat.mod_lt _ (by decide)
theorem sKeyTo_lt (m c : Nat) : ∀ j, sKeyTo m c j < 27 ^ j
  | 0 => Nat.lt_succ_self 0
  | j + 1 => by
    have h := sKeyTo_lt m c j
    have h2 := sLet_lt m c j
    rw [sKeyTo, Nat.pow_succ]
    split <;> omega
theorem sKeyTo_small (m c : Nat) {j : Nat} (hj : j ≤ 4) : sKeyTo m c j < 531442 := by
  have h := sKeyTo_lt m c j
  have h2 : 27 ^ j ≤ 27 ^ 4 := Nat.pow_le_pow_right (by decide) hj
  have h3 : (27 : Nat) ^ 4 = 531441 := by decide
  omega
theorem sKey_small (m c : Nat) : sKey m c < 531442 := sKeyTo_small m c (Nat.le_refl 4)
def sFBO (σ : St) (b p : Nat) : Option Nat := fst (fun q => decide (σ 3 q = b) && sBro σ p q) (σ 0 0)
/-- what holds of a state beside the class: small counts, names that point into the people, settings in their range -/
def eOK (σ : St) : Prop := eB σ ∧ σ 0 0 ≤ 12 ∧ σ 0 1 ≤ 40 ∧ (∀ k, k < σ 0 1 → σ 9 k < σ 0 0 ∧ σ 8 k < σ 0 0 ∧ 1 ≤ σ 6 k ∧ σ 6 k ≤ 4 ∧ σ 7 k < 26 ^ σ 6 k ∧ σ 12 k ≤ 4 ∧ σ 13 k ≤ 1 ∧ σ 11 k ≤ σ 0 2) ∧ σ 0 2 ≤ 1100 ∧ (∀ p, p < σ 0 0 → σ 1 p ≤ 1300) ∧ (1 ≤ σ 14 0 ∧ σ 14 0 ≤ 9) ∧ (1 ≤ σ 14 1 ∧ σ 14 1 ≤ 9) ∧ σ 14 2 ≤ 9
