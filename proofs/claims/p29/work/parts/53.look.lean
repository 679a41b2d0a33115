/-! A LOCAL LOOKED UP STEP BY STEP, for methods with many locals -/
def isL (v : Value) : Bool := match v with
  | .long _ => true
  | _ => false
/-- what stands at j outlives a store of v at i -/
def cnd (i : Nat) (v : Value) (j : Nat) (w : Value) : Bool := !(Nat.beq j i) && (!(isL v && Nat.beq j (i + 1)) && !(Nat.beq (j + 1) i && w.category == 2))
theorem eff_cons (i : Nat) (v : Value) (t : List (Nat × Value)) : eff ((i, v) :: t) = (i, v) :: (eff t).filter (fun q => cnd i v q.1 q.2) := by
  have hb : ∀ a b : Nat, (a == b) = Nat.beq a b := by
    intro a b
    by_cases e : a = b
    · subst e
      rw [beq_self_eq_true, Nat.beq_refl]
    · have h1 : (a == b) = false := by simpa using e
      have h2 : Nat.beq a b = false := by
        cases q : Nat.beq a b with
        | false => rfl
        | true => exact absurd (Nat.eq_of_beq_eq_true q) e
      rw [h1, h2]
  cases v with
  | long x =>
    rw [eff]
    refine congrArg _ (congrArg (fun P => (eff t).filter P) (funext fun q => ?_))
    simp only [cnd, isL, hb, Bool.true_and]
  | _ =>
    rw [eff]
    · refine congrArg _ (congrArg (fun P => (eff t).filter P) (funext fun q => ?_))
      simp only [cnd, isL, hb, Bool.false_and, Bool.not_false, Bool.true_and]
    · intro x h
      cases h
theorem find_and {α : Type} {p r : α → Bool} {a : α} : ∀ {l : List α}, l.find? p = some a → r a = true → (l.filter r).find? p = some a
  | [], h, _ => by cases h
  | x :: l, h, hr => by
    by_cases hp : p x = true
    · rw [List.find?_cons_of_pos hp] at h
      cases h
      rw [List.filter_cons_of_pos hr, List.find?_cons_of_pos hp]
    · rw [List.find?_cons_of_neg hp] at h
      have ih := find_and h hr
      by_cases hx : r x = true
      · rw [List.filter_cons_of_pos hx, List.find?_cons_of_neg hp]
        exact ih
      · rw [List.filter_cons_of_neg hx]
        exact ih
theorem lk_h {i : Nat} {v : Value} {t : List (Nat × Value)} : lk ((i, v) :: t) i = some v := by
  unfold lk
  rw [eff_cons, List.find?_cons_of_pos (by simp)]
  rfl
theorem lk_e {i : Nat} {v w : Value} {t : List (Nat × Value)} (e : v = w) : lk ((i, v) :: t) i = some w := e ▸ lk_h
theorem lk_m {i j : Nat} {v w : Value} {t : List (Nat × Value)} (h : lk t j = some w) (hc : cnd i v j w = true) : lk ((i, v) :: t) j = some w := by
  have hij : ¬ (i == j) = true := by
    intro e
    have e : i = j := by simpa using e
    subst e
    have : Nat.beq i i = true := by simp
    simp [cnd] at hc
  unfold lk at h ⊢
  rw [eff_cons, List.find?_cons_of_neg (p := fun q : Nat × Value => q.1 == j) (a := (i, v)) hij]
  cases hf : (eff t).find? (fun q => q.1 == j) with
  | none => rw [hf] at h; cases h
  | some q =>
    rw [hf] at h
    have e1 : q.2 = w := Option.some.inj h
    have e2 : q.1 = j := by
      have := List.find?_some hf
      simpa using this
    rw [find_and hf (by rw [e1, e2]; exact hc)]
    exact congrArg some e1
def nfl : List (Nat × Value) → Bool
  | [] => true
  | (i, v) :: t => (t.all fun q => cnd i v q.1 q.2) && nfl t
theorem eff_id : ∀ {lv : List (Nat × Value)}, nfl lv = true → eff lv = lv
  | [], _ => rfl
  | (i, v) :: t, h => by
    rw [nfl, Bool.and_eq_true] at h
    rw [eff_cons, eff_id h.2]
    refine congrArg _ (List.filter_eq_self.mpr fun q hq => ?_)
    exact List.all_eq_true.mp h.1 q hq
