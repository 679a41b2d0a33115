/-! the same laws said of natural numbers; booleans; numbers or none -/
def bI (b : Bool) : Int32 := if b then 1 else 0
def oI (o : Option Nat) : Int32 := match o with
  | none => -1
  | some k => nI k
theorem bI_n (b : Bool) : narrow .boolean (.int (bI b)) = .int (bI b) := by cases b <;> rfl
theorem bI_t {b : Bool} (h : b = true) : bI b = nI 1 := by rw [h]; rfl
theorem bI_f {b : Bool} (h : b = false) : bI b = nI 0 := by rw [h]; rfl
theorem nI_toNat {n : Nat} (h : n < 2 ^ 31) : (nI n).toInt = (n : Int) := nI_toInt h
theorem nI_neg {n : Nat} (h : n < 2 ^ 31) : ¬ nI n = -1 := by
  intro e
  have h2 : (nI n).toInt = (-1 : Int32).toInt := by rw [e]
  rw [nI_toInt h] at h2
  have h3 : (-1 : Int32).toInt = -1 := by decide
  omega
theorem bR0 {b : Bool} (h : b = false) : (Sum.inl (some (Value.int (bI b))) : Option Value ⊕ String) = Sum.inl (some (Value.int (nI 0))) := by rw [h]; rfl
theorem bR1 {b : Bool} (h : b = true) : (Sum.inl (some (Value.int (bI b))) : Option Value ⊕ String) = Sum.inl (some (Value.int (nI 1))) := by rw [h]; rfl
theorem nR {a b : Nat} (h : a = b) : (Sum.inl (some (Value.int (nI a))) : Option Value ⊕ String) = Sum.inl (some (Value.int (nI b))) := by rw [h]
theorem oR {o : Option Nat} {k : Nat} (h : o = some k) : (Sum.inl (some (Value.int (oI o))) : Option Value ⊕ String) = Sum.inl (some (Value.int (nI k))) := by rw [h]; rfl
theorem oRn {o : Option Nat} (h : o = none) : (Sum.inl (some (Value.int (oI o))) : Option Value ⊕ String) = Sum.inl (some (Value.int (-1))) := by rw [h]; rfl
theorem eRo {P : eH → Prop} {h : eH} (k : P h) : ∀ g : eH, (fun x => x = h) g → P g := fun _ e => e ▸ k
/-- an array of naturals: the first m of n known -/
def eArr (h : eH) (a t n m : Nat) (g : Nat → Nat) : Prop := m ≤ n ∧ n < 2 ^ 31 ∧ ∃ F : Nat → Int32, h a = some (.inl (t, n, .inl F)) ∧ ∀ j, j < m → F j = nI (g j)
def lvOK (lv : List (Nat × Value)) : List (Nat × Value) → Prop
  | [] => True
  | (i, v) :: t => lk lv i = some v ∧ lvOK lv t
theorem lvOK_mem {lv : List (Nat × Value)} : ∀ {l : List (Nat × Value)}, lvOK lv l → ∀ q ∈ l, lk lv q.1 = some q.2
  | [], _, q, h => nomatch h
  | (i, v) :: t, h, q, hq => by
    rcases List.mem_cons.mp hq with e | e
    · rw [e]; exact h.1
    · exact lvOK_mem h.2 q e
section NRules
variable {M : eMI} {pc : Nat} {lv : List (Nat × Value)} {st : List Value} {w : eH × Nat × Nat × Nat} {r : eRes} {mc ms : Nat}
theorem eV.sub1 {lv' : List (Nat × Value)} (k : eV M pc lv' st w r mc ms) (h : lvOK lv lv') (he : eff lv' = lv') : eV M pc lv st w r mc ms := eV.sub (lvOK_mem h) he k
theorem eV.stk {st' : List Value} (e : st = st') (k : eV M pc lv st' w r mc ms) : eV M pc lv st w r mc ms := e ▸ k
theorem ev_top {x y : Int32} (e : x = y) (k : eV M pc lv (.int y :: st) w r mc ms) : eV M pc lv (.int x :: st) w r mc ms := e ▸ k
theorem ev_ialoadA {a n m i : Nat} {g : Nat → Nat} (d : decode M.1 pc = .ok (.iaload, 1)) (hA : eArr w.1 a 0 n m g) (hi : i < m) (k : eV M (pc + 1) lv (.int (nI (g i)) :: st) w r mc ms) : eV M pc lv (.int (nI i) :: .ref a :: st) w r mc ms := by
  obtain ⟨h1, h2, F, h3, h4⟩ := hA
  refine ev_ialoadN d h3 (by omega) h2 ?_
  rw [h4 i hi]
  exact k
theorem ev_baloadA {a n m i : Nat} {g : Nat → Nat} (d : decode M.1 pc = .ok (.baload, 1)) (hA : eArr w.1 a 2 n m g) (hi : i < m) (k : eV M (pc + 1) lv (.int (nI (g i)) :: st) w r mc ms) : eV M pc lv (.int (nI i) :: .ref a :: st) w r mc ms := by
  obtain ⟨h1, h2, F, h3, h4⟩ := hA
  refine ev_baloadN d h3 (by omega) h2 ?_
  rw [h4 i hi]
  exact k
theorem ev_caloadA {a n m i : Nat} {g : Nat → Nat} (d : decode M.1 pc = .ok (.caload, 1)) (hA : eArr w.1 a 1 n m g) (hi : i < m) (k : eV M (pc + 1) lv (.int (nI (g i)) :: st) w r mc ms) : eV M pc lv (.int (nI i) :: .ref a :: st) w r mc ms := by
  obtain ⟨h1, h2, F, h3, h4⟩ := hA
  refine ev_caloadN d h3 (by omega) h2 ?_
  rw [h4 i hi]
  exact k
theorem ev_iaddN {a b : Nat} (d : decode M.1 pc = .ok (.iadd, 1)) (k : eV M (pc + 1) lv (.int (nI (a + b)) :: st) w r mc ms) : eV M pc lv (.int (nI b) :: .int (nI a) :: st) w r mc ms := by
  refine ev_iadd d ?_
  rw [nI_add]
  exact k
theorem ev_isubN {a b : Nat} (d : decode M.1 pc = .ok (.isub, 1)) (h : b ≤ a) (k : eV M (pc + 1) lv (.int (nI (a - b)) :: st) w r mc ms) : eV M pc lv (.int (nI b) :: .int (nI a) :: st) w r mc ms := by
  refine ev_isub d ?_
  rw [pk_sub h]
  exact k
theorem ev_imulN {a b : Nat} (d : decode M.1 pc = .ok (.imul, 1)) (k : eV M (pc + 1) lv (.int (nI (a * b)) :: st) w r mc ms) : eV M pc lv (.int (nI b) :: .int (nI a) :: st) w r mc ms := by
  refine ev_imul d ?_
  rw [pk_mul]
  exact k
theorem ev_idivN {a b : Nat} (d : decode M.1 pc = .ok (.idiv, 1)) (ha : a < 2 ^ 31) (h0 : 0 < b) (hb : b < 2 ^ 31) (k : eV M (pc + 1) lv (.int (nI (a / b)) :: st) w r mc ms) : eV M pc lv (.int (nI b) :: .int (nI a) :: st) w r mc ms := by
  refine ev_idiv d (nI_ne0 h0 hb) ?_
  rw [pk_div ha h0 hb]
  exact k
theorem ev_iremN {a b : Nat} (d : decode M.1 pc = .ok (.irem, 1)) (ha : a < 2 ^ 31) (h0 : 0 < b) (hb : b < 2 ^ 31) (k : eV M (pc + 1) lv (.int (nI (a % b)) :: st) w r mc ms) : eV M pc lv (.int (nI b) :: .int (nI a) :: st) w r mc ms := by
  refine ev_irem d (nI_ne0 h0 hb) ?_
  rw [pk_rem ha h0 hb]
  exact k
theorem ev_iincN {i a : Nat} (d : decode M.1 pc = .ok (.iinc i 1, 3)) (hk : lk lv i = some (.int (nI a))) (hn : i < M.2.1) (k : eV M (pc + 3) ((i, .int (nI (a + 1))) :: lv) st w r mc ms) : eV M pc lv st w r mc ms := ev_iinc d hk (nI_1 a) hn k
theorem ev_iincD {i a : Nat} (d : decode M.1 pc = .ok (.iinc i (-1), 3)) (hk : lk lv i = some (.int (nI (a + 1)))) (hn : i < M.2.1) (k : eV M (pc + 3) ((i, .int (nI a)) :: lv) st w r mc ms) : eV M pc lv st w r mc ms := ev_iinc d hk (pk_m1 a) hn k
theorem ev_icmp_eqN {a b : Nat} {off : Int} {tgt : Nat} (d : decode M.1 pc = .ok (.if_icmp .eq off, 3)) (ht : (pc : Int) + off = (tgt : Int)) (ha : a < 2 ^ 31) (hb : b < 2 ^ 31) (kt : a = b → eV M tgt lv st w r mc ms) (kf : a ≠ b → eV M (pc + 3) lv st w r mc ms) : eV M pc lv (.int (nI b) :: .int (nI a) :: st) w r mc ms :=
  ev_icmp_eq d ht (fun q => kt ((nI_eq ha hb).mp q)) (fun q => kf (fun e => q ((nI_eq ha hb).mpr e)))
theorem ev_icmp_neN {a b : Nat} {off : Int} {tgt : Nat} (d : decode M.1 pc = .ok (.if_icmp .ne off, 3)) (ht : (pc : Int) + off = (tgt : Int)) (ha : a < 2 ^ 31) (hb : b < 2 ^ 31) (kt : a ≠ b → eV M tgt lv st w r mc ms) (kf : a = b → eV M (pc + 3) lv st w r mc ms) : eV M pc lv (.int (nI b) :: .int (nI a) :: st) w r mc ms :=
  ev_icmp_ne d ht (fun q => kt (fun e => q ((nI_eq ha hb).mpr e))) (fun q => kf ((nI_eq ha hb).mp q))
theorem ev_icmp_ltN {a b : Nat} {off : Int} {tgt : Nat} (d : decode M.1 pc = .ok (.if_icmp .lt off, 3)) (ht : (pc : Int) + off = (tgt : Int)) (ha : a < 2 ^ 31) (hb : b < 2 ^ 31) (kt : a < b → eV M tgt lv st w r mc ms) (kf : b ≤ a → eV M (pc + 3) lv st w r mc ms) : eV M pc lv (.int (nI b) :: .int (nI a) :: st) w r mc ms :=
  ev_icmp_lt d ht (fun q => kt ((nI_ltI ha hb).mp q)) (fun q => kf (Nat.not_lt.mp (fun e => q ((nI_ltI ha hb).mpr e))))
theorem ev_icmp_geN {a b : Nat} {off : Int} {tgt : Nat} (d : decode M.1 pc = .ok (.if_icmp .ge off, 3)) (ht : (pc : Int) + off = (tgt : Int)) (ha : a < 2 ^ 31) (hb : b < 2 ^ 31) (kt : b ≤ a → eV M tgt lv st w r mc ms) (kf : a < b → eV M (pc + 3) lv st w r mc ms) : eV M pc lv (.int (nI b) :: .int (nI a) :: st) w r mc ms :=
  ev_icmp_ge d ht (fun q => kt ((nI_leI hb ha).mp q)) (fun q => kf (Nat.not_le.mp (fun e => q ((nI_leI hb ha).mpr e))))
theorem ev_icmp_gtN {a b : Nat} {off : Int} {tgt : Nat} (d : decode M.1 pc = .ok (.if_icmp .gt off, 3)) (ht : (pc : Int) + off = (tgt : Int)) (ha : a < 2 ^ 31) (hb : b < 2 ^ 31) (kt : b < a → eV M tgt lv st w r mc ms) (kf : a ≤ b → eV M (pc + 3) lv st w r mc ms) : eV M pc lv (.int (nI b) :: .int (nI a) :: st) w r mc ms :=
  ev_icmp_gt d ht (fun q => kt ((nI_ltI hb ha).mp q)) (fun q => kf (Nat.not_lt.mp (fun e => q ((nI_ltI hb ha).mpr e))))
theorem ev_icmp_leN {a b : Nat} {off : Int} {tgt : Nat} (d : decode M.1 pc = .ok (.if_icmp .le off, 3)) (ht : (pc : Int) + off = (tgt : Int)) (ha : a < 2 ^ 31) (hb : b < 2 ^ 31) (kt : a ≤ b → eV M tgt lv st w r mc ms) (kf : b < a → eV M (pc + 3) lv st w r mc ms) : eV M pc lv (.int (nI b) :: .int (nI a) :: st) w r mc ms :=
  ev_icmp_le d ht (fun q => kt ((nI_leI ha hb).mp q)) (fun q => kf (Nat.not_le.mp (fun e => q ((nI_leI ha hb).mpr e))))
theorem ev_if_eqN {a : Nat} {off : Int} {tgt : Nat} (d : decode M.1 pc = .ok (.ifCond .eq off, 3)) (ht : (pc : Int) + off = (tgt : Int)) (ha : a < 2 ^ 31) (kt : a = 0 → eV M tgt lv st w r mc ms) (kf : a ≠ 0 → eV M (pc + 3) lv st w r mc ms) : eV M pc lv (.int (nI a) :: st) w r mc ms :=
  ev_if_eq d ht (fun q => kt ((nI_eq ha (by decide : 0 < 2 ^ 31)).mp q)) (fun q => kf (fun e => q (by rw [e]; rfl)))
theorem ev_if_neN {a : Nat} {off : Int} {tgt : Nat} (d : decode M.1 pc = .ok (.ifCond .ne off, 3)) (ht : (pc : Int) + off = (tgt : Int)) (ha : a < 2 ^ 31) (kt : a ≠ 0 → eV M tgt lv st w r mc ms) (kf : a = 0 → eV M (pc + 3) lv st w r mc ms) : eV M pc lv (.int (nI a) :: st) w r mc ms :=
  ev_if_ne d ht (fun q => kt (fun e => q (by rw [e]; rfl))) (fun q => kf ((nI_eq ha (by decide : 0 < 2 ^ 31)).mp q))
theorem ev_if_leN {a : Nat} {off : Int} {tgt : Nat} (d : decode M.1 pc = .ok (.ifCond .le off, 3)) (ht : (pc : Int) + off = (tgt : Int)) (ha : a < 2 ^ 31) (kt : a = 0 → eV M tgt lv st w r mc ms) (kf : a ≠ 0 → eV M (pc + 3) lv st w r mc ms) : eV M pc lv (.int (nI a) :: st) w r mc ms :=
  ev_if_le d ht (fun q => kt (by have := (nI_leI ha (by decide : 0 < 2 ^ 31)).mp q; omega)) (fun q => kf (fun e => q (by rw [e]; exact Int32.le_refl _)))
theorem ev_if_ltN {a : Nat} {off : Int} {tgt : Nat} (d : decode M.1 pc = .ok (.ifCond .lt off, 3)) (ht : (pc : Int) + off = (tgt : Int)) (ha : a < 2 ^ 31) (kf : eV M (pc + 3) lv st w r mc ms) : eV M pc lv (.int (nI a) :: st) w r mc ms :=
  ev_if_lt d ht (fun q => absurd q (nI_pos ha)) (fun _ => kf)
theorem ev_if_eqB {b : Bool} {off : Int} {tgt : Nat} (d : decode M.1 pc = .ok (.ifCond .eq off, 3)) (ht : (pc : Int) + off = (tgt : Int)) (kt : b = false → eV M tgt lv st w r mc ms) (kf : b = true → eV M (pc + 3) lv st w r mc ms) : eV M pc lv (.int (bI b) :: st) w r mc ms :=
  ev_if_eq d ht (fun q => kt (by cases b with | false => rfl | true => exact absurd q (by decide))) (fun q => kf (by cases b with | true => rfl | false => exact absurd (rfl : bI false = 0) q))
theorem ev_if_neB {b : Bool} {off : Int} {tgt : Nat} (d : decode M.1 pc = .ok (.ifCond .ne off, 3)) (ht : (pc : Int) + off = (tgt : Int)) (kt : b = true → eV M tgt lv st w r mc ms) (kf : b = false → eV M (pc + 3) lv st w r mc ms) : eV M pc lv (.int (bI b) :: st) w r mc ms :=
  ev_if_ne d ht (fun q => kt (by cases b with | true => rfl | false => exact absurd (rfl : bI false = 0) q)) (fun q => kf (by cases b with | false => rfl | true => exact absurd q (by decide)))
theorem ev_icmp_eqZN {x : Int32} {b : Nat} {off : Int} {tgt : Nat} (d : decode M.1 pc = .ok (.if_icmp .eq off, 3)) (ht : (pc : Int) + off = (tgt : Int)) (hb : b < 2 ^ 31) (kt : x.toInt = (b : Int) → eV M tgt lv st w r mc ms) (kf : x.toInt ≠ (b : Int) → eV M (pc + 3) lv st w r mc ms) : eV M pc lv (.int (nI b) :: .int x :: st) w r mc ms :=
  ev_icmp_eq d ht (fun q => kt (by have h9 := q; simp only [Int32.lt_iff_toInt_lt, Int32.le_iff_toInt_le, ← Int32.toInt_inj, nI_toInt hb] at h9; omega)) (fun q => kf (by have h9 := q; simp only [Int32.lt_iff_toInt_lt, Int32.le_iff_toInt_le, ← Int32.toInt_inj, nI_toInt hb] at h9; omega))
theorem ev_icmp_eqNZ {y : Int32} {a : Nat} {off : Int} {tgt : Nat} (d : decode M.1 pc = .ok (.if_icmp .eq off, 3)) (ht : (pc : Int) + off = (tgt : Int)) (ha : a < 2 ^ 31) (kt : (a : Int) = y.toInt → eV M tgt lv st w r mc ms) (kf : (a : Int) ≠ y.toInt → eV M (pc + 3) lv st w r mc ms) : eV M pc lv (.int y :: .int (nI a) :: st) w r mc ms :=
  ev_icmp_eq d ht (fun q => kt (by have h9 := q; simp only [Int32.lt_iff_toInt_lt, Int32.le_iff_toInt_le, ← Int32.toInt_inj, nI_toInt ha] at h9; omega)) (fun q => kf (by have h9 := q; simp only [Int32.lt_iff_toInt_lt, Int32.le_iff_toInt_le, ← Int32.toInt_inj, nI_toInt ha] at h9; omega))
theorem ev_icmp_eqZZ {x y : Int32} {off : Int} {tgt : Nat} (d : decode M.1 pc = .ok (.if_icmp .eq off, 3)) (ht : (pc : Int) + off = (tgt : Int))  (kt : x.toInt = y.toInt → eV M tgt lv st w r mc ms) (kf : x.toInt ≠ y.toInt → eV M (pc + 3) lv st w r mc ms) : eV M pc lv (.int y :: .int x :: st) w r mc ms :=
  ev_icmp_eq d ht (fun q => kt (by have h9 := q; simp only [Int32.lt_iff_toInt_lt, Int32.le_iff_toInt_le, ← Int32.toInt_inj] at h9; omega)) (fun q => kf (by have h9 := q; simp only [Int32.lt_iff_toInt_lt, Int32.le_iff_toInt_le, ← Int32.toInt_inj] at h9; omega))
theorem ev_icmp_neZN {x : Int32} {b : Nat} {off : Int} {tgt : Nat} (d : decode M.1 pc = .ok (.if_icmp .ne off, 3)) (ht : (pc : Int) + off = (tgt : Int)) (hb : b < 2 ^ 31) (kt : x.toInt ≠ (b : Int) → eV M tgt lv st w r mc ms) (kf : x.toInt = (b : Int) → eV M (pc + 3) lv st w r mc ms) : eV M pc lv (.int (nI b) :: .int x :: st) w r mc ms :=
  ev_icmp_ne d ht (fun q => kt (by have h9 := q; simp only [Int32.lt_iff_toInt_lt, Int32.le_iff_toInt_le, ← Int32.toInt_inj, nI_toInt hb] at h9; omega)) (fun q => kf (by have h9 := q; simp only [Int32.lt_iff_toInt_lt, Int32.le_iff_toInt_le, ← Int32.toInt_inj, nI_toInt hb] at h9; omega))
theorem ev_icmp_neNZ {y : Int32} {a : Nat} {off : Int} {tgt : Nat} (d : decode M.1 pc = .ok (.if_icmp .ne off, 3)) (ht : (pc : Int) + off = (tgt : Int)) (ha : a < 2 ^ 31) (kt : (a : Int) ≠ y.toInt → eV M tgt lv st w r mc ms) (kf : (a : Int) = y.toInt → eV M (pc + 3) lv st w r mc ms) : eV M pc lv (.int y :: .int (nI a) :: st) w r mc ms :=
  ev_icmp_ne d ht (fun q => kt (by have h9 := q; simp only [Int32.lt_iff_toInt_lt, Int32.le_iff_toInt_le, ← Int32.toInt_inj, nI_toInt ha] at h9; omega)) (fun q => kf (by have h9 := q; simp only [Int32.lt_iff_toInt_lt, Int32.le_iff_toInt_le, ← Int32.toInt_inj, nI_toInt ha] at h9; omega))
theorem ev_icmp_neZZ {x y : Int32} {off : Int} {tgt : Nat} (d : decode M.1 pc = .ok (.if_icmp .ne off, 3)) (ht : (pc : Int) + off = (tgt : Int))  (kt : x.toInt ≠ y.toInt → eV M tgt lv st w r mc ms) (kf : x.toInt = y.toInt → eV M (pc + 3) lv st w r mc ms) : eV M pc lv (.int y :: .int x :: st) w r mc ms :=
  ev_icmp_ne d ht (fun q => kt (by have h9 := q; simp only [Int32.lt_iff_toInt_lt, Int32.le_iff_toInt_le, ← Int32.toInt_inj] at h9; omega)) (fun q => kf (by have h9 := q; simp only [Int32.lt_iff_toInt_lt, Int32.le_iff_toInt_le, ← Int32.toInt_inj] at h9; omega))
theorem ev_icmp_ltZN {x : Int32} {b : Nat} {off : Int} {tgt : Nat} (d : decode M.1 pc = .ok (.if_icmp .lt off, 3)) (ht : (pc : Int) + off = (tgt : Int)) (hb : b < 2 ^ 31) (kt : x.toInt < (b : Int) → eV M tgt lv st w r mc ms) (kf : (b : Int) ≤ x.toInt → eV M (pc + 3) lv st w r mc ms) : eV M pc lv (.int (nI b) :: .int x :: st) w r mc ms :=
  ev_icmp_lt d ht (fun q => kt (by have h9 := q; simp only [Int32.lt_iff_toInt_lt, Int32.le_iff_toInt_le, ← Int32.toInt_inj, nI_toInt hb] at h9; omega)) (fun q => kf (by have h9 := q; simp only [Int32.lt_iff_toInt_lt, Int32.le_iff_toInt_le, ← Int32.toInt_inj, nI_toInt hb] at h9; omega))
theorem ev_icmp_ltNZ {y : Int32} {a : Nat} {off : Int} {tgt : Nat} (d : decode M.1 pc = .ok (.if_icmp .lt off, 3)) (ht : (pc : Int) + off = (tgt : Int)) (ha : a < 2 ^ 31) (kt : (a : Int) < y.toInt → eV M tgt lv st w r mc ms) (kf : y.toInt ≤ (a : Int) → eV M (pc + 3) lv st w r mc ms) : eV M pc lv (.int y :: .int (nI a) :: st) w r mc ms :=
  ev_icmp_lt d ht (fun q => kt (by have h9 := q; simp only [Int32.lt_iff_toInt_lt, Int32.le_iff_toInt_le, ← Int32.toInt_inj, nI_toInt ha] at h9; omega)) (fun q => kf (by have h9 := q; simp only [Int32.lt_iff_toInt_lt, Int32.le_iff_toInt_le, ← Int32.toInt_inj, nI_toInt ha] at h9; omega))
theorem ev_icmp_ltZZ {x y : Int32} {off : Int} {tgt : Nat} (d : decode M.1 pc = .ok (.if_icmp .lt off, 3)) (ht : (pc : Int) + off = (tgt : Int))  (kt : x.toInt < y.toInt → eV M tgt lv st w r mc ms) (kf : y.toInt ≤ x.toInt → eV M (pc + 3) lv st w r mc ms) : eV M pc lv (.int y :: .int x :: st) w r mc ms :=
  ev_icmp_lt d ht (fun q => kt (by have h9 := q; simp only [Int32.lt_iff_toInt_lt, Int32.le_iff_toInt_le, ← Int32.toInt_inj] at h9; omega)) (fun q => kf (by have h9 := q; simp only [Int32.lt_iff_toInt_lt, Int32.le_iff_toInt_le, ← Int32.toInt_inj] at h9; omega))
theorem ev_icmp_geZN {x : Int32} {b : Nat} {off : Int} {tgt : Nat} (d : decode M.1 pc = .ok (.if_icmp .ge off, 3)) (ht : (pc : Int) + off = (tgt : Int)) (hb : b < 2 ^ 31) (kt : (b : Int) ≤ x.toInt → eV M tgt lv st w r mc ms) (kf : x.toInt < (b : Int) → eV M (pc + 3) lv st w r mc ms) : eV M pc lv (.int (nI b) :: .int x :: st) w r mc ms :=
  ev_icmp_ge d ht (fun q => kt (by have h9 := q; simp only [Int32.lt_iff_toInt_lt, Int32.le_iff_toInt_le, ← Int32.toInt_inj, nI_toInt hb] at h9; omega)) (fun q => kf (by have h9 := q; simp only [Int32.lt_iff_toInt_lt, Int32.le_iff_toInt_le, ← Int32.toInt_inj, nI_toInt hb] at h9; omega))
theorem ev_icmp_geNZ {y : Int32} {a : Nat} {off : Int} {tgt : Nat} (d : decode M.1 pc = .ok (.if_icmp .ge off, 3)) (ht : (pc : Int) + off = (tgt : Int)) (ha : a < 2 ^ 31) (kt : y.toInt ≤ (a : Int) → eV M tgt lv st w r mc ms) (kf : (a : Int) < y.toInt → eV M (pc + 3) lv st w r mc ms) : eV M pc lv (.int y :: .int (nI a) :: st) w r mc ms :=
  ev_icmp_ge d ht (fun q => kt (by have h9 := q; simp only [Int32.lt_iff_toInt_lt, Int32.le_iff_toInt_le, ← Int32.toInt_inj, nI_toInt ha] at h9; omega)) (fun q => kf (by have h9 := q; simp only [Int32.lt_iff_toInt_lt, Int32.le_iff_toInt_le, ← Int32.toInt_inj, nI_toInt ha] at h9; omega))
theorem ev_icmp_geZZ {x y : Int32} {off : Int} {tgt : Nat} (d : decode M.1 pc = .ok (.if_icmp .ge off, 3)) (ht : (pc : Int) + off = (tgt : Int))  (kt : y.toInt ≤ x.toInt → eV M tgt lv st w r mc ms) (kf : x.toInt < y.toInt → eV M (pc + 3) lv st w r mc ms) : eV M pc lv (.int y :: .int x :: st) w r mc ms :=
  ev_icmp_ge d ht (fun q => kt (by have h9 := q; simp only [Int32.lt_iff_toInt_lt, Int32.le_iff_toInt_le, ← Int32.toInt_inj] at h9; omega)) (fun q => kf (by have h9 := q; simp only [Int32.lt_iff_toInt_lt, Int32.le_iff_toInt_le, ← Int32.toInt_inj] at h9; omega))
theorem ev_icmp_gtZN {x : Int32} {b : Nat} {off : Int} {tgt : Nat} (d : decode M.1 pc = .ok (.if_icmp .gt off, 3)) (ht : (pc : Int) + off = (tgt : Int)) (hb : b < 2 ^ 31) (kt : (b : Int) < x.toInt → eV M tgt lv st w r mc ms) (kf : x.toInt ≤ (b : Int) → eV M (pc + 3) lv st w r mc ms) : eV M pc lv (.int (nI b) :: .int x :: st) w r mc ms :=
  ev_icmp_gt d ht (fun q => kt (by have h9 := q; simp only [Int32.lt_iff_toInt_lt, Int32.le_iff_toInt_le, ← Int32.toInt_inj, nI_toInt hb] at h9; omega)) (fun q => kf (by have h9 := q; simp only [Int32.lt_iff_toInt_lt, Int32.le_iff_toInt_le, ← Int32.toInt_inj, nI_toInt hb] at h9; omega))
theorem ev_icmp_gtNZ {y : Int32} {a : Nat} {off : Int} {tgt : Nat} (d : decode M.1 pc = .ok (.if_icmp .gt off, 3)) (ht : (pc : Int) + off = (tgt : Int)) (ha : a < 2 ^ 31) (kt : y.toInt < (a : Int) → eV M tgt lv st w r mc ms) (kf : (a : Int) ≤ y.toInt → eV M (pc + 3) lv st w r mc ms) : eV M pc lv (.int y :: .int (nI a) :: st) w r mc ms :=
  ev_icmp_gt d ht (fun q => kt (by have h9 := q; simp only [Int32.lt_iff_toInt_lt, Int32.le_iff_toInt_le, ← Int32.toInt_inj, nI_toInt ha] at h9; omega)) (fun q => kf (by have h9 := q; simp only [Int32.lt_iff_toInt_lt, Int32.le_iff_toInt_le, ← Int32.toInt_inj, nI_toInt ha] at h9; omega))
theorem ev_icmp_gtZZ {x y : Int32} {off : Int} {tgt : Nat} (d : decode M.1 pc = .ok (.if_icmp .gt off, 3)) (ht : (pc : Int) + off = (tgt : Int))  (kt : y.toInt < x.toInt → eV M tgt lv st w r mc ms) (kf : x.toInt ≤ y.toInt → eV M (pc + 3) lv st w r mc ms) : eV M pc lv (.int y :: .int x :: st) w r mc ms :=
  ev_icmp_gt d ht (fun q => kt (by have h9 := q; simp only [Int32.lt_iff_toInt_lt, Int32.le_iff_toInt_le, ← Int32.toInt_inj] at h9; omega)) (fun q => kf (by have h9 := q; simp only [Int32.lt_iff_toInt_lt, Int32.le_iff_toInt_le, ← Int32.toInt_inj] at h9; omega))
theorem ev_icmp_leZN {x : Int32} {b : Nat} {off : Int} {tgt : Nat} (d : decode M.1 pc = .ok (.if_icmp .le off, 3)) (ht : (pc : Int) + off = (tgt : Int)) (hb : b < 2 ^ 31) (kt : x.toInt ≤ (b : Int) → eV M tgt lv st w r mc ms) (kf : (b : Int) < x.toInt → eV M (pc + 3) lv st w r mc ms) : eV M pc lv (.int (nI b) :: .int x :: st) w r mc ms :=
  ev_icmp_le d ht (fun q => kt (by have h9 := q; simp only [Int32.lt_iff_toInt_lt, Int32.le_iff_toInt_le, ← Int32.toInt_inj, nI_toInt hb] at h9; omega)) (fun q => kf (by have h9 := q; simp only [Int32.lt_iff_toInt_lt, Int32.le_iff_toInt_le, ← Int32.toInt_inj, nI_toInt hb] at h9; omega))
theorem ev_icmp_leNZ {y : Int32} {a : Nat} {off : Int} {tgt : Nat} (d : decode M.1 pc = .ok (.if_icmp .le off, 3)) (ht : (pc : Int) + off = (tgt : Int)) (ha : a < 2 ^ 31) (kt : (a : Int) ≤ y.toInt → eV M tgt lv st w r mc ms) (kf : y.toInt < (a : Int) → eV M (pc + 3) lv st w r mc ms) : eV M pc lv (.int y :: .int (nI a) :: st) w r mc ms :=
  ev_icmp_le d ht (fun q => kt (by have h9 := q; simp only [Int32.lt_iff_toInt_lt, Int32.le_iff_toInt_le, ← Int32.toInt_inj, nI_toInt ha] at h9; omega)) (fun q => kf (by have h9 := q; simp only [Int32.lt_iff_toInt_lt, Int32.le_iff_toInt_le, ← Int32.toInt_inj, nI_toInt ha] at h9; omega))
theorem ev_icmp_leZZ {x y : Int32} {off : Int} {tgt : Nat} (d : decode M.1 pc = .ok (.if_icmp .le off, 3)) (ht : (pc : Int) + off = (tgt : Int))  (kt : x.toInt ≤ y.toInt → eV M tgt lv st w r mc ms) (kf : y.toInt < x.toInt → eV M (pc + 3) lv st w r mc ms) : eV M pc lv (.int y :: .int x :: st) w r mc ms :=
  ev_icmp_le d ht (fun q => kt (by have h9 := q; simp only [Int32.lt_iff_toInt_lt, Int32.le_iff_toInt_le, ← Int32.toInt_inj] at h9; omega)) (fun q => kf (by have h9 := q; simp only [Int32.lt_iff_toInt_lt, Int32.le_iff_toInt_le, ← Int32.toInt_inj] at h9; omega))
theorem ev_if_eqZ {x : Int32} {off : Int} {tgt : Nat} (d : decode M.1 pc = .ok (.ifCond .eq off, 3)) (ht : (pc : Int) + off = (tgt : Int)) (kt : x.toInt = 0 → eV M tgt lv st w r mc ms) (kf : x.toInt ≠ 0 → eV M (pc + 3) lv st w r mc ms) : eV M pc lv (.int x :: st) w r mc ms :=
  ev_if_eq d ht (fun q => kt (by have h9 := q; simp only [Int32.lt_iff_toInt_lt, Int32.le_iff_toInt_le, ← Int32.toInt_inj, Int32.toInt_zero] at h9; omega)) (fun q => kf (by have h9 := q; simp only [Int32.lt_iff_toInt_lt, Int32.le_iff_toInt_le, ← Int32.toInt_inj, Int32.toInt_zero] at h9; omega))
theorem ev_if_neZ {x : Int32} {off : Int} {tgt : Nat} (d : decode M.1 pc = .ok (.ifCond .ne off, 3)) (ht : (pc : Int) + off = (tgt : Int)) (kt : x.toInt ≠ 0 → eV M tgt lv st w r mc ms) (kf : x.toInt = 0 → eV M (pc + 3) lv st w r mc ms) : eV M pc lv (.int x :: st) w r mc ms :=
  ev_if_ne d ht (fun q => kt (by have h9 := q; simp only [Int32.lt_iff_toInt_lt, Int32.le_iff_toInt_le, ← Int32.toInt_inj, Int32.toInt_zero] at h9; omega)) (fun q => kf (by have h9 := q; simp only [Int32.lt_iff_toInt_lt, Int32.le_iff_toInt_le, ← Int32.toInt_inj, Int32.toInt_zero] at h9; omega))
theorem ev_if_ltZ {x : Int32} {off : Int} {tgt : Nat} (d : decode M.1 pc = .ok (.ifCond .lt off, 3)) (ht : (pc : Int) + off = (tgt : Int)) (kt : x.toInt < 0 → eV M tgt lv st w r mc ms) (kf : 0 ≤ x.toInt → eV M (pc + 3) lv st w r mc ms) : eV M pc lv (.int x :: st) w r mc ms :=
  ev_if_lt d ht (fun q => kt (by have h9 := q; simp only [Int32.lt_iff_toInt_lt, Int32.le_iff_toInt_le, ← Int32.toInt_inj, Int32.toInt_zero] at h9; omega)) (fun q => kf (by have h9 := q; simp only [Int32.lt_iff_toInt_lt, Int32.le_iff_toInt_le, ← Int32.toInt_inj, Int32.toInt_zero] at h9; omega))
theorem ev_if_geZ {x : Int32} {off : Int} {tgt : Nat} (d : decode M.1 pc = .ok (.ifCond .ge off, 3)) (ht : (pc : Int) + off = (tgt : Int)) (kt : 0 ≤ x.toInt → eV M tgt lv st w r mc ms) (kf : x.toInt < 0 → eV M (pc + 3) lv st w r mc ms) : eV M pc lv (.int x :: st) w r mc ms :=
  ev_if_ge d ht (fun q => kt (by have h9 := q; simp only [Int32.lt_iff_toInt_lt, Int32.le_iff_toInt_le, ← Int32.toInt_inj, Int32.toInt_zero] at h9; omega)) (fun q => kf (by have h9 := q; simp only [Int32.lt_iff_toInt_lt, Int32.le_iff_toInt_le, ← Int32.toInt_inj, Int32.toInt_zero] at h9; omega))
theorem ev_if_gtZ {x : Int32} {off : Int} {tgt : Nat} (d : decode M.1 pc = .ok (.ifCond .gt off, 3)) (ht : (pc : Int) + off = (tgt : Int)) (kt : 0 < x.toInt → eV M tgt lv st w r mc ms) (kf : x.toInt ≤ 0 → eV M (pc + 3) lv st w r mc ms) : eV M pc lv (.int x :: st) w r mc ms :=
  ev_if_gt d ht (fun q => kt (by have h9 := q; simp only [Int32.lt_iff_toInt_lt, Int32.le_iff_toInt_le, ← Int32.toInt_inj, Int32.toInt_zero] at h9; omega)) (fun q => kf (by have h9 := q; simp only [Int32.lt_iff_toInt_lt, Int32.le_iff_toInt_le, ← Int32.toInt_inj, Int32.toInt_zero] at h9; omega))
theorem ev_if_leZ {x : Int32} {off : Int} {tgt : Nat} (d : decode M.1 pc = .ok (.ifCond .le off, 3)) (ht : (pc : Int) + off = (tgt : Int)) (kt : x.toInt ≤ 0 → eV M tgt lv st w r mc ms) (kf : 0 < x.toInt → eV M (pc + 3) lv st w r mc ms) : eV M pc lv (.int x :: st) w r mc ms :=
  ev_if_le d ht (fun q => kt (by have h9 := q; simp only [Int32.lt_iff_toInt_lt, Int32.le_iff_toInt_le, ← Int32.toInt_inj, Int32.toInt_zero] at h9; omega)) (fun q => kf (by have h9 := q; simp only [Int32.lt_iff_toInt_lt, Int32.le_iff_toInt_le, ← Int32.toInt_inj, Int32.toInt_zero] at h9; omega))
theorem oI_none (o : Option Nat) (hb : ∀ k, o = some k → k < 2 ^ 31) : oI o = -1 ↔ o = none := by
  cases o with
  | none => exact ⟨fun _ => rfl, fun _ => rfl⟩
  | some k => exact ⟨fun h => absurd h (nI_neg (hb k rfl)), fun h => by cases h⟩
theorem oI_some {a : Nat} (o : Option Nat) (ha : a < 2 ^ 31) (hb : ∀ k, o = some k → k < 2 ^ 31) : nI a = oI o ↔ some a = o := by
  cases o with
  | none => exact ⟨fun h => absurd h (nI_neg ha), fun h => by cases h⟩
  | some k => exact ⟨fun h => by rw [(nI_eq ha (hb k rfl)).mp h], fun h => by cases h; rfl⟩
theorem ev_icmp_eqO {o : Option Nat} {off : Int} {tgt : Nat} (d : decode M.1 pc = .ok (.if_icmp .eq off, 3)) (ht : (pc : Int) + off = (tgt : Int)) (hb : ∀ k, o = some k → k < 2 ^ 31) (kt : o = none → eV M tgt lv st w r mc ms) (kf : o ≠ none → eV M (pc + 3) lv st w r mc ms) : eV M pc lv (.int (-1) :: .int (oI o) :: st) w r mc ms :=
  ev_icmp_eq d ht (fun q => kt ((oI_none o hb).mp q)) (fun q => kf (fun e => q ((oI_none o hb).mpr e)))
theorem ev_icmp_neO {o : Option Nat} {off : Int} {tgt : Nat} (d : decode M.1 pc = .ok (.if_icmp .ne off, 3)) (ht : (pc : Int) + off = (tgt : Int)) (hb : ∀ k, o = some k → k < 2 ^ 31) (kt : o ≠ none → eV M tgt lv st w r mc ms) (kf : o = none → eV M (pc + 3) lv st w r mc ms) : eV M pc lv (.int (-1) :: .int (oI o) :: st) w r mc ms :=
  ev_icmp_ne d ht (fun q => kt (fun e => q ((oI_none o hb).mpr e))) (fun q => kf ((oI_none o hb).mp q))
theorem ev_icmp_eqNO {a : Nat} {o : Option Nat} {off : Int} {tgt : Nat} (d : decode M.1 pc = .ok (.if_icmp .eq off, 3)) (ht : (pc : Int) + off = (tgt : Int)) (ha : a < 2 ^ 31) (hb : ∀ k, o = some k → k < 2 ^ 31) (kt : some a = o → eV M tgt lv st w r mc ms) (kf : some a ≠ o → eV M (pc + 3) lv st w r mc ms) : eV M pc lv (.int (oI o) :: .int (nI a) :: st) w r mc ms :=
  ev_icmp_eq d ht (fun q => kt ((oI_some o ha hb).mp q)) (fun q => kf (fun e => q ((oI_some o ha hb).mpr e)))
end NRules
