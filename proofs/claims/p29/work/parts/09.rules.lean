/-- the listed locals that still stand: a store hides what it writes over -/
def eff : List (Nat × Value) → List (Nat × Value)
  | [] => []
  | (i, .long x) :: t => (i, .long x) :: (eff t).filter (fun q => !(q.1 == i) && (!(q.1 == i + 1) && !(q.1 + 1 == i && q.2.category == 2)))
  | (i, v) :: t => (i, v) :: (eff t).filter (fun q => !(q.1 == i) && !(q.1 + 1 == i && q.2.category == 2))
def lk (lv : List (Nat × Value)) (i : Nat) : Option Value := ((eff lv).find? (fun q => q.1 == i)).map (fun q => q.2)
theorem lk_at {arr : Array Slot} {nL : Nat} {lv : List (Nat × Value)} (h : lv_has arr nL (eff lv)) {i : Nat} {v : Value} (hk : lk lv i = some v) : arr[i]? = some (.val v) := by
  unfold lk at hk
  cases hf : (eff lv).find? (fun q => q.1 == i) with
  | none => rw [hf] at hk; cases hk
  | some q =>
    rw [hf] at hk
    have e1 : q.2 = v := Option.some.inj hk
    have e2 : q.1 = i := by
      have := List.find?_some hf
      simpa using this
    have := h.2.2 q (List.mem_of_find?_eq_some hf)
    rw [e1, e2] at this
    exact this
theorem lk_place {lv : List (Nat × Value)} {i : Nat} {v : Value} (hk : lk lv i = some v) : ∃ k : Nat, (eff lv)[k]? = some (i, v) := by
  unfold lk at hk
  cases hf : (eff lv).find? (fun q => q.1 == i) with
  | none => rw [hf] at hk; cases hk
  | some q =>
    rw [hf] at hk
    have e1 : q.2 = v := Option.some.inj hk
    have e2 : q.1 = i := by
      have := List.find?_some hf
      simpa using this
    obtain ⟨k, hk2⟩ := List.getElem?_of_mem (List.mem_of_find?_eq_some hf)
    exact ⟨k, by rw [hk2, ← e1, ← e2]⟩
/-- the context of a walk -/
def eK (M : eMI) (w : eH × Nat × Nat × Nat) (l : Launch) (D : va_G) (cy : Nat → ClassId) (B : Nat) (p : Program) (s : State) (m : MethodId) (args : Array Value) (meth : Method) (c : Code) (H : Heap) (locs : List Loc) : Prop :=
  l.flags = flags0 ∧ p.tables.exec = Jvm.exec ∧ c.code = M.1 ∧ c.maxLocals = M.2.1 ∧ meth.sig.returnType = M.2.2.1 ∧ meth.locks = false ∧ c.exceptionTable.toList = M.tb ∧ meth.name = M.2.2.2.2.1 ∧ s.vm.findClass M.own = some m.cls ∧
  (∀ x ∈ eW, x.before args s = true) ∧ eC D cy s ∧ eZ B s s.heap ∧ B ≤ s.heap.size ∧ va_S (fun q => B ≤ q) s.heap H locs ∧ H.size = w.2.1 ∧ eR D cy B w.1 H ∧ (∀ q, M.sc = some q → va_X q.1 q.2.1 q.2.2 s s.heap ∧ q.1 < s.heap.size ∧ q.1 < B)
def eV (M : eMI) (pc : Nat) (lv : List (Nat × Value)) (st : List Value) (w : eH × Nat × Nat × Nat) (r : eRes) (mc ms : Nat) : Prop :=
  ∀ (l : Launch) (D : va_G) (cy : Nat → ClassId) (B : Nat) (p : Program) (e : Env) (s : State) (m : MethodId) (args : Array Value) (below : List Frame) (meth : Method) (c : Code) (H : Heap) (locs : List Loc) (arr : Array Slot),
    eK M w l D cy B p s m args meth c H locs → lv_has arr M.2.1 (eff lv) →
    W p l e ({ frames := M.fr, cells := mc, slots := ms, locals := M.lo }) s m args below meth c H locs w.2.2.1 w.2.2.2 (vx_MQ below (eQc D cy B r) (eXc D cy B r) args s mc ms (fun q => B ≤ q)) (F0 m pc arr st)
section EvRules
variable {M : eMI} {pc : Nat} {lv : List (Nat × Value)} {st : List Value} {w : eH × Nat × Nat × Nat} {r : eRes} {mc ms : Nat}
theorem eV.sub {lv' : List (Nat × Value)} (h : ∀ q ∈ lv', lk lv q.1 = some q.2) (he : eff lv' = lv') (k : eV M pc lv' st w r mc ms) : eV M pc lv st w r mc ms := by
  intro l D cy B p e s m args below meth c H locs arr K hl
  refine k l D cy B p e s m args below meth c H locs arr K ⟨hl.1, hl.2.1, fun q hq => ?_⟩
  rw [he] at hq
  exact lk_at hl (h q hq)
/-- another view of the same heap -/
theorem eV.heap {h h' : eH} {n c0 s0 : Nat} (hh : ∀ (D : va_G) (cy : Nat → ClassId) (B : Nat) (H : Heap), eR D cy B h H → eR D cy B h' H) (k : eV M pc lv st (h', n, c0, s0) r mc ms) : eV M pc lv st (h, n, c0, s0) r mc ms := by
  intro l D cy B p e s m args below meth c H locs arr K hl
  obtain ⟨k1, k2, k3, k4, k5, k6, k7, k8, k9, k10, k11, k12, k13, k14, k15, k16, k17⟩ := K
  exact k l D cy B p e s m args below meth c H locs arr ⟨k1, k2, k3, k4, k5, k6, k7, k8, k9, k10, k11, k12, k13, k14, k15, hh D cy B H k16, k17⟩ hl

theorem ev_iconst {n : Int} {v : Int32} (d : decode M.1 pc = .ok (.iconst n, 1)) (hv : Int32.ofInt n = v) (k : eV M (pc + 1) lv (.int v :: st) w r mc ms) : eV M pc lv (st) w r mc ms := fun l D cy B p e s m args below meth c H locs arr K hl => lv_iconst K.2.1 K.2.2.1 d hv (k l D cy B p e s m args below meth c H locs arr K hl)
theorem ev_bipush {n : Int} {v : Int32} (d : decode M.1 pc = .ok (.bipush n, 2)) (hv : (Int8.ofInt n).toInt32 = v) (k : eV M (pc + 2) lv (.int v :: st) w r mc ms) : eV M pc lv (st) w r mc ms := fun l D cy B p e s m args below meth c H locs arr K hl => lv_bipush K.2.1 K.2.2.1 d hv (k l D cy B p e s m args below meth c H locs arr K hl)
theorem ev_sipush {n : Int} {v : Int32} (d : decode M.1 pc = .ok (.sipush n, 3)) (hv : (Int16.ofInt n).toInt32 = v) (k : eV M (pc + 3) lv (.int v :: st) w r mc ms) : eV M pc lv (st) w r mc ms := fun l D cy B p e s m args below meth c H locs arr K hl => lv_sipush K.2.1 K.2.2.1 d hv (k l D cy B p e s m args below meth c H locs arr K hl)
theorem ev_lconst {n : Fin 2} {v : Int64} (d : decode M.1 pc = .ok (.lconst n, 1)) (hv : Int64.ofNat (n : Nat) = v) (k : eV M (pc + 1) lv (.long v :: st) w r mc ms) : eV M pc lv (st) w r mc ms := fun l D cy B p e s m args below meth c H locs arr K hl => lv_lconst K.2.1 K.2.2.1 d hv (k l D cy B p e s m args below meth c H locs arr K hl)
theorem ev_iload_n {j : Fin 4} {i : Nat} {x : Int32} (d : decode M.1 pc = .ok (.iload_n j, 1)) (hi : (j : Nat) = i) (hk : lk lv i = some (.int x)) (k : eV M (pc + 1) lv (.int x :: st) w r mc ms) : eV M pc lv (st) w r mc ms := fun l D cy B p e s m args below meth c H locs arr K hl => lv_iload_n K.2.1 K.2.2.1 d hi (lk_at hl hk) (k l D cy B p e s m args below meth c H locs arr K hl)
theorem ev_iload {i : Nat} {x : Int32} (d : decode M.1 pc = .ok (.iload i, 2)) (hk : lk lv i = some (.int x)) (k : eV M (pc + 2) lv (.int x :: st) w r mc ms) : eV M pc lv (st) w r mc ms := fun l D cy B p e s m args below meth c H locs arr K hl => lv_iload K.2.1 K.2.2.1 d (lk_at hl hk) (k l D cy B p e s m args below meth c H locs arr K hl)
theorem ev_istore_n {j : Fin 4} {i : Nat} {x : Int32} (d : decode M.1 pc = .ok (.istore_n j, 1)) (hi : (j : Nat) = i) (hn : i < M.2.1) (k : eV M (pc + 1) ((i, .int x) :: lv) st w r mc ms) : eV M pc lv (.int x :: st) w r mc ms := fun l D cy B p e s m args below meth c H locs arr K hl => lv_istore_n (lv' := eff ((i, .int x) :: lv)) K.2.1 K.2.2.1 d hi hl hn rfl (fun arr' hl' => k l D cy B p e s m args below meth c H locs arr' K hl')
theorem ev_istore {i : Nat} {x : Int32} (d : decode M.1 pc = .ok (.istore i, 2)) (hn : i < M.2.1) (k : eV M (pc + 2) ((i, .int x) :: lv) st w r mc ms) : eV M pc lv (.int x :: st) w r mc ms := fun l D cy B p e s m args below meth c H locs arr K hl => lv_istore (lv' := eff ((i, .int x) :: lv)) K.2.1 K.2.2.1 d hl hn rfl (fun arr' hl' => k l D cy B p e s m args below meth c H locs arr' K hl')
theorem ev_lload_n {j : Fin 4} {i : Nat} {x : Int64} (d : decode M.1 pc = .ok (.lload_n j, 1)) (hi : (j : Nat) = i) (hk : lk lv i = some (.long x)) (k : eV M (pc + 1) lv (.long x :: st) w r mc ms) : eV M pc lv (st) w r mc ms := fun l D cy B p e s m args below meth c H locs arr K hl => lv_lload_n K.2.1 K.2.2.1 d hi (lk_at hl hk) (k l D cy B p e s m args below meth c H locs arr K hl)
theorem ev_lload {i : Nat} {x : Int64} (d : decode M.1 pc = .ok (.lload i, 2)) (hk : lk lv i = some (.long x)) (k : eV M (pc + 2) lv (.long x :: st) w r mc ms) : eV M pc lv (st) w r mc ms := fun l D cy B p e s m args below meth c H locs arr K hl => lv_lload K.2.1 K.2.2.1 d (lk_at hl hk) (k l D cy B p e s m args below meth c H locs arr K hl)
theorem ev_lstore_n {j : Fin 4} {i : Nat} {x : Int64} (d : decode M.1 pc = .ok (.lstore_n j, 1)) (hi : (j : Nat) = i) (hn : i + 1 < M.2.1) (k : eV M (pc + 1) ((i, .long x) :: lv) st w r mc ms) : eV M pc lv (.long x :: st) w r mc ms := fun l D cy B p e s m args below meth c H locs arr K hl => lv_lstore_n (lv' := eff ((i, .long x) :: lv)) K.2.1 K.2.2.1 d hi hl hn rfl (fun arr' hl' => k l D cy B p e s m args below meth c H locs arr' K hl')
theorem ev_lstore {i : Nat} {x : Int64} (d : decode M.1 pc = .ok (.lstore i, 2)) (hn : i + 1 < M.2.1) (k : eV M (pc + 2) ((i, .long x) :: lv) st w r mc ms) : eV M pc lv (.long x :: st) w r mc ms := fun l D cy B p e s m args below meth c H locs arr K hl => lv_lstore (lv' := eff ((i, .long x) :: lv)) K.2.1 K.2.2.1 d hl hn rfl (fun arr' hl' => k l D cy B p e s m args below meth c H locs arr' K hl')
theorem ev_aload_n {j : Fin 4} {i : Nat} {x : Nat} (d : decode M.1 pc = .ok (.aload_n j, 1)) (hi : (j : Nat) = i) (hk : lk lv i = some (.ref x)) (k : eV M (pc + 1) lv (.ref x :: st) w r mc ms) : eV M pc lv (st) w r mc ms := fun l D cy B p e s m args below meth c H locs arr K hl => lv_aload_n K.2.1 K.2.2.1 d hi (lk_at hl hk) (k l D cy B p e s m args below meth c H locs arr K hl)
theorem ev_aload {i : Nat} {x : Nat} (d : decode M.1 pc = .ok (.aload i, 2)) (hk : lk lv i = some (.ref x)) (k : eV M (pc + 2) lv (.ref x :: st) w r mc ms) : eV M pc lv (st) w r mc ms := fun l D cy B p e s m args below meth c H locs arr K hl => lv_aload K.2.1 K.2.2.1 d (lk_at hl hk) (k l D cy B p e s m args below meth c H locs arr K hl)
theorem ev_astore_n {j : Fin 4} {i : Nat} {x : Nat} (d : decode M.1 pc = .ok (.astore_n j, 1)) (hi : (j : Nat) = i) (hn : i < M.2.1) (k : eV M (pc + 1) ((i, .ref x) :: lv) st w r mc ms) : eV M pc lv (.ref x :: st) w r mc ms := fun l D cy B p e s m args below meth c H locs arr K hl => lv_astore_n (lv' := eff ((i, .ref x) :: lv)) K.2.1 K.2.2.1 d hi hl hn rfl (fun arr' hl' => k l D cy B p e s m args below meth c H locs arr' K hl')
theorem ev_astore {i : Nat} {x : Nat} (d : decode M.1 pc = .ok (.astore i, 2)) (hn : i < M.2.1) (k : eV M (pc + 2) ((i, .ref x) :: lv) st w r mc ms) : eV M pc lv (.ref x :: st) w r mc ms := fun l D cy B p e s m args below meth c H locs arr K hl => lv_astore (lv' := eff ((i, .ref x) :: lv)) K.2.1 K.2.2.1 d hl hn rfl (fun arr' hl' => k l D cy B p e s m args below meth c H locs arr' K hl')
theorem ev_iinc {i : Nat} {n : Int} {x v : Int32} (d : decode M.1 pc = .ok (.iinc i n, 3)) (hk : lk lv i = some (.int x)) (hv : x + Int32.ofInt n = v) (hn : i < M.2.1) (k : eV M (pc + 3) ((i, .int v) :: lv) st w r mc ms) : eV M pc lv st w r mc ms := fun l D cy B p e s m args below meth c H locs arr K hl => by
  obtain ⟨kk, hkk⟩ := lk_place hk
  exact lv_iinc (lv' := eff ((i, .int v) :: lv)) K.2.1 K.2.2.1 d hl hkk hv hn rfl (fun arr' hl' => k l D cy B p e s m args below meth c H locs arr' K hl')
theorem ev_iadd {x y : Int32} (d : decode M.1 pc = .ok (.iadd, 1)) (k : eV M (pc + 1) lv (.int (x + y) :: st) w r mc ms) : eV M pc lv (.int y :: .int x :: st) w r mc ms := fun l D cy B p e s m args below meth c H locs arr K hl => lv_iadd K.2.1 K.2.2.1 d (k l D cy B p e s m args below meth c H locs arr K hl)
theorem ev_isub {x y : Int32} (d : decode M.1 pc = .ok (.isub, 1)) (k : eV M (pc + 1) lv (.int (x - y) :: st) w r mc ms) : eV M pc lv (.int y :: .int x :: st) w r mc ms := fun l D cy B p e s m args below meth c H locs arr K hl => lv_isub K.2.1 K.2.2.1 d (k l D cy B p e s m args below meth c H locs arr K hl)
theorem ev_imul {x y : Int32} (d : decode M.1 pc = .ok (.imul, 1)) (k : eV M (pc + 1) lv (.int (x * y) :: st) w r mc ms) : eV M pc lv (.int y :: .int x :: st) w r mc ms := fun l D cy B p e s m args below meth c H locs arr K hl => lv_imul K.2.1 K.2.2.1 d (k l D cy B p e s m args below meth c H locs arr K hl)
theorem ev_iand {x y : Int32} (d : decode M.1 pc = .ok (.iand, 1)) (k : eV M (pc + 1) lv (.int (x &&& y) :: st) w r mc ms) : eV M pc lv (.int y :: .int x :: st) w r mc ms := fun l D cy B p e s m args below meth c H locs arr K hl => lv_iand K.2.1 K.2.2.1 d (k l D cy B p e s m args below meth c H locs arr K hl)
theorem ev_idiv {x y : Int32} (d : decode M.1 pc = .ok (.idiv, 1)) (hne : ¬ y = 0) (k : eV M (pc + 1) lv (.int (x / y) :: st) w r mc ms) : eV M pc lv (.int y :: .int x :: st) w r mc ms := fun l D cy B p e s m args below meth c H locs arr K hl => lv_idiv K.2.1 K.2.2.1 d hne (k l D cy B p e s m args below meth c H locs arr K hl)
theorem ev_irem {x y : Int32} (d : decode M.1 pc = .ok (.irem, 1)) (hne : ¬ y = 0) (k : eV M (pc + 1) lv (.int (x - x / y * y) :: st) w r mc ms) : eV M pc lv (.int y :: .int x :: st) w r mc ms := fun l D cy B p e s m args below meth c H locs arr K hl => lv_irem K.2.1 K.2.2.1 d hne (k l D cy B p e s m args below meth c H locs arr K hl)
theorem ev_ladd {x y : Int64} (d : decode M.1 pc = .ok (.ladd, 1)) (k : eV M (pc + 1) lv (.long (x + y) :: st) w r mc ms) : eV M pc lv (.long y :: .long x :: st) w r mc ms := fun l D cy B p e s m args below meth c H locs arr K hl => lv_ladd K.2.1 K.2.2.1 d (k l D cy B p e s m args below meth c H locs arr K hl)
theorem ev_lsub {x y : Int64} (d : decode M.1 pc = .ok (.lsub, 1)) (k : eV M (pc + 1) lv (.long (x - y) :: st) w r mc ms) : eV M pc lv (.long y :: .long x :: st) w r mc ms := fun l D cy B p e s m args below meth c H locs arr K hl => lv_lsub K.2.1 K.2.2.1 d (k l D cy B p e s m args below meth c H locs arr K hl)
theorem ev_lmul {x y : Int64} (d : decode M.1 pc = .ok (.lmul, 1)) (k : eV M (pc + 1) lv (.long (x * y) :: st) w r mc ms) : eV M pc lv (.long y :: .long x :: st) w r mc ms := fun l D cy B p e s m args below meth c H locs arr K hl => lv_lmul K.2.1 K.2.2.1 d (k l D cy B p e s m args below meth c H locs arr K hl)
theorem ev_land {x y : Int64} (d : decode M.1 pc = .ok (.land, 1)) (k : eV M (pc + 1) lv (.long (x &&& y) :: st) w r mc ms) : eV M pc lv (.long y :: .long x :: st) w r mc ms := fun l D cy B p e s m args below meth c H locs arr K hl => lv_land K.2.1 K.2.2.1 d (k l D cy B p e s m args below meth c H locs arr K hl)
theorem ev_lor {x y : Int64} (d : decode M.1 pc = .ok (.lor, 1)) (k : eV M (pc + 1) lv (.long (x ||| y) :: st) w r mc ms) : eV M pc lv (.long y :: .long x :: st) w r mc ms := fun l D cy B p e s m args below meth c H locs arr K hl => lv_lor K.2.1 K.2.2.1 d (k l D cy B p e s m args below meth c H locs arr K hl)
theorem ev_ldiv {x y : Int64} (d : decode M.1 pc = .ok (.ldiv, 1)) (hne : ¬ y = 0) (k : eV M (pc + 1) lv (.long (x / y) :: st) w r mc ms) : eV M pc lv (.long y :: .long x :: st) w r mc ms := fun l D cy B p e s m args below meth c H locs arr K hl => lv_ldiv K.2.1 K.2.2.1 d hne (k l D cy B p e s m args below meth c H locs arr K hl)
theorem ev_lrem {x y : Int64} (d : decode M.1 pc = .ok (.lrem, 1)) (hne : ¬ y = 0) (k : eV M (pc + 1) lv (.long (x - x / y * y) :: st) w r mc ms) : eV M pc lv (.long y :: .long x :: st) w r mc ms := fun l D cy B p e s m args below meth c H locs arr K hl => lv_lrem K.2.1 K.2.2.1 d hne (k l D cy B p e s m args below meth c H locs arr K hl)
theorem ev_i2l {x : Int32} {v : Int64} (d : decode M.1 pc = .ok (.i2l, 1)) (hv : x.toInt64 = v) (k : eV M (pc + 1) lv (.long v :: st) w r mc ms) : eV M pc lv (.int x :: st) w r mc ms := fun l D cy B p e s m args below meth c H locs arr K hl => lv_i2l K.2.1 K.2.2.1 d hv (k l D cy B p e s m args below meth c H locs arr K hl)
theorem ev_l2i {x : Int64} {v : Int32} (d : decode M.1 pc = .ok (.l2i, 1)) (hv : x.toInt32 = v) (k : eV M (pc + 1) lv (.int v :: st) w r mc ms) : eV M pc lv (.long x :: st) w r mc ms := fun l D cy B p e s m args below meth c H locs arr K hl => lv_l2i K.2.1 K.2.2.1 d hv (k l D cy B p e s m args below meth c H locs arr K hl)
theorem ev_i2c {x v : Int32} (d : decode M.1 pc = .ok (.i2c, 1)) (hv : (x.toUInt32 % 65536).toInt32 = v) (k : eV M (pc + 1) lv (.int v :: st) w r mc ms) : eV M pc lv (.int x :: st) w r mc ms := fun l D cy B p e s m args below meth c H locs arr K hl => lv_i2c K.2.1 K.2.2.1 d hv (k l D cy B p e s m args below meth c H locs arr K hl)
theorem ev_lushr {x v : Int64} {y : Int32} (d : decode M.1 pc = .ok (.lushr, 1)) (hv : (x.toUInt64 >>> (y.toInt64.toUInt64 &&& Int64.toUInt64 63)).toInt64 = v) (k : eV M (pc + 1) lv (.long v :: st) w r mc ms) : eV M pc lv (.int y :: .long x :: st) w r mc ms := fun l D cy B p e s m args below meth c H locs arr K hl => lv_lushr K.2.1 K.2.2.1 d hv (k l D cy B p e s m args below meth c H locs arr K hl)
theorem ev_lshl {x v : Int64} {y : Int32} (d : decode M.1 pc = .ok (.lshl, 1)) (hv : x <<< (y.toInt64 &&& 63) = v) (k : eV M (pc + 1) lv (.long v :: st) w r mc ms) : eV M pc lv (.int y :: .long x :: st) w r mc ms := fun l D cy B p e s m args below meth c H locs arr K hl => lv_lshl K.2.1 K.2.2.1 d hv (k l D cy B p e s m args below meth c H locs arr K hl)
theorem ev_dup {va : Value} (d : decode M.1 pc = .ok (.dup, 1)) (hva : va.category = 1) (k : eV M (pc + 1) lv (va :: va :: st) w r mc ms) : eV M pc lv (va :: st) w r mc ms := fun l D cy B p e s m args below meth c H locs arr K hl => lv_dup K.2.1 K.2.2.1 d hva (k l D cy B p e s m args below meth c H locs arr K hl)
theorem ev_pop {va : Value} (d : decode M.1 pc = .ok (.pop, 1)) (hva : va.category = 1) (k : eV M (pc + 1) lv (st) w r mc ms) : eV M pc lv (va :: st) w r mc ms := fun l D cy B p e s m args below meth c H locs arr K hl => lv_pop K.2.1 K.2.2.1 d hva (k l D cy B p e s m args below meth c H locs arr K hl)
theorem ev_dup2 {va vb : Value} (d : decode M.1 pc = .ok (.dup2, 1)) (hva : va.category = 1) (hvb : vb.category = 1) (k : eV M (pc + 1) lv (va :: vb :: va :: vb :: st) w r mc ms) : eV M pc lv (va :: vb :: st) w r mc ms := fun l D cy B p e s m args below meth c H locs arr K hl => lv_dup2_11 K.2.1 K.2.2.1 d hva hvb (k l D cy B p e s m args below meth c H locs arr K hl)
theorem ev_lcmp {x y : Int64} (d : decode M.1 pc = .ok (.lcmp, 1)) (k : eV M (pc + 1) lv (.int (lg_cmp x y) :: st) w r mc ms) : eV M pc lv (.long y :: .long x :: st) w r mc ms := fun l D cy B p e s m args below meth c H locs arr K hl => W.lcmp K.2.1 K.2.2.1 d (k l D cy B p e s m args below meth c H locs arr K hl)
theorem ev_goto {off : Int} {tgt : Nat} (d : decode M.1 pc = .ok (.goto off, 3)) (ht : (pc : Int) + off = (tgt : Int)) (k : eV M tgt lv st w r mc ms) : eV M pc lv st w r mc ms := fun l D cy B p e s m args below meth c H locs arr K hl => lv_goto K.2.1 K.2.2.1 d ht (k l D cy B p e s m args below meth c H locs arr K hl)
theorem ev_if_eq {x : Int32} {off : Int} {tgt : Nat} (d : decode M.1 pc = .ok (.ifCond .eq off, 3)) (ht : (pc : Int) + off = (tgt : Int)) (kt : x = 0 → eV M tgt lv st w r mc ms) (kf : ¬ x = 0 → eV M (pc + 3) lv st w r mc ms) : eV M pc lv (.int x :: st) w r mc ms := fun l D cy B p e s m args below meth c H locs arr K hl => lv_if_eq K.2.1 K.2.2.1 d ht (fun q => kt q l D cy B p e s m args below meth c H locs arr K hl) (fun q => kf q l D cy B p e s m args below meth c H locs arr K hl)
theorem ev_if_ne {x : Int32} {off : Int} {tgt : Nat} (d : decode M.1 pc = .ok (.ifCond .ne off, 3)) (ht : (pc : Int) + off = (tgt : Int)) (kt : ¬ x = 0 → eV M tgt lv st w r mc ms) (kf : x = 0 → eV M (pc + 3) lv st w r mc ms) : eV M pc lv (.int x :: st) w r mc ms := fun l D cy B p e s m args below meth c H locs arr K hl => lv_if_ne K.2.1 K.2.2.1 d ht (fun q => kt q l D cy B p e s m args below meth c H locs arr K hl) (fun q => kf q l D cy B p e s m args below meth c H locs arr K hl)
theorem ev_if_lt {x : Int32} {off : Int} {tgt : Nat} (d : decode M.1 pc = .ok (.ifCond .lt off, 3)) (ht : (pc : Int) + off = (tgt : Int)) (kt : x < 0 → eV M tgt lv st w r mc ms) (kf : ¬ x < 0 → eV M (pc + 3) lv st w r mc ms) : eV M pc lv (.int x :: st) w r mc ms := fun l D cy B p e s m args below meth c H locs arr K hl => lv_if_lt K.2.1 K.2.2.1 d ht (fun q => kt q l D cy B p e s m args below meth c H locs arr K hl) (fun q => kf q l D cy B p e s m args below meth c H locs arr K hl)
theorem ev_if_ge {x : Int32} {off : Int} {tgt : Nat} (d : decode M.1 pc = .ok (.ifCond .ge off, 3)) (ht : (pc : Int) + off = (tgt : Int)) (kt : 0 ≤ x → eV M tgt lv st w r mc ms) (kf : ¬ 0 ≤ x → eV M (pc + 3) lv st w r mc ms) : eV M pc lv (.int x :: st) w r mc ms := fun l D cy B p e s m args below meth c H locs arr K hl => lv_if_ge K.2.1 K.2.2.1 d ht (fun q => kt q l D cy B p e s m args below meth c H locs arr K hl) (fun q => kf q l D cy B p e s m args below meth c H locs arr K hl)
theorem ev_if_gt {x : Int32} {off : Int} {tgt : Nat} (d : decode M.1 pc = .ok (.ifCond .gt off, 3)) (ht : (pc : Int) + off = (tgt : Int)) (kt : 0 < x → eV M tgt lv st w r mc ms) (kf : ¬ 0 < x → eV M (pc + 3) lv st w r mc ms) : eV M pc lv (.int x :: st) w r mc ms := fun l D cy B p e s m args below meth c H locs arr K hl => lv_if_gt K.2.1 K.2.2.1 d ht (fun q => kt q l D cy B p e s m args below meth c H locs arr K hl) (fun q => kf q l D cy B p e s m args below meth c H locs arr K hl)
theorem ev_if_le {x : Int32} {off : Int} {tgt : Nat} (d : decode M.1 pc = .ok (.ifCond .le off, 3)) (ht : (pc : Int) + off = (tgt : Int)) (kt : x ≤ 0 → eV M tgt lv st w r mc ms) (kf : ¬ x ≤ 0 → eV M (pc + 3) lv st w r mc ms) : eV M pc lv (.int x :: st) w r mc ms := fun l D cy B p e s m args below meth c H locs arr K hl => lv_if_le K.2.1 K.2.2.1 d ht (fun q => kt q l D cy B p e s m args below meth c H locs arr K hl) (fun q => kf q l D cy B p e s m args below meth c H locs arr K hl)
theorem ev_icmp_eq {x y : Int32} {off : Int} {tgt : Nat} (d : decode M.1 pc = .ok (.if_icmp .eq off, 3)) (ht : (pc : Int) + off = (tgt : Int)) (kt : x = y → eV M tgt lv st w r mc ms) (kf : ¬ x = y → eV M (pc + 3) lv st w r mc ms) : eV M pc lv (.int y :: .int x :: st) w r mc ms := fun l D cy B p e s m args below meth c H locs arr K hl => lv_icmp_eq K.2.1 K.2.2.1 d ht (fun q => kt q l D cy B p e s m args below meth c H locs arr K hl) (fun q => kf q l D cy B p e s m args below meth c H locs arr K hl)
theorem ev_icmp_ne {x y : Int32} {off : Int} {tgt : Nat} (d : decode M.1 pc = .ok (.if_icmp .ne off, 3)) (ht : (pc : Int) + off = (tgt : Int)) (kt : ¬ x = y → eV M tgt lv st w r mc ms) (kf : x = y → eV M (pc + 3) lv st w r mc ms) : eV M pc lv (.int y :: .int x :: st) w r mc ms := fun l D cy B p e s m args below meth c H locs arr K hl => lv_icmp_ne K.2.1 K.2.2.1 d ht (fun q => kt q l D cy B p e s m args below meth c H locs arr K hl) (fun q => kf q l D cy B p e s m args below meth c H locs arr K hl)
theorem ev_icmp_lt {x y : Int32} {off : Int} {tgt : Nat} (d : decode M.1 pc = .ok (.if_icmp .lt off, 3)) (ht : (pc : Int) + off = (tgt : Int)) (kt : x < y → eV M tgt lv st w r mc ms) (kf : ¬ x < y → eV M (pc + 3) lv st w r mc ms) : eV M pc lv (.int y :: .int x :: st) w r mc ms := fun l D cy B p e s m args below meth c H locs arr K hl => lv_icmp_lt K.2.1 K.2.2.1 d ht (fun q => kt q l D cy B p e s m args below meth c H locs arr K hl) (fun q => kf q l D cy B p e s m args below meth c H locs arr K hl)
theorem ev_icmp_ge {x y : Int32} {off : Int} {tgt : Nat} (d : decode M.1 pc = .ok (.if_icmp .ge off, 3)) (ht : (pc : Int) + off = (tgt : Int)) (kt : y ≤ x → eV M tgt lv st w r mc ms) (kf : ¬ y ≤ x → eV M (pc + 3) lv st w r mc ms) : eV M pc lv (.int y :: .int x :: st) w r mc ms := fun l D cy B p e s m args below meth c H locs arr K hl => lv_icmp_ge K.2.1 K.2.2.1 d ht (fun q => kt q l D cy B p e s m args below meth c H locs arr K hl) (fun q => kf q l D cy B p e s m args below meth c H locs arr K hl)
theorem ev_icmp_gt {x y : Int32} {off : Int} {tgt : Nat} (d : decode M.1 pc = .ok (.if_icmp .gt off, 3)) (ht : (pc : Int) + off = (tgt : Int)) (kt : y < x → eV M tgt lv st w r mc ms) (kf : ¬ y < x → eV M (pc + 3) lv st w r mc ms) : eV M pc lv (.int y :: .int x :: st) w r mc ms := fun l D cy B p e s m args below meth c H locs arr K hl => lv_icmp_gt K.2.1 K.2.2.1 d ht (fun q => kt q l D cy B p e s m args below meth c H locs arr K hl) (fun q => kf q l D cy B p e s m args below meth c H locs arr K hl)
theorem ev_icmp_le {x y : Int32} {off : Int} {tgt : Nat} (d : decode M.1 pc = .ok (.if_icmp .le off, 3)) (ht : (pc : Int) + off = (tgt : Int)) (kt : x ≤ y → eV M tgt lv st w r mc ms) (kf : ¬ x ≤ y → eV M (pc + 3) lv st w r mc ms) : eV M pc lv (.int y :: .int x :: st) w r mc ms := fun l D cy B p e s m args below meth c H locs arr K hl => lv_icmp_le K.2.1 K.2.2.1 d ht (fun q => kt q l D cy B p e s m args below meth c H locs arr K hl) (fun q => kf q l D cy B p e s m args below meth c H locs arr K hl)
theorem ev_lookup {dflt : Int} {ps : Array (Int × Int)} {len : Nat} {x : Int32} {off : Int} {tgt : Nat} (d : decode M.1 pc = .ok (.lookupswitch dflt ps, len)) (hp : (ps.toList.zip (ps.toList.drop 1)).all (fun (a, next) => a.1 < next.1) = true) (ho : Op.lookupswitch.offset ps.toList dflt x.toInt = off) (ht : (pc : Int) + off = (tgt : Int)) (k : eV M tgt lv st w r mc ms) : eV M pc lv (.int x :: st) w r mc ms := fun l D cy B p e s m args below meth c H locs arr K hl => lv_lookup K.2.1 K.2.2.1 d hp ho ht (k l D cy B p e s m args below meth c H locs arr K hl)
theorem ev_tableIn {dflt lo hi : Int} {offs : Array Int} {len : Nat} {x : Int32} {off : Int} {tgt : Nat} (d : decode M.1 pc = .ok (.tableswitch dflt lo hi offs, len)) (h1 : ¬ x.toInt < lo) (h2 : ¬ hi < x.toInt) (ho : offs[(x.toInt - lo).toNat]? = some off) (ht : (pc : Int) + off = (tgt : Int)) (k : eV M tgt lv st w r mc ms) : eV M pc lv (.int x :: st) w r mc ms := fun l D cy B p e s m args below meth c H locs arr K hl => lv_tableIn K.2.1 K.2.2.1 d h1 h2 ho ht (k l D cy B p e s m args below meth c H locs arr K hl)
theorem ev_tableOut {dflt lo hi : Int} {offs : Array Int} {len : Nat} {x : Int32} {tgt : Nat} (d : decode M.1 pc = .ok (.tableswitch dflt lo hi offs, len)) (h : x.toInt < lo ∨ hi < x.toInt) (ht : (pc : Int) + dflt = (tgt : Int)) (k : eV M tgt lv st w r mc ms) : eV M pc lv (.int x :: st) w r mc ms := fun l D cy B p e s m args below meth c H locs arr K hl => lv_tableOut K.2.1 K.2.2.1 d h ht (k l D cy B p e s m args below meth c H locs arr K hl)
theorem ev_ldc {index : Nat} {v : Int32} (d : decode M.1 pc = .ok (.ldc index, 2)) (hw : Cond.constant M.own index v ∈ eW) (k : eV M (pc + 2) lv (.int v :: st) w r mc ms) : eV M pc lv st w r mc ms := by
  intro l D cy B p e s m args below meth c H locs arr K hl
  obtain ⟨k1, k2, k3, k4, k5, k6, k7, k8, k9, k10, k11, k12, k13, k14, k15, k16, k17⟩ := id K
  exact lv_ldc k2 k3 k9 (k10 _ hw) d (k l D cy B p e s m args below meth c H locs arr K hl)
theorem ev_ldcw {index : Nat} {v : Int32} (d : decode M.1 pc = .ok (.ldc_w index, 3)) (hw : Cond.constant M.own index v ∈ eW) (k : eV M (pc + 3) lv (.int v :: st) w r mc ms) : eV M pc lv st w r mc ms := by
  intro l D cy B p e s m args below meth c H locs arr K hl
  obtain ⟨k1, k2, k3, k4, k5, k6, k7, k8, k9, k10, k11, k12, k13, k14, k15, k16, k17⟩ := id K
  exact lv_ldcw k2 k3 k9 (k10 _ hw) d (k l D cy B p e s m args below meth c H locs arr K hl)
theorem ev_ldc2 {index : Nat} {v : Int64} (d : decode M.1 pc = .ok (.ldc2_w index, 3)) (hw : Cond.constantLong M.own index v ∈ eW) (k : eV M (pc + 3) lv (.long v :: st) w r mc ms) : eV M pc lv st w r mc ms := by
  intro l D cy B p e s m args below meth c H locs arr K hl
  obtain ⟨k1, k2, k3, k4, k5, k6, k7, k8, k9, k10, k11, k12, k13, k14, k15, k16, k17⟩ := id K
  exact lv_ldc2 k2 k3 k9 (k10 _ hw) d (k l D cy B p e s m args below meth c H locs arr K hl)
theorem eW_good {w : Cond} (h : w ∈ eW) : (w.onTables && w.keeps) = true ∨ ∃ ty, w = .arrayClass ty := good_of_word (List.mem_filter.mp h).2
theorem eW_in {ws : List Cond} (h : ∀ w ∈ ws, w ∈ eW) : GoodIn eW ws := fun w hw => ⟨h w hw, eW_good (h w hw)⟩
theorem eR.one {D : va_G} {cy : Nat → ClassId} {B : Nat} {h : eH} {H : Heap} (hR : eR D cy B h H) {a : Nat} {x : eA} (hx : h a = some x) : va_P D vwCl [(a, eE cy x)] H := by
  intro k q hk
  match k, hk with
  | 0, hk => cases hk; exact (hR a x hx).2
theorem eR.put {D : va_G} {cy : Nat → ClassId} {B : Nat} {h : eH} {H H1 : Heap} (hR : eR D cy B h H) {a : Nat} {x : eA} (hB : B ≤ a) (h1 : va_at D vwCl (a, eE cy x) H1) (h2 : ∀ (q : Nat) (y : eA), h q = some y → q ≠ a → H1[q]? = H[q]?) : eR D cy B (eU h a x) H1 := by
  intro b y hy
  by_cases hb : b = a
  · subst hb
    rw [eU_s] at hy
    cases hy
    exact ⟨hB, h1⟩
  · rw [eU_n _ _ hb] at hy
    exact ⟨(hR b y hy).1, (hR b y hy).2.kept (h2 b y hy hb)⟩
theorem eS.put {A : Nat → Prop} {H0 H H1 : Heap} {locs : List Loc} {a : Nat} {L : List Loc} (h : va_S A H0 H locs) (z : H1.size = H.size) (oq : ∀ q : Nat, q ≠ a → H1[q]? = H[q]?) (ha : A a) (hL : ∀ q ∈ L, q.base = a) : va_S A H0 H1 (locs ++ L) := by
  refine ⟨by rw [z]; exact h.1, fun q h1 h2 => ?_, fun q hq => ?_⟩
  · rw [oq q (fun e => h2 (by rw [e]; exact ha))]
    exact h.2.1 q h1 h2
  · rcases List.mem_append.mp hq with h1 | h1
    · exact h.2.2 q h1
    · rw [hL q h1]
      exact ha
theorem eK.put {l : Launch} {D : va_G} {cy : Nat → ClassId} {B : Nat} {p : Program} {s : State} {m : MethodId} {args : Array Value} {meth : Method} {c : Code} {H : Heap} {locs : List Loc} {h : eH} {n c0 s0 : Nat} (K : eK M (h, n, c0, s0) l D cy B p s m args meth c H locs)
    {a : Nat} {x x0 : eA} (hx : h a = some x0) {H1 : Heap} {L : List Loc} (h1 : va_at D vwCl (a, eE cy x) H1) (z : H1.size = H.size) (oq : ∀ q : Nat, q ≠ a → H1[q]? = H[q]?) (hL : ∀ q ∈ L, q.base = a) : eK M (eU h a x, n, c0, s0) l D cy B p s m args meth c H1 (locs ++ L) := by
  obtain ⟨k1, k2, k3, k4, k5, k6, k7, k8, k9, k10, k11, k12, k13, k14, k15, k16, k17⟩ := K
  have hB := (k16 a x0 hx).1
  exact ⟨k1, k2, k3, k4, k5, k6, k7, k8, k9, k10, k11, k12, k13, eS.put k14 z oq hB hL, by rw [z]; exact k15, k16.put hB h1 (fun q _ _ hq => oq q hq), k17⟩
theorem eK.new {l : Launch} {D : va_G} {cy : Nat → ClassId} {B : Nat} {p : Program} {s : State} {m : MethodId} {args : Array Value} {meth : Method} {c : Code} {H : Heap} {locs : List Loc} {h : eH} {n c0 s0 c1 s1 : Nat} (K : eK M (h, n, c0, s0) l D cy B p s m args meth c H locs)
    {x : eA} {H1 : Heap} (h1 : va_at D vwCl (H.size, eE cy x) H1) (z : H1.size = H.size + 1) (oq : ∀ q : Nat, q < H.size → H1[q]? = H[q]?) : eK M (eU h n x, n + 1, c1, s1) l D cy B p s m args meth c H1 locs := by
  obtain ⟨k1, k2, k3, k4, k5, k6, k7, k8, k9, k10, k11, k12, k13, k14, k15, k16, k17⟩ := K
  have k15' : H.size = n := k15
  subst k15'
  exact ⟨k1, k2, k3, k4, k5, k6, k7, k8, k9, k10, k11, k12, k13, ⟨Nat.le_trans k14.1 (by omega), fun q h1 h2 => (oq q (Nat.lt_of_lt_of_le h1 k14.1)).trans (k14.2.1 q h1 h2), k14.2.2⟩, z, eR.put k16 (Nat.le_trans k13 k14.1) h1 (fun q y hy _ => oq q (k16 q y hy).2.lt), k17⟩
theorem arrV_congr {cI : ClassId} {N : Nat} {f g : Nat → Value} (h : ∀ j, j < N → f j = g j) : arrV cI N f = arrV cI N g := by
  have e : (Array.ofFn (n := N) fun j => f j.val) = Array.ofFn (n := N) fun j => g j.val := by
    congr 1
    funext j
    exact h j.val j.isLt
  show ({ cls := cI, slots := Array.ofFn (n := N) fun j => f j.val, vm := .none } : Cell) = _
  rw [e]
  rfl
theorem eX_tables {w : Cond} (h : eWarm w = true) : w.onTables = true := by
  cases w <;> first | rfl | (simp [eWarm] at h)
theorem ev_getfield {index ci f a : Nat} {fs : List Value} {v : Value} (d : decode M.1 pc = .ok (.getfield index, 3)) (hf : eFL M.own index ci f) (ho : w.1 a = some (.inr (ci, fs))) (hv : fs[f]? = some v) (k : eV M (pc + 3) lv (v :: st) w r mc ms) : eV M pc lv (.ref a :: st) w r mc ms := by
  intro l D cy B p e s m args below meth c H locs arr K hl
  obtain ⟨k1, k2, k3, k4, k5, k6, k7, k8, k9, k10, k11, k12, k13, k14, k15, k16, k17⟩ := id K
  obtain ⟨q, hq, hlt, hlink, hin⟩ := hf
  exact va_get k2 k3 k10 hin k9 k11.1 (k16.one ho) 0 rfl hq f hlt (k10 _ hlink) (fun _ h9 => h9) hv d (k l D cy B p e s m args below meth c H locs arr K hl)
theorem ev_putfield {index ci f a : Nat} {fs : List Value} {v : Value} {ty : FieldType} {h : eH} {n c0 s0 : Nat} (d : decode M.1 pc = .ok (.putfield index, 3)) (hf : ePL M.own index ci f ty false) (ho : h a = some (.inr (ci, fs))) (hl0 : f < fs.length) (hn : narrow ty v = v) (hfit : fits ty v = true)
    (k : eV M (pc + 3) lv st (eU h a (.inr (ci, fs.set f v)), n, c0, s0) r mc ms) : eV M pc lv (v :: .ref a :: st) (h, n, c0, s0) r mc ms := by
  intro l D cy B p e s m args below meth c H locs arr K hl
  obtain ⟨k1, k2, k3, k4, k5, k6, k7, k8, k9, k10, k11, k12, k13, k14, k15, k16, k17⟩ := id K
  obtain ⟨⟨C, T, N⟩, tf, hq, hlt, hlink, hin, hty, hnm, hfin, hd, -⟩ := hf
  have hap := va_apart (own := M.own) k10 hin tf hty hnm k11.1 hq
  obtain ⟨q', h1, cell, q1, q2, q3, q4⟩ := (k16 a _ ho).2
  have hr : q' = (C, T, N) := Option.some.inj (h1.symm.trans hq)
  subst hr
  obtain ⟨hS, hfc, kC, hkC, hkind⟩ := k11.1.1 ci _ hq
  obtain ⟨cf, kf, fi, fd, hi, hsl⟩ := hS f hlt
  have hlay := k10 _ (hin _ (u_in_lay hlt))
  unfold u_lay at hlay
  rw [if_neg (by rw [hfin]; decide)] at hlay
  have hst := (u_facts hfc hkC (u_lays k10 hin hlt) hi).1
  have h6 := u_store hfc hkC hkind hlay hi hd hn hfit
  refine W.putK k2 k3 (f := fd) ⟨k9, k10 _ hlink, ⟨_, _, _, hi⟩, hst⟩ (by rw [q2]; exact h6) q1 q3 (by rw [hsl]; exact k2_hasslot (q4 f hlt)) rfl rfl d fun H' e1 e2 e3 => ?_
  rw [hsl] at e1 ⊢
  exact k l D cy B p e s m args below meth c H' _ arr (K.put ho (x := .inr (ci, fs.set f v)) ⟨_, hq, t_OB.to (V := updV (vp_V fs) f v) ⟨_, e1, q2, q3, t_set q4 hap hlt v⟩ (fun j _ => vp_updV_set hl0 v j)⟩ e2 e3 (fun q h9 => by rw [List.mem_singleton.mp h9])) hl
theorem ev_putfinal {index ci f a : Nat} {fs : List Value} {v : Value} {ty : FieldType} {h : eH} {n c0 s0 : Nat} (d : decode M.1 pc = .ok (.putfield index, 3)) (hf : ePL M.own index ci f ty true) (hmn : M.2.2.2.2.1 = "<init>") (ho : h a = some (.inr (ci, fs))) (hl0 : f < fs.length) (hn : narrow ty v = v) (hfit : fits ty v = true)
    (k : eV M (pc + 3) lv st (eU h a (.inr (ci, fs.set f v)), n, c0, s0) r mc ms) : eV M pc lv (v :: .ref a :: st) (h, n, c0, s0) r mc ms := by
  intro l D cy B p e s m args below meth c H locs arr K hl
  obtain ⟨k1, k2, k3, k4, k5, k6, k7, k8, k9, k10, k11, k12, k13, k14, k15, k16, k17⟩ := id K
  obtain ⟨⟨C, T, N⟩, tf, hq, hlt, hlink, hin, hty, hnm, hfin, hd, hown⟩ := hf
  have hap := va_apart (own := M.own) k10 hin tf hty hnm k11.1 hq
  obtain ⟨q', h1, cell, q1, q2, q3, q4⟩ := (k16 a _ ho).2
  have hr : q' = (C, T, N) := Option.some.inj (h1.symm.trans hq)
  subst hr
  obtain ⟨hS, hfc, kC, hkC, hkind⟩ := k11.1.1 ci _ hq
  obtain ⟨cf, kf, fi, fd, hi, hsl⟩ := hS f hlt
  have hlay := k10 _ (hin _ (u_in_lay hlt))
  unfold u_lay at hlay
  rw [if_pos hfin] at hlay
  have hst := (u_facts hfc hkC (u_lays k10 hin hlt) hi).1
  have hcf : m.cls = cf := by
    obtain ⟨_, _, c', _, _, _, -, -, hf', -, -, -, hown2, -⟩ := Cond.laysFinal_spec hlay
    have e1 : c' = cf := by have := hi.symm.trans hf'; simp at this; exact this.1.symm
    rw [hown rfl] at hown2
    rw [← e1]; exact Option.some.inj (k9.symm.trans hown2)
  have h6 := u_fits hfc hkC hkind (Or.inr hlay) hi hd hn hfit
  refine W.putFinK k2 k3 k9 (k10 _ hlink) hi hst hcf (k8.trans hmn) (by rw [q2]; exact h6) q1 q3 (by rw [hsl]; exact k2_hasslot (q4 f hlt)) rfl rfl d fun H' e1 e2 e3 => ?_
  rw [hsl] at e1 ⊢
  exact k l D cy B p e s m args below meth c H' _ arr (K.put ho (x := .inr (ci, fs.set f v)) ⟨_, hq, t_OB.to (V := updV (vp_V fs) f v) ⟨_, e1, q2, q3, t_set q4 hap hlt v⟩ (fun j _ => vp_updV_set hl0 v j)⟩ e2 e3 (fun q h9 => by rw [List.mem_singleton.mp h9])) hl
theorem ev_alen {a t n : Nat} {x : vp_A} (d : decode M.1 pc = .ok (.arraylength, 1)) (ha : w.1 a = some (.inl (t, x))) {ty : Nat → FieldType} (ht : ∀ cy : Nat → ClassId, (eTy cy)[t]? = some (cy t, ty t)) (hn : x.1 = n) (k : eV M (pc + 1) lv (.int (nI n) :: st) w r mc ms) : eV M pc lv (.ref a :: st) w r mc ms := by
  intro l D cy B p e s m args below meth c H locs arr K hl
  obtain ⟨k1, k2, k3, k4, k5, k6, k7, k8, k9, k10, k11, k12, k13, k14, k15, k16, k17⟩ := id K
  exact va_alen k2 k3 k11.1 (k16.one ha) 0 t rfl (ht cy) (by rw [hn]; rfl) d (k l D cy B p e s m args below meth c H locs arr K hl)

theorem ev_iaload {a n : Nat} {f : Nat → Int32} {i : Int32} (d : decode M.1 pc = .ok (.iaload, 1)) (ha : w.1 a = some (.inl (0, n, .inl f))) (hin : vp_in i n) (k : eV M (pc + 1) lv (.int (f i.toNatClampNeg) :: st) w r mc ms) : eV M pc lv (.int i :: .ref a :: st) w r mc ms := by
  intro l D cy B p e s m args below meth c H locs arr K hl
  obtain ⟨k1, k2, k3, k4, k5, k6, k7, k8, k9, k10, k11, k12, k13, k14, k15, k16, k17⟩ := id K
  exact va_iald k2 k3 k11.1 (k16.one ha) 0 0 rfl rfl hin d (k l D cy B p e s m args below meth c H locs arr K hl)
theorem ev_ialoadN {a n i : Nat} {f : Nat → Int32} (d : decode M.1 pc = .ok (.iaload, 1)) (ha : w.1 a = some (.inl (0, n, .inl f))) (hi : i < n) (hn : n < 2 ^ 31) (k : eV M (pc + 1) lv (.int (f i) :: st) w r mc ms) : eV M pc lv (.int (nI i) :: .ref a :: st) w r mc ms := by
  refine ev_iaload d ha (vp_in_nI hi hn) ?_
  rw [nI_clamp (Nat.lt_trans hi hn)]
  exact k
theorem ev_caload {a n : Nat} {f : Nat → Int32} {i : Int32} (d : decode M.1 pc = .ok (.caload, 1)) (ha : w.1 a = some (.inl (1, n, .inl f))) (hin : vp_in i n) (k : eV M (pc + 1) lv (.int (f i.toNatClampNeg) :: st) w r mc ms) : eV M pc lv (.int i :: .ref a :: st) w r mc ms := by
  intro l D cy B p e s m args below meth c H locs arr K hl
  obtain ⟨k1, k2, k3, k4, k5, k6, k7, k8, k9, k10, k11, k12, k13, k14, k15, k16, k17⟩ := id K
  exact va_cald k2 k3 k11.1 (k16.one ha) 0 1 rfl rfl hin d (k l D cy B p e s m args below meth c H locs arr K hl)
theorem ev_caloadN {a n i : Nat} {f : Nat → Int32} (d : decode M.1 pc = .ok (.caload, 1)) (ha : w.1 a = some (.inl (1, n, .inl f))) (hi : i < n) (hn : n < 2 ^ 31) (k : eV M (pc + 1) lv (.int (f i) :: st) w r mc ms) : eV M pc lv (.int (nI i) :: .ref a :: st) w r mc ms := by
  refine ev_caload d ha (vp_in_nI hi hn) ?_
  rw [nI_clamp (Nat.lt_trans hi hn)]
  exact k
theorem ev_baload {a n : Nat} {f : Nat → Int32} {i : Int32} (d : decode M.1 pc = .ok (.baload, 1)) (ha : w.1 a = some (.inl (2, n, .inl f))) (hin : vp_in i n) (k : eV M (pc + 1) lv (.int (f i.toNatClampNeg) :: st) w r mc ms) : eV M pc lv (.int i :: .ref a :: st) w r mc ms := by
  intro l D cy B p e s m args below meth c H locs arr K hl
  obtain ⟨k1, k2, k3, k4, k5, k6, k7, k8, k9, k10, k11, k12, k13, k14, k15, k16, k17⟩ := id K
  exact va_zald k2 k3 k11.1 (k16.one ha) 0 2 rfl rfl hin d (k l D cy B p e s m args below meth c H locs arr K hl)
theorem ev_baloadN {a n i : Nat} {f : Nat → Int32} (d : decode M.1 pc = .ok (.baload, 1)) (ha : w.1 a = some (.inl (2, n, .inl f))) (hi : i < n) (hn : n < 2 ^ 31) (k : eV M (pc + 1) lv (.int (f i) :: st) w r mc ms) : eV M pc lv (.int (nI i) :: .ref a :: st) w r mc ms := by
  refine ev_baload d ha (vp_in_nI hi hn) ?_
  rw [nI_clamp (Nat.lt_trans hi hn)]
  exact k
theorem ev_aaload {a n : Nat} {f : Nat → Option Nat} {i : Int32} (d : decode M.1 pc = .ok (.aaload, 1)) (ha : w.1 a = some (.inl (3, n, .inr (.inr (.inr (.inr f)))))) (hin : vp_in i n) (k : eV M (pc + 1) lv (va_rf (f i.toNatClampNeg) :: st) w r mc ms) : eV M pc lv (.int i :: .ref a :: st) w r mc ms := by
  intro l D cy B p e s m args below meth c H locs arr K hl
  obtain ⟨k1, k2, k3, k4, k5, k6, k7, k8, k9, k10, k11, k12, k13, k14, k15, k16, k17⟩ := id K
  exact va_aldq k2 k3 k11.1 (k16.one ha) 0 3 rfl rfl hin d (k l D cy B p e s m args below meth c H locs arr K hl)
theorem ev_aaloadN {a n i : Nat} {f : Nat → Option Nat} (d : decode M.1 pc = .ok (.aaload, 1)) (ha : w.1 a = some (.inl (3, n, .inr (.inr (.inr (.inr f)))))) (hi : i < n) (hn : n < 2 ^ 31) (k : eV M (pc + 1) lv (va_rf (f i) :: st) w r mc ms) : eV M pc lv (.int (nI i) :: .ref a :: st) w r mc ms := by
  refine ev_aaload d ha (vp_in_nI hi hn) ?_
  rw [nI_clamp (Nat.lt_trans hi hn)]
  exact k
theorem ev_iastore {a n0 : Nat} {f : Nat → Int32} {i : Int32} {x : Int32} {h : eH} {n c0 s0 : Nat} (d : decode M.1 pc = .ok (.iastore, 1)) (ha : h a = some (.inl (0, n0, .inl f))) (hin : vp_in i n0) (k : eV M (pc + 1) lv st (eU h a (.inl (0, n0, .inl (upd f i.toNatClampNeg x))), n, c0, s0) r mc ms) : eV M pc lv (.int x :: .int i :: .ref a :: st) (h, n, c0, s0) r mc ms := by
  intro l D cy B p e s m args below meth c H locs arr K hl
  obtain ⟨k1, k2, k3, k4, k5, k6, k7, k8, k9, k10, k11, k12, k13, k14, k15, k16, k17⟩ := id K
  refine W.iast k2 k3 (k16 a _ ha).2 ((k11.1.2 0 _ rfl).1 n0 (fun j => .int (f j))) (fun q => by cases q) (by show ¬ (i < 0 ∨ (arrV _ _ _).slots.size ≤ _); rw [arrV_size]; exact hin) rfl rfl d fun H1 e1 z oq => ?_
  refine k l D cy B p e s m args below meth c H1 _ arr (K.put ha (x := .inl (0, n0, .inl (upd f i.toNatClampNeg x))) ?_ z oq (fun q h9 => by rw [List.mem_singleton.mp h9])) hl
  show H1[a]? = some (vp_cell _ _)
  rw [e1]
  show some (Cell.setSlot (vp_cell _ _) _ _) = _
  rw [vp_cell_i, vp_cell_i, arrV_store]
  congr 2
  funext q
  by_cases hq : q = i.toNatClampNeg
  · subst hq
    simp [updV, upd]
  · simp [updV, upd, hq]
theorem ev_castore {a n0 : Nat} {f : Nat → Int32} {i : Int32} {x : Int32} {h : eH} {n c0 s0 : Nat} (d : decode M.1 pc = .ok (.castore, 1)) (ha : h a = some (.inl (1, n0, .inl f))) (hin : vp_in i n0) (k : eV M (pc + 1) lv st (eU h a (.inl (1, n0, .inl (upd f i.toNatClampNeg (vp_nar .char x)))), n, c0, s0) r mc ms) : eV M pc lv (.int x :: .int i :: .ref a :: st) (h, n, c0, s0) r mc ms := by
  intro l D cy B p e s m args below meth c H locs arr K hl
  obtain ⟨k1, k2, k3, k4, k5, k6, k7, k8, k9, k10, k11, k12, k13, k14, k15, k16, k17⟩ := id K
  refine W.cast k2 k3 (k16 a _ ha).2 ((k11.1.2 1 _ rfl).1 n0 (fun j => .int (f j))) (fun q => by cases q) (by show ¬ (i < 0 ∨ (arrV _ _ _).slots.size ≤ _); rw [arrV_size]; exact hin) rfl rfl d fun H1 e1 z oq => ?_
  refine k l D cy B p e s m args below meth c H1 _ arr (K.put ha (x := .inl (1, n0, .inl (upd f i.toNatClampNeg (vp_nar .char x)))) ?_ z oq (fun q h9 => by rw [List.mem_singleton.mp h9])) hl
  show H1[a]? = some (vp_cell _ _)
  rw [e1]
  show some (Cell.setSlot (vp_cell _ _) _ _) = _
  rw [vp_cell_i, vp_cell_i, arrV_store]
  congr 2
  funext q
  by_cases hq : q = i.toNatClampNeg
  · subst hq
    (simp [updV, upd, vp_nar]; try rfl)
  · simp [updV, upd, hq]
theorem ev_bastore {a n0 : Nat} {f : Nat → Int32} {i : Int32} {x : Int32} {h : eH} {n c0 s0 : Nat} (d : decode M.1 pc = .ok (.bastore, 1)) (ha : h a = some (.inl (2, n0, .inl f))) (hin : vp_in i n0) (k : eV M (pc + 1) lv st (eU h a (.inl (2, n0, .inl (upd f i.toNatClampNeg (vp_nar .boolean x)))), n, c0, s0) r mc ms) : eV M pc lv (.int x :: .int i :: .ref a :: st) (h, n, c0, s0) r mc ms := by
  intro l D cy B p e s m args below meth c H locs arr K hl
  obtain ⟨k1, k2, k3, k4, k5, k6, k7, k8, k9, k10, k11, k12, k13, k14, k15, k16, k17⟩ := id K
  refine W.zast k2 k3 (k16 a _ ha).2 ((k11.1.2 2 _ rfl).1 n0 (fun j => .int (f j))) (fun q => by cases q) (by show ¬ (i < 0 ∨ (arrV _ _ _).slots.size ≤ _); rw [arrV_size]; exact hin) rfl rfl d fun H1 e1 z oq => ?_
  refine k l D cy B p e s m args below meth c H1 _ arr (K.put ha (x := .inl (2, n0, .inl (upd f i.toNatClampNeg (vp_nar .boolean x)))) ?_ z oq (fun q h9 => by rw [List.mem_singleton.mp h9])) hl
  show H1[a]? = some (vp_cell _ _)
  rw [e1]
  show some (Cell.setSlot (vp_cell _ _) _ _) = _
  rw [vp_cell_i, vp_cell_i, arrV_store]
  congr 2
  funext q
  by_cases hq : q = i.toNatClampNeg
  · subst hq
    (simp [updV, upd, vp_nar]; try rfl)
  · simp [updV, upd, hq]
theorem ev_iastoreN {a n0 i : Nat} {f : Nat → Int32} {x : Int32} {h : eH} {n c0 s0 : Nat} (d : decode M.1 pc = .ok (.iastore, 1)) (ha : h a = some (.inl (0, n0, .inl f))) (hi : i < n0) (hn : n0 < 2 ^ 31) (k : eV M (pc + 1) lv st (eU h a (.inl (0, n0, .inl (upd f i x))), n, c0, s0) r mc ms) : eV M pc lv (.int x :: .int (nI i) :: .ref a :: st) (h, n, c0, s0) r mc ms := by
  refine ev_iastore d ha (vp_in_nI hi hn) ?_
  rw [nI_clamp (Nat.lt_trans hi hn)]
  exact k
theorem ev_bastoreN {a n0 i : Nat} {f : Nat → Int32} {x y : Int32} {h : eH} {n c0 s0 : Nat} (d : decode M.1 pc = .ok (.bastore, 1)) (ha : h a = some (.inl (2, n0, .inl f))) (hi : i < n0) (hn : n0 < 2 ^ 31) (hx : vp_nar .boolean x = y) (k : eV M (pc + 1) lv st (eU h a (.inl (2, n0, .inl (upd f i y))), n, c0, s0) r mc ms) : eV M pc lv (.int x :: .int (nI i) :: .ref a :: st) (h, n, c0, s0) r mc ms := by
  refine ev_bastore d ha (vp_in_nI hi hn) ?_
  rw [nI_clamp (Nat.lt_trans hi hn), hx]
  exact k
theorem ev_castoreN {a n0 i : Nat} {f : Nat → Int32} {x y : Int32} {h : eH} {n c0 s0 : Nat} (d : decode M.1 pc = .ok (.castore, 1)) (ha : h a = some (.inl (1, n0, .inl f))) (hi : i < n0) (hn : n0 < 2 ^ 31) (hx : vp_nar .char x = y) (k : eV M (pc + 1) lv st (eU h a (.inl (1, n0, .inl (upd f i y))), n, c0, s0) r mc ms) : eV M pc lv (.int x :: .int (nI i) :: .ref a :: st) (h, n, c0, s0) r mc ms := by
  refine ev_castore d ha (vp_in_nI hi hn) ?_
  rw [nI_clamp (Nat.lt_trans hi hn), hx]
  exact k
theorem ev_aastore {a n0 i v : Nat} {f : Nat → Option Nat} {vs : List Value} {h : eH} {n c0 s0 : Nat} (d : decode M.1 pc = .ok (.aastore, 1)) (ha : h a = some (.inl (3, n0, .inr (.inr (.inr (.inr f)))))) (hv : h v = some (.inr (4, vs))) (hi : i < n0) (hn : n0 < 2 ^ 31) (k : eV M (pc + 1) lv st (eU h a (.inl (3, n0, .inr (.inr (.inr (.inr (va_up f i (some v))))))), n, c0, s0) r mc ms) : eV M pc lv (.ref v :: .int (nI i) :: .ref a :: st) (h, n, c0, s0) r mc ms := by
  intro l D cy B p e s m args below meth c H locs arr K hl
  obtain ⟨k1, k2, k3, k4, k5, k6, k7, k8, k9, k10, k11, k12, k13, k14, k15, k16, k17⟩ := id K
  have hlt : (nI i).toNatClampNeg < n0 := by rw [nI_clamp (Nat.lt_trans hi hn)]; exact hi
  have h0 : ¬ nI i < 0 := fun q => vp_in_nI hi hn (Or.inl q)
  obtain ⟨r', hr', cellV, g1, g2, g3, -⟩ := (k16 v _ hv).2
  have hcls := (k11.1.1 4 _ rfl).2
  obtain ⟨kA, comp, f1, f2, f3, -⟩ := (k11.1.2 3 _ rfl).2
  have hcomp : comp = D.1 4 := Option.some.inj (f3.symm.trans hcls.1)
  subst hcomp
  obtain ⟨kC, hkC, -⟩ := hcls.2
  refine W.aast k2 k3 (k16 a _ ha).2 (fun q h => by cases h) (fun h => by cases h) f1 f2 rfl hkC ⟨h0, by show _ < (arrV _ _ _).slots.size; rw [arrV_size]; exact hlt⟩ g1 (fun q h => by rw [g3] at h; cases h) (by rw [g2]; exact hkC) (by rw [g2]; exact va_assign hcls) rfl rfl d fun H1 e1 z oq => ?_
  refine k l D cy B p e s m args below meth c H1 _ arr (K.put ha (x := .inl (3, n0, .inr (.inr (.inr (.inr (va_up f i (some v))))))) ?_ z oq (fun q h9 => by rw [List.mem_singleton.mp h9])) hl
  show H1[a]? = some (vp_cell _ _)
  rw [e1, nI_clamp (Nat.lt_trans hi hn)]
  show some (Cell.setSlot (vp_cell _ _) _ _) = _
  rw [vp_cell_q, vp_cell_q, arrV_store]
  congr 2
  funext q
  by_cases hq : q = i
  · subst hq
    simp [updV, va_up, va_rf]
  · simp [updV, va_up, hq]
/-- the law's script -/
theorem ev_sld {b L : Nat} {xs : Nat → Int32} {i : Int32} (d : decode M.1 pc = .ok (.iaload, 1)) (hs : M.sc = some (b, L, xs)) (hin : vp_in i L) (k : eV M (pc + 1) lv (.int (xs i.toNatClampNeg) :: st) w r mc ms) : eV M pc lv (.int i :: .ref b :: st) w r mc ms := by
  intro l D cy B p e s m args below meth c H locs arr K hl
  obtain ⟨k1, k2, k3, k4, k5, k6, k7, k8, k9, k10, k11, k12, k13, k14, k15, k16, k17⟩ := id K
  obtain ⟨hX, hbl, hbB⟩ := k17 _ hs
  exact va_sld k2 k3 hX hbl (Nat.not_le.mpr hbB) k14 hin d (k l D cy B p e s m args below meth c H locs arr K hl)
theorem ev_slen {b L : Nat} {xs : Nat → Int32} (d : decode M.1 pc = .ok (.arraylength, 1)) (hs : M.sc = some (b, L, xs)) (k : eV M (pc + 1) lv (.int (nI L) :: st) w r mc ms) : eV M pc lv (.ref b :: st) w r mc ms := by
  intro l D cy B p e s m args below meth c H locs arr K hl
  obtain ⟨k1, k2, k3, k4, k5, k6, k7, k8, k9, k10, k11, k12, k13, k14, k15, k16, k17⟩ := id K
  obtain ⟨hX, hbl, hbB⟩ := k17 _ hs
  exact va_slen k2 k3 hX hbl (Nat.not_le.mpr hbB) k14 d (k l D cy B p e s m args below meth c H locs arr K hl)
/-- the end, with a number; of the type ty -/
theorem ev_iret {v : Int32} {ty : FieldType} {h : eH} {n c0 s0 : Nat} (d : decode M.1 pc = .ok (.ireturn, 1)) (hr : M.2.2.1 = some ty) (hn : narrow ty (.int v) = .int v) (h1 : r.1 = .inl (some (.int v))) (h2 : r.2.1 h) (h3 : ∀ k, r.2.2 = some k → n = k) (hc : c0 ≤ mc) (hs : s0 ≤ ms) : eV M pc lv [.int v] (h, n, c0, s0) r mc ms := by
  intro l D cy B p e s m args below meth c H locs arr K hl
  obtain ⟨k1, k2, k3, k4, k5, k6, k7, k8, k9, k10, k11, k12, k13, k14, k15, k16, k17⟩ := id K
  exact W.widen hc hs (vx_ret (W.zret k2 k3 (k5.trans hr) hn (fun t ht hW => ⟨⟨_, h1, rfl⟩, ⟨h, h2, by rw [ht]; exact k16⟩, fun k hk => by rw [ht]; exact k15.trans (h3 k hk), k14.F ht⟩) k14.2.2 d (hlocks := k6)))
theorem ev_lret {v : Int64} {h : eH} {n c0 s0 : Nat} (d : decode M.1 pc = .ok (.lreturn, 1)) (hr : M.2.2.1 = some .long) (h1 : r.1 = .inl (some (.long v))) (h2 : r.2.1 h) (h3 : ∀ k, r.2.2 = some k → n = k) (hc : c0 ≤ mc) (hs : s0 ≤ ms) : eV M pc lv [.long v] (h, n, c0, s0) r mc ms := by
  intro l D cy B p e s m args below meth c H locs arr K hl
  obtain ⟨k1, k2, k3, k4, k5, k6, k7, k8, k9, k10, k11, k12, k13, k14, k15, k16, k17⟩ := id K
  exact W.widen hc hs (vx_ret (W.lret k2 k3 (k5.trans hr) (fun t ht hW => ⟨⟨_, h1, rfl⟩, ⟨h, h2, by rw [ht]; exact k16⟩, fun k hk => by rw [ht]; exact k15.trans (h3 k hk), k14.F ht⟩) k14.2.2 d (hlocks := k6)))
theorem ev_vret {h : eH} {n c0 s0 : Nat} (d : decode M.1 pc = .ok (.return_, 1)) (hr : M.2.2.1 = none) (h1 : r.1 = .inl none) (h2 : r.2.1 h) (h3 : ∀ k, r.2.2 = some k → n = k) (hc : c0 ≤ mc) (hs : s0 ≤ ms) : eV M pc lv [] (h, n, c0, s0) r mc ms := by
  intro l D cy B p e s m args below meth c H locs arr K hl
  obtain ⟨k1, k2, k3, k4, k5, k6, k7, k8, k9, k10, k11, k12, k13, k14, k15, k16, k17⟩ := id K
  exact W.widen hc hs (vx_ret (W.vret k2 k3 (k5.trans hr) (fun t ht hW => ⟨⟨_, h1, rfl⟩, ⟨h, h2, by rw [ht]; exact k16⟩, fun k hk => by rw [ht]; exact k15.trans (h3 k hk), k14.F ht⟩) k14.2.2 d (hlocks := k6)))
theorem ev_objInit {idx a : Nat} (d : decode M.1 pc = .ok (.invokespecial idx, 3)) (h1 : Cond.methodLink M.own idx Lib.objectInit ∈ eW) (h2 : Cond.instanceMethod Lib.objectInit ∈ eW) (h3 : Cond.code Lib.objectInit ⟨#[0xb1]⟩ 1 none ∈ eW) (hfr : 1 ≤ M.fr) (hlo : (st.map fun v => v.category).sum + 12 ≤ M.lo) (k : eV M (pc + 3) lv st w r mc ms) : eV M pc lv (.ref a :: st) w r mc ms := by
  intro l D cy B p e s m args below meth c H locs arr K hl
  obtain ⟨k1, k2, k3, k4, k5, k6, k7, k8, k9, k10, k11, k12, k13, k14, k15, k16, k17⟩ := id K
  exact W.objInit k2 k3 k9 (k10 _ h1) (k10 _ h2) (k10 _ h3) rfl (by rw [k4]; exact hl.1) rfl d hfr (by show 2 * 0 + _ + 12 ≤ M.lo; omega) (k l D cy B p e s m args below meth c H locs arr K hl)
theorem ev_new {index ci : Nat} {fs : List Value} {h : eH} {n c0 s0 : Nat} {q : vw_C} {tf : Nat → FieldType} (d : decode M.1 pc = .ok (.new index, 3)) (hq : vwCl[ci]? = some q) (hin : ∀ w ∈ u_ws q.1 q.2.1 q.2.2, w ∈ eW) (hty : ∀ k, k < q.2.2 → parseFieldDescriptor (q.2.1 k).2.2.1 = some (tf k)) (h1 : Cond.classLink M.own index q.1 ∈ eW) (h2 : Cond.instantiable q.1 q.2.2 ∈ eW) (h3 : Cond.initialized q.1 ∈ eW)
    (hfs : ∀ j, j < q.2.2 → defaultValue (tf j) = vp_V fs j) (hc : c0 + 1 ≤ mc) (hs : s0 + q.2.2 ≤ ms) (k : eV M (pc + 3) lv (.ref n :: st) (eU h n (.inr (ci, fs)), n + 1, c0 + 1, s0 + q.2.2) r mc ms) : eV M pc lv st (h, n, c0, s0) r mc ms := by
  intro l D cy B p e s m args below meth c H locs arr K hl
  obtain ⟨k1, k2, k3, k4, k5, k6, k7, k8, k9, k10, k11, k12, k13, k14, k15, k16, k17⟩ := id K
  have hKn := k11.1.1 ci _ hq
  have k15' : H.size = n := k15
  refine W.newcK k2 k3 k9 (k10 _ h1) (k10 _ h2) (k10 _ h3) rfl d hc hs hKn.2.1 k15' fun H1 kC hkC e1 z1 o1 => ?_
  subst k15'
  exact k l D cy B p e s m args below meth c H1 _ arr (K.new (x := .inr (ci, fs)) ⟨_, hq, (u_born tf k10 hin hKn hkC e1 hty).to hfs⟩ z1 o1) hl
theorem ev_newarray {t n0 : Nat} {atype : ArrayType} {h : eH} {n c0 s0 : Nat} {x : vp_A} {ty : FieldType} {i : Int32} (d : decode M.1 pc = .ok (.newarray atype, 2)) (hty : newarray.typeOf atype = ty) (hw : Cond.arrayClass ty ∈ eW) (ht : ∀ cy : Nat → ClassId, (eTy cy)[t]? = some (cy t, ty)) (hra : ∀ (U : State) (cA : ClassId), va_RA U cA ty → U.vm.findClass ("[" ++ ty.toString) = some cA)
    (ha : ∀ cA : ClassId, vp_cell cA x = arrV cA n0 (fun _ => defaultValue ty)) (hi0 : ¬ i < 0) (hi : i.toNatClampNeg = n0) (hby : n0 * componentBytes ty ≤ 536870912) (hc : c0 + 1 ≤ mc) (hs : s0 + n0 ≤ ms) (k : eV M (pc + 2) lv (.ref n :: st) (eU h n (.inl (t, x)), n + 1, c0 + 1, s0 + n0) r mc ms) : eV M pc lv (.int i :: st) (h, n, c0, s0) r mc ms := by
  subst hty
  intro l D cy B p e s m args below meth c H locs arr K hl
  obtain ⟨k1, k2, k3, k4, k5, k6, k7, k8, k9, k10, k11, k12, k13, k14, k15, k16, k17⟩ := id K
  have k15' : H.size = n := k15
  refine va_newaK k2 k3 (k10 _ hw) rfl d rfl hi0 hi hby hc hs k15' fun H1 cA e1 z1 o1 hAr hNm => ?_
  subst k15'
  have hcA : cA = cy t := Option.some.inj (hNm.symm.trans (hra s _ (k11.1.2 t _ (ht cy)).2))
  subst hcA
  refine k l D cy B p e s m args below meth c H1 _ arr (K.new (x := .inl (t, x)) ?_ z1 o1) hl
  show H1[H.size]? = some (vp_cell _ _)
  rw [ha]
  exact e1
theorem ev_anewarray {index n0 : Nat} {h : eH} {n c0 s0 : Nat} {i : Int32} (d : decode M.1 pc = .ok (.anewarray index, 3)) (h1 : Cond.classLink M.own index RX5 ∈ eW) (hi0 : ¬ i < 0) (hi : i.toNatClampNeg = n0) (hby : n0 * 4 ≤ 536870912) (hc : c0 + 1 ≤ mc) (hs : s0 + n0 ≤ ms) (k : eV M (pc + 3) lv (.ref n :: st) (eU h n (.inl (3, n0, .inr (.inr (.inr (.inr (fun _ => none)))))), n + 1, c0 + 1, s0 + n0) r mc ms) : eV M pc lv (.int i :: st) (h, n, c0, s0) r mc ms := by
  subst hi
  intro l D cy B p e s m args below meth c H locs arr K hl
  obtain ⟨k1, k2, k3, k4, k5, k6, k7, k8, k9, k10, k11, k12, k13, k14, k15, k16, k17⟩ := id K
  have k15' : H.size = n := k15
  subst k15'
  refine W.anew k2 k3 k9 (k10 _ h1) (va_AO.use k11.2.2.2.2) rfl d rfl hi0 hby hc hs fun cA kA comp f1 f2 f3 f4 => ?_
  generalize hH1 : H.push ({ cls := cA, slots := Array.replicate i.toNatClampNeg .null, vm := .none } : Cell) = H1
  have z1 : H1.size = H.size + 1 := by rw [← hH1, Array.size_push]
  have e1 : H1[H.size]? = some (arrV cA i.toNatClampNeg (fun _ => .null)) := by rw [← hH1, Array.getElem?_push_size, ← arrV_new]
  have o1 : ∀ q : Nat, q < H.size → H1[q]? = H[q]? := fun q hq => by rw [← hH1, Array.getElem?_push, if_neg (Nat.ne_of_lt hq)]
  obtain ⟨kA9, comp9, g1, g2, g3, g4⟩ := (k11.1.2 3 _ rfl).2
  have hcA : cA = cy 3 := Option.some.inj (f1.symm.trans g4)
  subst hcA
  exact k l D cy B p e s m args below meth c H1 _ arr (K.new (x := .inl (3, i.toNatClampNeg, .inr (.inr (.inr (.inr (fun _ => none)))))) e1 z1 o1) hl
theorem ev_arraycopy {index a0 a1 n0 : Nat} {t : Nat} {ty : FieldType} {f g : Nat → Int32} {h : eH} {n c0 s0 : Nat} (d : decode M.1 pc = .ok (.invokestatic index, 3)) (ha0 : h a0 = some (.inl (t, n0, .inl f))) (ha1 : h a1 = some (.inl (t, n0, .inl g))) (ht : ∀ cy : Nat → ClassId, (eTy cy)[t]? = some (cy t, ty)) (hprim : refKind ty = false) (h1 : Cond.methodLink M.own index arraycopyName ∈ eW) (h2 : Cond.native arraycopyName ∈ eW) (h3 : Cond.static arraycopyName ∈ eW) (h4 : Cond.initialized "java/lang/System" ∈ eW)
    (hn : n0 < 2 ^ 31) (hfit : ∀ i, i < n0 → fits ty (.int (f i)) = true) (hfr : 1 ≤ M.fr) (hlo : (st.map fun v => v.category).sum + (nativeFrameWords "java/lang/System" "arraycopy" 5 + 11) ≤ M.lo) (k : eV M (pc + 3) lv st (eU h a1 (.inl (t, n0, .inl f)), n, c0, s0) r mc ms) : eV M pc lv (.int (nI n0) :: .int 0 :: .ref a1 :: .int 0 :: .ref a0 :: st) (h, n, c0, s0) r mc ms := by
  intro l D cy B p e s m args below meth c H locs arr K hl
  obtain ⟨k1, k2, k3, k4, k5, k6, k7, k8, k9, k10, k11, k12, k13, k14, k15, k16, k17⟩ := id K
  have e0 : (0 : Int32).toNatClampNeg = 0 := rfl
  have en : (nI n0).toNatClampNeg = n0 := nI_clamp hn
  have hc0 : H[a0]? = some (vp_cell (cy t) (n0, .inl f)) := (k16 a0 _ ha0).2
  have hc1 : H[a1]? = some (vp_cell (cy t) (n0, .inl g)) := (k16 a1 _ ha1).2
  have hty := k11.1.2 t _ (ht cy)
  intro T hT X
  obtain ⟨-, kq0, hk0, cm0, hkk0⟩ := hty.1 n0 (fun j => .int (f j))
  have hA0 : s.isArrayOf (vp_cell (cy t) (n0, .inl f)) ty := hty.1 n0 (fun j => .int (f j))
  have nn : ∀ z : Int32, ¬ z < 0 → z.toInt = (z.toNatClampNeg : Int) := by
    intro z hz
    have hz0 : (0 : Int) ≤ z.toInt := by
      have := Int32.not_lt.mp hz
      simpa using Int32.le_iff_toInt_le.mp this
    show z.toInt = ((z.toInt.toNat : Nat) : Int)
    omega
  have hnn : ¬ nI n0 < 0 := nI_pos hn
  obtain ⟨-, kq1, hk1, cm1, hkk1⟩ := hty.1 n0 (fun j => .int (g j))
  obtain ⟨vm', X', step⟩ := X.arraycopy k2 k9 (k10 _ h1) (k10 _ h2) (k10 _ h3) (k10 _ h4) (src := a0) (dst := a1) (cs := vp_cell (cy t) (n0, .inl f)) (cd := vp_cell (cy t) (n0, .inl g)) (srcPos := 0) (destPos := 0) (n := nI n0) (by rw [hT]; exact hc0) (by rw [hT]; exact hc1)
    (fun _ h => by cases h) (fun _ h => by cases h) (fun h => by cases h) (fun h => by cases h) hk0 hk1 hkk0 hkk1 (by simp [hprim]) (by decide) (by decide) hnn
    (by rw [nn 0 (by decide), nn _ hnn, e0, en]; show ¬ _ > ((arrV (cy t) n0 (fun j => .int (f j))).slots.size : Int); rw [arrV_size]; omega)
    (by rw [nn 0 (by decide), nn _ hnn, e0, en]; show ¬ _ > ((arrV (cy t) n0 (fun j => .int (g j))).slots.size : Int); rw [arrV_size]; omega)
    (fun vm₁ _ i hi => by
      rw [en] at hi
      have e : (vp_cell (cy t) (n0, .inl f)).slots.getD ((0 : Int32).toNatClampNeg + i) .null = .int (f i) := by
        show (arrV (cy t) n0 (fun j => .int (f j))).slots.getD _ _ = _
        rw [e0, Nat.zero_add, Array.getD_eq_getD_getElem?, arrV_read _ _ (by omega)]
        rfl
      refine ⟨?_, ?_⟩
      · rw [e]
        exact hfit i hi
      · rw [e]
        exact trivial)
    (g := F0 m pc arr (.int (nI n0) :: .int 0 :: .ref a1 :: .int 0 :: .ref a0 :: st)) rfl (by rw [k4]; exact hl.1) (rest := st) rfl (by rw [k3]; exact d) hfr (by show 2 * 0 + _ + _ ≤ M.lo; omega)
  have e1 : copied (vp_cell (cy t) (n0, .inl f)) (vp_cell (cy t) (n0, .inl g)) 0 0 (nI n0) = vp_cell (cy t) (n0, .inl f) := by
    have e2 : copied (vp_cell (cy t) (n0, .inl f)) (vp_cell (cy t) (n0, .inl g)) 0 0 (nI n0) = vp_cell (cy t) (n0, .inl (va_cpy f g (0 : Int32).toNatClampNeg (0 : Int32).toNatClampNeg (nI n0).toNatClampNeg)) := va_copied (fun z => .int z) (cy t) (cy t) f g (by rw [e0, en]; omega)
    rw [e2, vp_cell_i, vp_cell_i]
    refine arrV_congr fun j hj => ?_
    rw [e0, en]
    show Value.int (if 0 ≤ j ∧ j < 0 + n0 then f (0 + (j - 0)) else g j) = _
    rw [if_pos ⟨Nat.zero_le _, by omega⟩, Nat.zero_add, Nat.sub_zero]
  rw [e1] at X' step
  have hl9 : a1 < H.size := (Array.getElem?_eq_some_iff.mp hc1).1
  have hheap : ((T.setVm vm').setCell a1 (vp_cell (cy t) (n0, .inl f))).heap = H.setIfInBounds a1 (vp_cell (cy t) (n0, .inl f)) := by rw [← hT]; rfl
  have oq : ∀ q : Nat, q ≠ a1 → (H.setIfInBounds a1 (vp_cell (cy t) (n0, .inl f)))[q]? = H[q]? := fun q hq => by simp [Array.getElem?_setIfInBounds, Ne.symm hq]
  obtain ⟨t9, a9, b9⟩ := k l D cy B p e s m args below meth c _ _ arr (K.put (x := .inl (t, n0, .inl f)) ha1 (show (H.setIfInBounds a1 _)[a1]? = some _ by simp [Array.getElem?_setIfInBounds, hl9]) (by simp) oq (fun q hq => by
      obtain ⟨z, -, hz⟩ := List.mem_map.mp hq
      rw [← hz])) hl _ hheap X'
  exact ⟨t9, step t9 a9, b9⟩
/-! CALLS -/
theorem ePc_blind {D : va_G} {cy : Nat → ClassId} {B : Nat} {args : List Value} {h : eH} {n : Nat} : FrameBlind (ePc D cy B args h n) := by
  intro a U g mk ⟨q1, q2, q3, q4, q5, q6⟩
  exact ⟨q1, eC.same (u := U) (U := U.calling g mk a) rfl q2, ⟨vx_Zq.moved (u := U) (U := U.calling g mk a) (Vm.Alike.refl U.vm) q3.1, vx_Zq.moved (u := U) (U := U.calling g mk a) (Vm.Alike.refl U.vm) q3.2⟩, q4, q5, q6⟩
theorem eK.pre {l : Launch} {D : va_G} {cy : Nat → ClassId} {B : Nat} {p : Program} {s : State} {m : MethodId} {args : Array Value} {meth : Method} {c : Code} {H : Heap} {locs : List Loc} {h : eH} {n c0 s0 : Nat} (K : eK M (h, n, c0, s0) l D cy B p s m args meth c H locs) (As : List Value) :
    PreS s H (ePc D cy B As h n) As := by
  obtain ⟨k1, k2, k3, k4, k5, k6, k7, k8, k9, k10, k11, k12, k13, k14, k15, k16, k17⟩ := K
  refine ⟨ePc_blind, fun U hU hW => ⟨rfl, k11.warm hW, ?_, ?_, ?_, ?_⟩⟩
  · rw [hU]; exact k12.warm hW.alike k14
  · rw [hU]; exact Nat.le_trans k13 k14.1
  · rw [hU]; exact k15
  · rw [hU]; exact k16
/-- behind a call that came back -/
theorem eK.back {l : Launch} {D : va_G} {cy : Nat → ClassId} {B : Nat} {p : Program} {s : State} {m : MethodId} {args : Array Value} {meth : Method} {c : Code} {H : Heap} {locs L : List Loc} {h : eH} {n c0 s0 c1 s1 n1 : Nat} (K : eK M (h, n, c0, s0) l D cy B p s m args meth c H locs) {st0 t T' : State} {h1 : eH}
    (h0 : st0.heap = H) (e1 : T'.heap = t.heap) (hL : ∀ q ∈ L, B ≤ q.base) (hF : va_F (fun q => B ≤ q) st0 t) (hz : t.heap.size = n1) (hR : eR D cy B h1 t.heap) : eK M (h1, n1, c1, s1) l D cy B p s m args meth c T'.heap (locs ++ L) := by
  obtain ⟨k1, k2, k3, k4, k5, k6, k7, k8, k9, k10, k11, k12, k13, k14, k15, k16, k17⟩ := K
  obtain ⟨-, -, hS'⟩ := vx_keep (A0 := fun q => B ≤ q) (A1 := fun q => B ≤ q) (free := fun q => B ≤ q) h0 e1 k14 (fun _ _ h => h) (fun _ h => h) hL hF
  exact ⟨k1, k2, k3, k4, k5, k6, k7, k8, k9, k10, k11, k12, k13, hS', by rw [e1]; exact hz, by rw [e1]; exact hR, k17⟩
theorem eV.ran {l : Launch} {D : va_G} {cy : Nat → ClassId} {B : Nat} {p : Program} {e : Env} {s : State} {m : MethodId} {args : Array Value} {below : List Frame} {meth : Method} {c : Code} {H : Heap} {locs : List Loc} {arr : Array Slot} {h : eH} {h1 : eH → Prop} {n n1 c0 s0 mc1 ms1 : Nat} {v : Option Value} {st0 rest : List Value} {a : Array Value}
    (K : eK M (h, n, c0, s0) l D cy B p s m args meth c H locs) (hl : lv_has arr M.2.1 (eff lv))
    (hr : vx_Run p l e ({ frames := M.fr, cells := mc, slots := ms, locals := M.lo }) s m args below meth c H locs c0 s0 mc1 ms1 (F0 m pc arr st0) rest (eQc D cy B (.inl v, h1, some n1) a) (eXc D cy B (.inl v, h1, some n1)) (fun q => B ≤ q))
    (k : ∀ g : eH, h1 g → eV M (pc + 3) lv (v.toList ++ rest) (g, n1, c0 + mc1, s0 + ms1) r mc ms) :
    W p l e ({ frames := M.fr, cells := mc, slots := ms, locals := M.lo }) s m args below meth c H locs c0 s0 (vx_MQ below (eQc D cy B r) (eXc D cy B r) args s mc ms (fun q => B ≤ q)) (F0 m pc arr st0) := by
  intro T hT X
  rcases hr T hT X with ⟨v9, st₀, t, T', L, h0, X', hL, e1, e2, ⟨⟨v8, hv, ho⟩, ⟨g, hg, hR⟩, hn, hF⟩, st9⟩ | ⟨q, st₀, t, T', L, E, ce, h0, X', hL, e1, e2, ⟨hv, -⟩, -⟩
  · cases hv
    cases ho
    obtain ⟨t2, a1, b1⟩ := k g hg l D cy B p e s m args below meth c T'.heap (locs ++ L) arr (K.back h0 e1 hL hF (hn _ rfl) hR) hl T' rfl X'
    exact ⟨t2, st9 t2 a1, b1⟩
  · cases hv
/-- a callee that threw, not caught here -/
theorem eV.threw {l : Launch} {D : va_G} {cy : Nat → ClassId} {B : Nat} {p : Program} {e : Env} {s : State} {m : MethodId} {args : Array Value} {below : List Frame} {meth : Method} {c : Code} {H : Heap} {locs : List Loc} {arr : Array Slot} {h : eH} {h1 : eH → Prop} {n c0 s0 mc1 ms1 : Nat} {E : String} {nn : Option Nat} {st0 rest : List Value} {a : Array Value}
    (K : eK M (h, n, c0, s0) l D cy B p s m args meth c H locs) (htb : M.tb = [])
    (hr : vx_Run p l e ({ frames := M.fr, cells := mc, slots := ms, locals := M.lo }) s m args below meth c H locs c0 s0 mc1 ms1 (F0 m pc arr st0) rest (eQc D cy B (.inr E, h1, nn) a) (eXc D cy B (.inr E, h1, nn)) (fun q => B ≤ q))
    (h1r : r.1 = .inr E) (h2r : ∀ g : eH, h1 g → r.2.1 g) (hc : c0 + mc1 ≤ mc) (hs : s0 + ms1 ≤ ms) :
    W p l e ({ frames := M.fr, cells := mc, slots := ms, locals := M.lo }) s m args below meth c H locs c0 s0 (vx_MQ below (eQc D cy B r) (eXc D cy B r) args s mc ms (fun q => B ≤ q)) (F0 m pc arr st0) := by
  intro T hT X
  obtain ⟨k1, k2, k3, k4, k5, k6, k7, k8, k9, k10, k11, k12, k13, k14, k15, k16, k17⟩ := id K
  rcases hr T hT X with ⟨v9, st₀, t, T', L, h0, X', hL, e1, e2, ⟨⟨v8, hv, ho⟩, -⟩, -⟩ | ⟨q, st₀, t, T', L, E9, ce, h0, X', hL, e1, e2, ⟨hv, ⟨g, hg, hR⟩, hF⟩, hce, hcv, hcl, st9⟩
  · cases hv
  · cases hv
    obtain ⟨-, -, hS'⟩ := vx_keep (A0 := fun q => B ≤ q) (A1 := fun q => B ≤ q) (free := fun q => B ≤ q) h0 e1 k14 (fun _ _ h => h) (fun _ h => h) hL hF
    obtain ⟨t2, a1, b1⟩ := vx_out (p := p) (l := l) (e := e) (R := { frames := M.fr, cells := mc, slots := ms, locals := M.lo }) (s := s) (m := m) (args := args) (below := below) (meth := meth) (c := c) (H := T'.heap) (locs := locs ++ L) (cells := c0 + mc1) (slots := s0 + ms1) (ls := arr) (rest := rest) (Qc := eQc D cy B r) (XC := eXc D cy B r) (free := fun q => B ≤ q) (pc := pc) (q := q) (fun x hx => by rw [k7, htb] at hx; cases hx) k6 (by rw [e1]; exact hce) hcv hcl
      (fun t9 ht9 _ => ⟨h1r, ⟨g, h2r g hg, by rw [ht9, e1]; exact hR⟩, hS'.F ht9⟩) hS'.2.2 hc hs T' rfl X'
    exact ⟨t2, st9.trans a1, b1⟩
/-- a callee that threw, caught by the row x of the table -/
theorem eV.caught {l : Launch} {D : va_G} {cy : Nat → ClassId} {B : Nat} {p : Program} {e : Env} {s : State} {m : MethodId} {args : Array Value} {below : List Frame} {meth : Method} {c : Code} {H : Heap} {locs : List Loc} {arr : Array Slot} {h : eH} {h1 : eH → Prop} {n c0 s0 mc1 ms1 : Nat} {E name : String} {nn : Option Nat} {st0 rest : List Value} {a : Array Value}
    (K : eK M (h, n, c0, s0) l D cy B p s m args meth c H locs) (hl : lv_has arr M.2.1 (eff lv)) (pre : List ExceptionTableEntry) (x : ExceptionTableEntry) (suf : List ExceptionTableEntry) (htb : M.tb = pre ++ x :: suf)
    (hpass : ∀ z ∈ pre, covers z pc = false ∨ (z.catchType ≠ 0 ∧ ∃ nm : String, Cond.classLink M.own z.catchType nm ∈ eW ∧ (E, nm) ∈ eNc)) (hx : covers x pc = true) (hx0 : x.catchType ≠ 0) (hlk : Cond.classLink M.own x.catchType name ∈ eW) (hcast : Cond.castable E name ∈ eX)
    (hr : vx_Run p l e ({ frames := M.fr, cells := mc, slots := ms, locals := M.lo }) s m args below meth c H locs c0 s0 mc1 ms1 (F0 m pc arr st0) rest (eQc D cy B (.inr E, h1, nn) a) (eXc D cy B (.inr E, h1, nn)) (fun q => B ≤ q))
    (k : ∀ (q n9 : Nat) (g : eH), h1 g → eV M x.handlerPc lv [.ref q] (g, n9, c0 + mc1, s0 + ms1) r mc ms) :
    W p l e ({ frames := M.fr, cells := mc, slots := ms, locals := M.lo }) s m args below meth c H locs c0 s0 (vx_MQ below (eQc D cy B r) (eXc D cy B r) args s mc ms (fun q => B ≤ q)) (F0 m pc arr st0) := by
  intro T hT X
  obtain ⟨k1, k2, k3, k4, k5, k6, k7, k8, k9, k10, k11, k12, k13, k14, k15, k16, k17⟩ := id K
  rcases hr T hT X with ⟨v9, st₀, t, T', L, h0, X', hL, e1, e2, ⟨⟨v8, hv, ho⟩, -⟩, -⟩ | ⟨q, st₀, t, T', L, E9, ce, h0, X', hL, e1, e2, ⟨hv, ⟨g, hg, hR⟩, hF⟩, hce, hcv, hcl, st9⟩
  · cases hv
  · cases hv
    obtain ⟨t2, a1, b1⟩ := vx_catch (p := p) (l := l) (e := e) (R := { frames := M.fr, cells := mc, slots := ms, locals := M.lo }) (s := s) (m := m) (args := args) (below := below) (meth := meth) (c := c) (H := T'.heap) (locs := locs ++ L) (cells := c0 + mc1) (slots := s0 + ms1) (ls := arr) (rest := rest) (pc := pc) (q := q) k9 pre x suf (k7.trans htb)
      (fun z hz => (hpass z hz).imp_right fun ⟨g0, nm, g1, g2⟩ => ⟨g0, nm, k10 _ g1, k11.2.2.2.1 _ g2⟩) hx hx0 (k10 _ hlk) (va_Nw.use rfl (k11.2.1 _ hcast)) (by rw [e1]; exact hce) hcv hcl
      (k q _ g hg l D cy B p e s m args below meth c T'.heap (locs ++ L) arr (K.back h0 e1 hL hF rfl hR) hl) T' rfl X'
    exact ⟨t2, st9.trans a1, b1⟩
theorem eGood (wd : Cond) (hwd : wd ∈ eW) (ws : List Cond) (h : ∀ w ∈ ws, w ∈ eW) : GoodIn eW (ws ++ wd :: eW) := eW_in fun w hw => by
  rcases List.mem_append.mp hw with h9 | h9
  · exact h w h9
  · rcases List.mem_cons.mp h9 with rfl | h9
    · exact hwd
    · exact h9
theorem eRunV {l : Launch} {D : va_G} {cy : Nat → ClassId} {B : Nat} {p : Program} {e : Env} {s : State} {m : MethodId} {args : Array Value} {below : List Frame} {meth : Method} {c : Code} {H : Heap} {locs : List Loc} {arr : Array Slot} {h : eH} {n c0 s0 mc1 ms1 idx b ci : Nat} {q : vw_C} {fs : List Value} {y : MethodName} {bytes : ByteArray} {maxL fr1 lo1 : Nat} {ret : Option FieldType} {As rest : List Value} {rj : eRes}
    (K : eK M (h, n, c0, s0) l D cy B p s m args meth c H locs) (hl : lv_has arr M.2.1 (eff lv)) (hm : eM y (.code y bytes maxL ret) fr1 lo1 (.ref b :: As) h n rj mc1 ms1) (hq : vwCl[ci]? = some q) (hk : eLV M.own idx q.1 y (.code y bytes maxL ret) As.length) (ho : h b = some (.inr (ci, fs)))
    (hroom : fr1 + 1 ≤ M.fr ∧ 8 + (maxL + 11) + lo1 ≤ M.lo) (hst : st = As.reverse ++ .ref b :: rest) (hw : (rest.map fun v => v.category).sum ≤ 8) (hb : c0 + mc1 ≤ mc ∧ s0 + ms1 ≤ ms) (d : decode M.1 pc = .ok (.invokevirtual idx, 3)) :
    vx_Run p l e ({ frames := M.fr, cells := mc, slots := ms, locals := M.lo }) s m args below meth c H locs c0 s0 mc1 ms1 (F0 m pc arr st) rest (eQc D cy B rj (Value.ref b :: As).toArray) (eXc D cy B rj) (fun q => B ≤ q) := by
  obtain ⟨k1, k2, k3, k4, k5, k6, k7, k8, k9, k10, k11, k12, k13, k14, k15, k16, k17⟩ := id K
  obtain ⟨g1, g2, g3, g4, g5, g6, g7, g8, g9⟩ := hk
  have hp := K.pre (.ref b :: As)
  exact vx_runV (As := As) (rest := rest) ⟨k2, k3, k4, k9, k10⟩ (hm l D cy B k1)
    (cwV As.length k10 (eGood _ g5 [.methodLink M.own idx y, .instanceMethod y, .selects q.1 y y, .initialized q.1] (by
      intro w hw9
      simp only [List.mem_cons, List.not_mem_nil, or_false] at hw9
      rcases hw9 with rfl | rfl | rfl | rfl <;> assumption)) rfl rfl rfl ⟨g6, g7, g8, g9⟩ hroom)
    ⟨hp.1, va_recv k11.1 (k16.one ho) (ci := ci) (q0 := 0) hq rfl, hp.2⟩ rfl rfl hl.1 hst (by show 2 * 0 + _ ≤ 8; omega) d hb
theorem ev_callVi {h : eH} {h1 : eH → Prop} {n n1 c0 s0 mc1 ms1 idx b ci : Nat} {q : vw_C} {fs : List Value} {y : MethodName} {bytes : ByteArray} {maxL fr1 lo1 : Nat} {ret : Option FieldType} {As rest : List Value} {v : Value} (d : decode M.1 pc = .ok (.invokevirtual idx, 3)) (hm : eM y (.code y bytes maxL ret) fr1 lo1 (.ref b :: As) h n (.inl (some v), h1, some n1) mc1 ms1)
    (hq : vwCl[ci]? = some q) (hk : eLV M.own idx q.1 y (.code y bytes maxL ret) As.length) (ho : h b = some (.inr (ci, fs))) (hroom : fr1 + 1 ≤ M.fr ∧ 8 + (maxL + 11) + lo1 ≤ M.lo) (hst : st = As.reverse ++ .ref b :: rest) (hw : (rest.map fun v => v.category).sum ≤ 8) (hb : c0 + mc1 ≤ mc ∧ s0 + ms1 ≤ ms)
    (k : ∀ g : eH, h1 g → eV M (pc + 3) lv (v :: rest) (g, n1, c0 + mc1, s0 + ms1) r mc ms) : eV M pc lv st (h, n, c0, s0) r mc ms := by
  intro l D cy B p e s m args below meth c H locs arr K hl
  exact eV.ran K hl (eRunV K hl hm hq hk ho hroom hst hw hb d) k
theorem ev_callVv {h : eH} {h1 : eH → Prop} {n n1 c0 s0 mc1 ms1 idx b ci : Nat} {q : vw_C} {fs : List Value} {y : MethodName} {bytes : ByteArray} {maxL fr1 lo1 : Nat} {ret : Option FieldType} {As rest : List Value} (d : decode M.1 pc = .ok (.invokevirtual idx, 3)) (hm : eM y (.code y bytes maxL ret) fr1 lo1 (.ref b :: As) h n (.inl none, h1, some n1) mc1 ms1)
    (hq : vwCl[ci]? = some q) (hk : eLV M.own idx q.1 y (.code y bytes maxL ret) As.length) (ho : h b = some (.inr (ci, fs))) (hroom : fr1 + 1 ≤ M.fr ∧ 8 + (maxL + 11) + lo1 ≤ M.lo) (hst : st = As.reverse ++ .ref b :: rest) (hw : (rest.map fun v => v.category).sum ≤ 8) (hb : c0 + mc1 ≤ mc ∧ s0 + ms1 ≤ ms)
    (k : ∀ g : eH, h1 g → eV M (pc + 3) lv rest (g, n1, c0 + mc1, s0 + ms1) r mc ms) : eV M pc lv st (h, n, c0, s0) r mc ms := by
  intro l D cy B p e s m args below meth c H locs arr K hl
  exact eV.ran K hl (eRunV K hl hm hq hk ho hroom hst hw hb d) k
theorem ev_callVx {h : eH} {h1 : eH → Prop} {n c0 s0 mc1 ms1 idx b ci : Nat} {q : vw_C} {fs : List Value} {y : MethodName} {bytes : ByteArray} {maxL fr1 lo1 : Nat} {ret : Option FieldType} {As rest : List Value} {E : String} {nn : Option Nat} (d : decode M.1 pc = .ok (.invokevirtual idx, 3)) (hm : eM y (.code y bytes maxL ret) fr1 lo1 (.ref b :: As) h n (.inr E, h1, nn) mc1 ms1)
    (hq : vwCl[ci]? = some q) (hk : eLV M.own idx q.1 y (.code y bytes maxL ret) As.length) (ho : h b = some (.inr (ci, fs))) (hroom : fr1 + 1 ≤ M.fr ∧ 8 + (maxL + 11) + lo1 ≤ M.lo) (hst : st = As.reverse ++ .ref b :: rest) (hw : (rest.map fun v => v.category).sum ≤ 8) (hb : c0 + mc1 ≤ mc ∧ s0 + ms1 ≤ ms)
    (htb : M.tb = []) (h1r : r.1 = .inr E) (h2r : ∀ g : eH, h1 g → r.2.1 g) : eV M pc lv st (h, n, c0, s0) r mc ms := by
  intro l D cy B p e s m args below meth c H locs arr K hl
  exact eV.threw K htb (eRunV K hl hm hq hk ho hroom hst hw hb d) h1r h2r hb.1 hb.2
theorem ev_callVc {h : eH} {h1 : eH → Prop} {n c0 s0 mc1 ms1 idx b ci : Nat} {q : vw_C} {fs : List Value} {y : MethodName} {bytes : ByteArray} {maxL fr1 lo1 : Nat} {ret : Option FieldType} {As rest : List Value} {E name : String} {nn : Option Nat} (d : decode M.1 pc = .ok (.invokevirtual idx, 3)) (hm : eM y (.code y bytes maxL ret) fr1 lo1 (.ref b :: As) h n (.inr E, h1, nn) mc1 ms1)
    (hq : vwCl[ci]? = some q) (hk : eLV M.own idx q.1 y (.code y bytes maxL ret) As.length) (ho : h b = some (.inr (ci, fs))) (hroom : fr1 + 1 ≤ M.fr ∧ 8 + (maxL + 11) + lo1 ≤ M.lo) (hst : st = As.reverse ++ .ref b :: rest) (hw : (rest.map fun v => v.category).sum ≤ 8) (hb : c0 + mc1 ≤ mc ∧ s0 + ms1 ≤ ms)
    (pre : List ExceptionTableEntry) (x : ExceptionTableEntry) (suf : List ExceptionTableEntry) (htb : M.tb = pre ++ x :: suf)
    (hpass : ∀ z ∈ pre, covers z pc = false ∨ (z.catchType ≠ 0 ∧ ∃ nm : String, Cond.classLink M.own z.catchType nm ∈ eW ∧ (E, nm) ∈ eNc)) (hx : covers x pc = true) (hx0 : x.catchType ≠ 0) (hlk : Cond.classLink M.own x.catchType name ∈ eW) (hcast : Cond.castable E name ∈ eX)
    (k : ∀ (q n9 : Nat) (g : eH), h1 g → eV M x.handlerPc lv [.ref q] (g, n9, c0 + mc1, s0 + ms1) r mc ms) : eV M pc lv st (h, n, c0, s0) r mc ms := by
  intro l D cy B p e s m args below meth c H locs arr K hl
  exact eV.caught K hl pre x suf htb hpass hx hx0 hlk hcast (eRunV K hl hm hq hk ho hroom hst hw hb d) k
theorem eRunS {l : Launch} {D : va_G} {cy : Nat → ClassId} {B : Nat} {p : Program} {e : Env} {s : State} {m : MethodId} {args : Array Value} {below : List Frame} {meth : Method} {c : Code} {H : Heap} {locs : List Loc} {arr : Array Slot} {h : eH} {n c0 s0 mc1 ms1 idx : Nat} {y : MethodName} {bytes : ByteArray} {maxL fr1 lo1 : Nat} {ret : Option FieldType} {As rest : List Value} {rj : eRes}
    (K : eK M (h, n, c0, s0) l D cy B p s m args meth c H locs) (hl : lv_has arr M.2.1 (eff lv)) (hm : eM y (.code y bytes maxL ret) fr1 lo1 As h n rj mc1 ms1) (hk : eLS M.own idx y (.code y bytes maxL ret) As.length)
    (hroom : fr1 + 1 ≤ M.fr ∧ 8 + (maxL + 11) + lo1 ≤ M.lo) (hst : st = As.reverse ++ rest) (hw : (rest.map fun v => v.category).sum ≤ 8) (hb : c0 + mc1 ≤ mc ∧ s0 + ms1 ≤ ms) (d : decode M.1 pc = .ok (.invokestatic idx, 3)) :
    vx_Run p l e ({ frames := M.fr, cells := mc, slots := ms, locals := M.lo }) s m args below meth c H locs c0 s0 mc1 ms1 (F0 m pc arr st) rest (eQc D cy B rj As.toArray) (eXc D cy B rj) (fun q => B ≤ q) := by
  obtain ⟨k1, k2, k3, k4, k5, k6, k7, k8, k9, k10, k11, k12, k13, k14, k15, k16, k17⟩ := id K
  obtain ⟨g1, g2, g3, g5, g7, g8, g9⟩ := hk
  exact vx_runS (As := As) (rest := rest) ⟨k2, k3, k4, k9, k10⟩ (hm l D cy B k1)
    (va_cwS As.length k10 (eGood _ g5 [.methodLink M.own idx y, .static y, .initialized y.cls] (by
      intro w hw9
      simp only [List.mem_cons, List.not_mem_nil, or_false] at hw9
      rcases hw9 with rfl | rfl | rfl <;> assumption)) rfl rfl rfl ⟨g7, g8, g9⟩ hroom)
    (K.pre As) rfl rfl hl.1 hst (by show 2 * 0 + _ ≤ 8; omega) d hb
theorem ev_callSi {h : eH} {h1 : eH → Prop} {n n1 c0 s0 mc1 ms1 idx : Nat} {y : MethodName} {bytes : ByteArray} {maxL fr1 lo1 : Nat} {ret : Option FieldType} {As rest : List Value} {v : Value} (d : decode M.1 pc = .ok (.invokestatic idx, 3)) (hm : eM y (.code y bytes maxL ret) fr1 lo1 As h n (.inl (some v), h1, some n1) mc1 ms1)
    (hk : eLS M.own idx y (.code y bytes maxL ret) As.length) (hroom : fr1 + 1 ≤ M.fr ∧ 8 + (maxL + 11) + lo1 ≤ M.lo) (hst : st = As.reverse ++ rest) (hw : (rest.map fun v => v.category).sum ≤ 8) (hb : c0 + mc1 ≤ mc ∧ s0 + ms1 ≤ ms)
    (k : ∀ g : eH, h1 g → eV M (pc + 3) lv (v :: rest) (g, n1, c0 + mc1, s0 + ms1) r mc ms) : eV M pc lv st (h, n, c0, s0) r mc ms := by
  intro l D cy B p e s m args below meth c H locs arr K hl
  exact eV.ran K hl (eRunS K hl hm hk hroom hst hw hb d) k
theorem ev_callSv {h : eH} {h1 : eH → Prop} {n n1 c0 s0 mc1 ms1 idx : Nat} {y : MethodName} {bytes : ByteArray} {maxL fr1 lo1 : Nat} {ret : Option FieldType} {As rest : List Value} (d : decode M.1 pc = .ok (.invokestatic idx, 3)) (hm : eM y (.code y bytes maxL ret) fr1 lo1 As h n (.inl none, h1, some n1) mc1 ms1)
    (hk : eLS M.own idx y (.code y bytes maxL ret) As.length) (hroom : fr1 + 1 ≤ M.fr ∧ 8 + (maxL + 11) + lo1 ≤ M.lo) (hst : st = As.reverse ++ rest) (hw : (rest.map fun v => v.category).sum ≤ 8) (hb : c0 + mc1 ≤ mc ∧ s0 + ms1 ≤ ms)
    (k : ∀ g : eH, h1 g → eV M (pc + 3) lv rest (g, n1, c0 + mc1, s0 + ms1) r mc ms) : eV M pc lv st (h, n, c0, s0) r mc ms := by
  intro l D cy B p e s m args below meth c H locs arr K hl
  exact eV.ran K hl (eRunS K hl hm hk hroom hst hw hb d) k
theorem ev_callSx {h : eH} {h1 : eH → Prop} {n c0 s0 mc1 ms1 idx : Nat} {y : MethodName} {bytes : ByteArray} {maxL fr1 lo1 : Nat} {ret : Option FieldType} {As rest : List Value} {E : String} {nn : Option Nat} (d : decode M.1 pc = .ok (.invokestatic idx, 3)) (hm : eM y (.code y bytes maxL ret) fr1 lo1 As h n (.inr E, h1, nn) mc1 ms1)
    (hk : eLS M.own idx y (.code y bytes maxL ret) As.length) (hroom : fr1 + 1 ≤ M.fr ∧ 8 + (maxL + 11) + lo1 ≤ M.lo) (hst : st = As.reverse ++ rest) (hw : (rest.map fun v => v.category).sum ≤ 8) (hb : c0 + mc1 ≤ mc ∧ s0 + ms1 ≤ ms)
    (htb : M.tb = []) (h1r : r.1 = .inr E) (h2r : ∀ g : eH, h1 g → r.2.1 g) : eV M pc lv st (h, n, c0, s0) r mc ms := by
  intro l D cy B p e s m args below meth c H locs arr K hl
  exact eV.threw K htb (eRunS K hl hm hk hroom hst hw hb d) h1r h2r hb.1 hb.2
/-- a static method with a table (the law's) -/
theorem ev_callSW {h : eH} {h1 : eH → Prop} {n n1 c0 s0 mc1 ms1 idx : Nat} {y : MethodName} {bytes : ByteArray} {maxL fr1 lo1 : Nat} {ret : Option FieldType} {hh : List (Nat × Nat × Nat × Nat)} {As rest : List Value} {v : Value} {nn : Option Nat} (d : decode M.1 pc = .ok (.invokestatic idx, 3)) (hm : eM y (.codeWith y bytes maxL ret hh) fr1 lo1 As h n (.inl (some v), h1, nn) mc1 ms1)
    (hk : eLS M.own idx y (.codeWith y bytes maxL ret hh) As.length) (hroom : fr1 + 1 ≤ M.fr ∧ 8 + (maxL + 11) + lo1 ≤ M.lo) (hst : st = As.reverse ++ rest) (hw : (rest.map fun v => v.category).sum ≤ 8) (hb : c0 + mc1 ≤ mc ∧ s0 + ms1 ≤ ms)
    (k : ∀ (n1 : Nat) (g : eH), (∀ z, nn = some z → n1 = z) → h1 g → eV M (pc + 3) lv (v :: rest) (g, n1, c0 + mc1, s0 + ms1) r mc ms) : eV M pc lv st (h, n, c0, s0) r mc ms := by
  intro l D cy B p e s m args below meth c H locs arr K hl T hT X
  obtain ⟨k1, k2, k3, k4, k5, k6, k7, k8, k9, k10, k11, k12, k13, k14, k15, k16, k17⟩ := id K
  obtain ⟨g1, g2, g3, g5, g7, g8, g9⟩ := hk
  have hrun := vx_runSX (As := As) (rest := rest) (p := p) (e := e) (R := { frames := M.fr, cells := mc, slots := ms, locals := M.lo }) (below := below) (meth := meth) (H := H) (locs := locs) (cells := c0) (slots := s0) (g := F0 m pc arr st) ⟨k2, k3, k4, k9, k10⟩ (hm l D cy B k1)
    (vx_cwSW As.length k10 (eGood _ g5 [.methodLink M.own idx y, .static y, .initialized y.cls] (by
      intro w hw9
      simp only [List.mem_cons, List.not_mem_nil, or_false] at hw9
      rcases hw9 with rfl | rfl | rfl <;> assumption)) rfl rfl rfl ⟨g7, g8, g9⟩ hroom)
    (K.pre As) rfl rfl hl.1 hst (by show 2 * 0 + _ ≤ 8; omega) d hb
  rcases hrun T hT X with ⟨v9, st₀, t, T', L, h0, X', hL, e1, e2, ⟨⟨v8, hv, ho⟩, ⟨g, hg, hR⟩, hn, hF⟩, st9⟩ | ⟨q, st₀, t, T', L, E, ce, h0, X', hL, e1, e2, ⟨hv, -⟩, -⟩
  · cases hv
    cases ho
    obtain ⟨t2, a1, b1⟩ := k t.heap.size g (fun z hz => hn z hz) hg l D cy B p e s m args below meth c T'.heap (locs ++ L) arr (K.back h0 e1 hL hF rfl hR) hl T' rfl X'
    exact ⟨t2, st9 t2 a1, b1⟩
  · cases hv
theorem eM.met {y : MethodName} {wd : Cond} {fr1 lo1 : Nat} {args : List Value} {h : eH} {h1 : eH → Prop} {n mc1 ms1 : Nat} {v : Option Value} {nn : Option Nat} (hm : eM y wd fr1 lo1 args h n (.inl v, h1, nn) mc1 ms1) (l : Launch) (D : va_G) (cy : Nat → ClassId) (B : Nat) (hf : l.flags = flags0) :
    Met l y (wd :: eW) ({ frames := fr1, cells := mc1, slots := ms1, locals := lo1 }) (ePc D cy B args h n) (eQc D cy B (.inl v, h1, nn)) mc1 ms1 (fun q => B ≤ q) := by
  intro p e ha hc hk s m args' below hfr happ hP hK
  obtain ⟨k, o, a1, a2, a3, a4⟩ := hm l D cy B hf p e ha hc hk s m args' below hfr happ hP hK
  refine ⟨k, o, a1, a2, a3, ?_⟩
  rcases a4 with a4 | ⟨q, -, E, ce, L, ⟨hx, -⟩, -⟩
  · exact a4
  · cases hx
theorem eV.ranM {l : Launch} {D : va_G} {cy : Nat → ClassId} {B : Nat} {p : Program} {e : Env} {s : State} {m : MethodId} {args : Array Value} {below : List Frame} {meth : Method} {c : Code} {H : Heap} {locs : List Loc} {arr : Array Slot} {h : eH} {h1 : eH → Prop} {n n1 c0 s0 mc1 ms1 : Nat} {v : Option Value} {st0 rest : List Value} {a : Array Value}
    (K : eK M (h, n, c0, s0) l D cy B p s m args meth c H locs) (hl : lv_has arr M.2.1 (eff lv))
    (hr : va_Run p l e ({ frames := M.fr, cells := mc, slots := ms, locals := M.lo }) s m args below meth c H locs c0 s0 mc1 ms1 (F0 m pc arr st0) rest (eQc D cy B (.inl v, h1, some n1) a) (fun q => B ≤ q))
    (k : ∀ g : eH, h1 g → eV M (pc + 3) lv (v.toList ++ rest) (g, n1, c0 + mc1, s0 + ms1) r mc ms) :
    W p l e ({ frames := M.fr, cells := mc, slots := ms, locals := M.lo }) s m args below meth c H locs c0 s0 (vx_MQ below (eQc D cy B r) (eXc D cy B r) args s mc ms (fun q => B ≤ q)) (F0 m pc arr st0) := by
  intro T hT X
  obtain ⟨v9, st₀, t, T', L, h0, X', hL, e1, e2, ⟨⟨v8, hv, ho⟩, ⟨g, hg, hR⟩, hn, hF⟩, st9⟩ := hr T hT X
  cases hv
  cases ho
  obtain ⟨t2, a1, b1⟩ := k g hg l D cy B p e s m args below meth c T'.heap (locs ++ L) arr (K.back h0 e1 hL hF (hn _ rfl) hR) hl T' rfl X'
  exact ⟨t2, st9 t2 a1, b1⟩
/-- a nest mate's static method -/
theorem ev_callNi {h : eH} {h1 : eH → Prop} {n n1 c0 s0 mc1 ms1 idx : Nat} {y : MethodName} {bytes : ByteArray} {maxL fr1 lo1 : Nat} {ret : Option FieldType} {As rest : List Value} {v : Value} {host : String} (d : decode M.1 pc = .ok (.invokestatic idx, 3)) (hm : eM y (.code y bytes maxL ret) fr1 lo1 As h n (.inl (some v), h1, some n1) mc1 ms1)
    (hk : eLN M.own idx y (.code y bytes maxL ret) As.length host) (hstat : Cond.static y ∈ eW) (hroom : fr1 + 1 ≤ M.fr ∧ 8 + (maxL + 11) + lo1 ≤ M.lo) (hst : st = As.reverse ++ rest) (hw : (rest.map fun v => v.category).sum ≤ 8) (hb : c0 + mc1 ≤ mc ∧ s0 + ms1 ≤ ms)
    (k : ∀ g : eH, h1 g → eV M (pc + 3) lv (v :: rest) (g, n1, c0 + mc1, s0 + ms1) r mc ms) : eV M pc lv st (h, n, c0, s0) r mc ms := by
  intro l D cy B p e s m args below meth c H locs arr K hl
  obtain ⟨k1, k2, k3, k4, k5, k6, k7, k8, k9, k10, k11, k12, k13, k14, k15, k16, k17⟩ := id K
  obtain ⟨g1, g3, g5, g7, g8, g9⟩ := hk
  exact eV.ranM K hl (va_runSN (As := As) (rest := rest) ⟨k2, k3, k4, k9, k10⟩ (hm.met l D cy B k1) ⟨va_cnB As.length k10 (eGood _ g5 [] (fun _ h9 => nomatch h9)) rfl rfl rfl (k11.2.1 _ g1) (k10 _ g3) ⟨g7, g8, g9⟩ hroom, k10 _ hstat, trivial⟩ (K.pre As) rfl rfl hl.1 hst (by show 2 * 0 + _ ≤ 8; omega) d hb) k
/-- a constructor -/
theorem ev_callI {h : eH} {h1 : eH → Prop} {n n1 c0 s0 mc1 ms1 idx b : Nat} {y : MethodName} {bytes : ByteArray} {maxL fr1 lo1 : Nat} {As rest : List Value} (d : decode M.1 pc = .ok (.invokespecial idx, 3)) (hm : eM y (.code y bytes maxL none) fr1 lo1 (.ref b :: As) h n (.inl none, h1, some n1) mc1 ms1)
    (hk : Cond.methodLink M.own idx y ∈ eW ∧ Cond.instanceMethod y ∈ eW ∧ Cond.initialized y.cls ∈ eW ∧ Cond.code y bytes maxL none ∈ eW ∧ y.name = "<init>" ∧ y.cls ≠ "java/lang/invoke/MethodHandle" ∧ y.cls ≠ "java/lang/invoke/VarHandle" ∧ (parseMethodDescriptor y.desc).map (fun d => d.parameters.length) = some As.length)
    (hroom : fr1 + 1 ≤ M.fr ∧ 8 + (maxL + 11) + lo1 ≤ M.lo) (hst : st = As.reverse ++ .ref b :: rest) (hw : (rest.map fun v => v.category).sum ≤ 8) (hb : c0 + mc1 ≤ mc ∧ s0 + ms1 ≤ ms)
    (k : ∀ g : eH, h1 g → eV M (pc + 3) lv rest (g, n1, c0 + mc1, s0 + ms1) r mc ms) : eV M pc lv st (h, n, c0, s0) r mc ms := by
  intro l D cy B p e s m args below meth c H locs arr K hl
  obtain ⟨k1, k2, k3, k4, k5, k6, k7, k8, k9, k10, k11, k12, k13, k14, k15, k16, k17⟩ := id K
  obtain ⟨g1, g2, g3, g4, g5, g6, g7, g8⟩ := hk
  exact eV.ranM K hl (va_runI (As := As) (rest := rest) ⟨k2, k3, k4, k9, k10⟩ (hm.met l D cy B k1) (cwI As.length k10 (eGood _ g4 [] (fun _ h9 => nomatch h9)) rfl rfl rfl (k10 _ g3) (k10 _ g1) (k10 _ g2) g5 ⟨g6, g7, g8⟩ hroom) (K.pre (.ref b :: As)) rfl rfl hl.1 hst (by show 2 * 0 + _ ≤ 8; omega) d hb) k
/-- a nest mate's constructor -/
theorem ev_callIN {h : eH} {h1 : eH → Prop} {n n1 c0 s0 mc1 ms1 idx b : Nat} {y : MethodName} {bytes : ByteArray} {maxL fr1 lo1 : Nat} {As rest : List Value} {host : String} (d : decode M.1 pc = .ok (.invokespecial idx, 3)) (hm : eM y (.code y bytes maxL none) fr1 lo1 (.ref b :: As) h n (.inl none, h1, some n1) mc1 ms1)
    (hk : eLN M.own idx y (.code y bytes maxL none) As.length host) (hin : Cond.instanceMethod y ∈ eW) (hmn : y.name = "<init>") (hroom : fr1 + 1 ≤ M.fr ∧ 8 + (maxL + 11) + lo1 ≤ M.lo) (hst : st = As.reverse ++ .ref b :: rest) (hw : (rest.map fun v => v.category).sum ≤ 8) (hb : c0 + mc1 ≤ mc ∧ s0 + ms1 ≤ ms)
    (k : ∀ g : eH, h1 g → eV M (pc + 3) lv rest (g, n1, c0 + mc1, s0 + ms1) r mc ms) : eV M pc lv st (h, n, c0, s0) r mc ms := by
  intro l D cy B p e s m args below meth c H locs arr K hl
  obtain ⟨k1, k2, k3, k4, k5, k6, k7, k8, k9, k10, k11, k12, k13, k14, k15, k16, k17⟩ := id K
  obtain ⟨g1, g3, g5, g7, g8, g9⟩ := hk
  exact eV.ranM K hl (va_runIN (As := As) (rest := rest) ⟨k2, k3, k4, k9, k10⟩ (hm.met l D cy B k1) ⟨va_cnB As.length k10 (eGood _ g5 [] (fun _ h9 => nomatch h9)) rfl rfl rfl (k11.2.1 _ g1) (k10 _ g3) ⟨g7, g8, g9⟩ hroom, hmn, k10 _ hin⟩ (K.pre (.ref b :: As)) rfl rfl hl.1 hst (by show 2 * 0 + _ ≤ 8; omega) d hb) k
/-- throw new E("text"): five instructions -/
theorem ev_throwS {h : eH} {n c0 s0 ik is ic : Nat} {E text : String} {names : List String} (d0 : decode M.1 pc = .ok (.new ik, 3)) (d3 : decode M.1 (pc + 3) = .ok (.dup, 1)) (d4 : decode M.1 (pc + 4) = .ok (.ldc is, 2)) (d6 : decode M.1 (pc + 6) = .ok (.invokespecial ic, 3)) (d9 : decode M.1 (pc + 9) = .ok (.athrow, 1))
    (hcls : Bundle.fit E = true) (hnames : ∀ n ∈ names, Bundle.fit n = true) (hk : Cond.classLink M.own ik E ∈ eW) (hini : Cond.initialized E ∈ eW) (hstr : (M.own, is, text) ∈ eStr) (hat : ∀ w ∈ vx_atS M.own ic E names, w ∈ eW ∨ w ∈ eX) (hgood : ∀ w ∈ Cond.classLink M.own ik E :: Cond.initialized E :: vx_atS M.own ic E names, vx_ot w = true)
    (htb : M.tb = []) (hfr : names.length + 3 < M.fr) (hlo : (st.map fun v => v.category).sum + (13 * (names.length + 1) + 43) ≤ M.lo) (hc : c0 + 1 ≤ mc) (hs : s0 + 6 ≤ ms) (h1r : r.1 = .inr E) (h2r : r.2.1 h) : eV M pc lv st (h, n, c0, s0) r mc ms := by
  intro l D cy B p e s m args below meth c H locs arr K hl
  obtain ⟨k1, k2, k3, k4, k5, k6, k7, k8, k9, k10, k11, k12, k13, k14, k15, k16, k17⟩ := id K
  obtain ⟨sa, hsa⟩ := k11.2.2.1 _ hstr
  refine vx_throwS (A := fun q => B ≤ q) k2 k3 (by rw [Launch.stackTraces, k1]; rfl) k9 hcls hnames (k10 _ hk) (k10 _ hini) hsa (fun w hw => (hat w hw).elim (fun h9 => k10 _ h9) (fun h9 => va_Nw.use (eX_tables (List.mem_filter.mp h9).2) (k11.2.1 _ h9))) hgood k12.1 k12.2 k14 (by rw [k4]; exact hl.1) d0 d3 d4 d6 d9 (fun x hx => by rw [k7, htb] at hx; cases hx) hfr hlo hc hs k6
    (fun t hal hz hq => ⟨h1r, ⟨h, h2r, fun a x hx => ⟨(k16 a x hx).1, (k16 a x hx).2.kept (hq a (k16 a x hx).2.lt)⟩⟩, ⟨Nat.le_trans k14.1 hz, fun q g1 g2 => (hq q (Nat.lt_of_lt_of_le g1 k14.1)).trans (k14.2.1 q g1 g2)⟩⟩) k14.2.2 hc hs
theorem ev_throwSW {h : eH} {n c0 s0 ik is ic : Nat} {E text : String} {names : List String} (d0 : decode M.1 pc = .ok (.new ik, 3)) (d3 : decode M.1 (pc + 3) = .ok (.dup, 1)) (d4 : decode M.1 (pc + 4) = .ok (.ldc_w is, 3)) (d6 : decode M.1 (pc + 7) = .ok (.invokespecial ic, 3)) (d9 : decode M.1 (pc + 10) = .ok (.athrow, 1))
    (hcls : Bundle.fit E = true) (hnames : ∀ n ∈ names, Bundle.fit n = true) (hk : Cond.classLink M.own ik E ∈ eW) (hini : Cond.initialized E ∈ eW) (hstr : (M.own, is, text) ∈ eStr) (hat : ∀ w ∈ vx_atS M.own ic E names, w ∈ eW ∨ w ∈ eX) (hgood : ∀ w ∈ Cond.classLink M.own ik E :: Cond.initialized E :: vx_atS M.own ic E names, vx_ot w = true)
    (htb : M.tb = []) (hfr : names.length + 3 < M.fr) (hlo : (st.map fun v => v.category).sum + (13 * (names.length + 1) + 43) ≤ M.lo) (hc : c0 + 1 ≤ mc) (hs : s0 + 6 ≤ ms) (h1r : r.1 = .inr E) (h2r : r.2.1 h) : eV M pc lv st (h, n, c0, s0) r mc ms := by
  intro l D cy B p e s m args below meth c H locs arr K hl
  obtain ⟨k1, k2, k3, k4, k5, k6, k7, k8, k9, k10, k11, k12, k13, k14, k15, k16, k17⟩ := id K
  obtain ⟨sa, hsa⟩ := k11.2.2.1 _ hstr
  refine vx_throwSW (A := fun q => B ≤ q) k2 k3 (by rw [Launch.stackTraces, k1]; rfl) k9 hcls hnames (k10 _ hk) (k10 _ hini) hsa (fun w hw => (hat w hw).elim (fun h9 => k10 _ h9) (fun h9 => va_Nw.use (eX_tables (List.mem_filter.mp h9).2) (k11.2.1 _ h9))) hgood k12.1 k12.2 k14 (by rw [k4]; exact hl.1) d0 d3 d4 d6 d9 (fun x hx => by rw [k7, htb] at hx; cases hx) hfr hlo hc hs k6
    (fun t hal hz hq => ⟨h1r, ⟨h, h2r, fun a x hx => ⟨(k16 a x hx).1, (k16 a x hx).2.kept (hq a (k16 a x hx).2.lt)⟩⟩, ⟨Nat.le_trans k14.1 hz, fun q g1 g2 => (hq q (Nat.lt_of_lt_of_le g1 k14.1)).trans (k14.2.1 q g1 g2)⟩⟩) k14.2.2 hc hs
end EvRules
/-- a contract out of a walk from the entry -/
theorem eM.of {y : MethodName} {cc : ByteArray} {nL : Nat} {ret : Option FieldType} {fr lo : Nat} {args : List Value} {h : eH} {n : Nat} {r : eRes} {mc ms : Nat} (own mn : String) (lv : List (Nat × Value)) (hy : plainName y.cls = true) (hown : y.cls = own) (hmn : y.name = mn) (hlen : (lg_sl args).length ≤ nL) (he : lv_args 0 args = eff lv)
    (k : eV (cc, nL, ret, own, mn, fr, lo, [], none) 0 lv [] (h, n, 0, 0) r mc ms) : eM y (.code y cc nL ret) fr lo args h n r mc ms := by
  subst hown
  subst hmn
  intro l D cy B hf
  refine vx_ofW hy rfl ?_
  intro p e s m args' below meth c s₁ Bd hml htb hv
  obtain ⟨rfl, q2, q3, q4, q5, q6⟩ := hv
  have hts := atoms_spec (ws := Cond.code y cc nL ret :: eW) Bd.pre
  have hl := lv_entry args (n := nL) hlen
  rw [lg_entry_eq]
  rw [he] at hl
  exact k l D cy B p e s m args.toArray below meth c s.heap [] _ ⟨hf, Bd.exec, Bd.bytes, hml, Bd.returns, Bd.notSynchronized, List.eq_nil_iff_forall_not_mem.mpr htb, (name_of_methodNamed Bd.named Bd.method).1, findClass_of_methodNamed Bd.named, fun x hx => hts x (List.mem_cons_of_mem _ hx), q2, q3, q4, va_S.rf, q5, q6, fun q h9 => by cases h9⟩ hl
theorem eM.ofH {y : MethodName} {cc : ByteArray} {nL : Nat} {ret : Option FieldType} {fr lo : Nat} {hh : List (Nat × Nat × Nat × Nat)} {args : List Value} {h : eH} {n : Nat} {r : eRes} {mc ms : Nat} (own mn : String) (lv : List (Nat × Value)) (hy : plainName y.cls = true) (hown : y.cls = own) (hmn : y.name = mn) (hlen : (lg_sl args).length ≤ nL) (he : lv_args 0 args = eff lv)
    (k : eV (cc, nL, ret, own, mn, fr, lo, tableOf hh, none) 0 lv [] (h, n, 0, 0) r mc ms) : eM y (.codeWith y cc nL ret hh) fr lo args h n r mc ms := by
  subst hown
  subst hmn
  intro l D cy B hf
  refine vx_ofWH hy rfl ?_
  intro p e s m args' below meth c s₁ Bd hml hv
  obtain ⟨rfl, q2, q3, q4, q5, q6⟩ := hv
  have hts := atoms_spec (ws := Cond.codeWith y cc nL ret hh :: eW) Bd.pre
  have hl := lv_entry args (n := nL) hlen
  rw [lg_entry_eq]
  rw [he] at hl
  exact k l D cy B p e s m args.toArray below meth c s.heap [] _ ⟨hf, Bd.exec, Bd.bytes, hml, Bd.returns, Bd.notSynchronized, vx_table (x := y) Bd (hts _ List.mem_cons_self), (name_of_methodNamed Bd.named Bd.method).1, findClass_of_methodNamed Bd.named, fun x hx => hts x (List.mem_cons_of_mem _ hx), q2, q3, q4, va_S.rf, q5, q6, fun q h9 => by cases h9⟩ hl
/-- the heap's size doesn't matter to a method that makes nothing -/
theorem eM.heapEq {y : MethodName} {wd : Cond} {fr lo : Nat} {args : List Value} {h h' : eH} {n : Nat} {r : eRes} {mc ms : Nat} (e : h = h') (k : eM y wd fr lo args h' n r mc ms) : eM y wd fr lo args h n r mc ms := e ▸ k

