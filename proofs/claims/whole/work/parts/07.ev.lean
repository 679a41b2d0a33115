/-! THE ABSTRACT HEAP AND THE TWO JUDGEMENTS: eV (a method stands at pc; it comes to its end with r), eM (a method called with these arguments ends with r) -/
abbrev eA : Type := (Nat × vp_A) ⊕ (Nat × List Value)
abbrev eH : Type := Nat → Option eA
def eE (cy : Nat → ClassId) (x : eA) : va_E := match x with
  | .inl a => .inl (cy a.1, a.2)
  | .inr b => .inr b
def eR (D : va_G) (cy : Nat → ClassId) (B : Nat) (h : eH) (H : Heap) : Prop := ∀ (a : Nat) (x : eA), h a = some x → B ≤ a ∧ va_at D vwCl (a, eE cy x) H
/-- the heap with one cell changed -/
def eU (h : eH) (a : Nat) (x : eA) : eH := fun q => if q = a then some x else h q
theorem eU_s (h : eH) (a : Nat) (x : eA) : eU h a x a = some x := if_pos rfl
theorem eU_n (h : eH) {a b : Nat} (x : eA) (hab : b ≠ a) : eU h a x b = h b := if_neg hab
def eTy (cy : Nat → ClassId) : List (ClassId × FieldType) := [(cy 0, .int), (cy 1, .char), (cy 2, .boolean), (cy 3, .object RX5), (cy 4, .long)]
/-- the words that a method may ask of the tables -/
def eW : List Cond := lw_tbl.filter goodWord
def eWarm : Cond → Bool
  | .methodLinkNest _ _ _ _ => true
  | .castable _ _ => true
  | .declares _ => true
  | .privateMethod _ => true
  | _ => false
def eX : List Cond := lw_tbl.filter eWarm
def eStr : List (String × Nat × String) := [("NameBenches", 49, "no such character"), ("NameBenches", 60, "the text is full"), ("NameBenches", 71, "the text is not a registry"), ("NameBenches", 130, "what is 0 to 14"), ("NameBenches", 350, "no such person"), ("NameBenches", 163, "what is 0 to 8"), ("NameBenches", 353, "no such name"), ("NameBenches", 193, "what is 0 to 7"), ("NameBenches", 197, "a place is not negative"), ("NameBenches", 206, "a rank is not negative"), ("NameBenches", 358, "no such bench"), ("NameBenches", 363, "no such letters"), ("NameBenches", 224, "a way is 0 or 1"), ("NameBenches", 230, "no such family"), ("NameBenches", 235, "an age is 0 to 99"), ("NameBenches", 240, "there are 12 people"), ("NameBenches", 254, "somebody there has such a name"), ("NameBenches", 269, "1 to 9 years go by"), ("NameBenches", 271, "there is no year above 999"), ("NameBenches", 279, "no such setting or value"), ("NameBenches", 282, "no state is remembered"), ("NameBenches", 290, "1 or 2 letters"), ("NameBenches", 299, "1 to 3 commands"), ("NameBenches", 307, "at most 6 digits for a command"), ("NameBenches", 320, "1 to 60 turns"), ("NameBenches", 365, "no such save slot"), ("NameBenches", 345, "nothing is saved in this slot")]
def eNc : List (String × String) := [("java/lang/IllegalArgumentException", "java/lang/IndexOutOfBoundsException"), ("java/lang/IllegalStateException", "java/lang/IndexOutOfBoundsException"), ("java/lang/IllegalStateException", "java/lang/IllegalArgumentException")]
/-- what the tables say beside the words -/
def eC (D : va_G) (cy : Nat → ClassId) (U : State) : Prop :=
  va_K D vwCl (eTy cy) U ∧ (∀ w ∈ eX, va_Nw w U) ∧ (∀ q ∈ eStr, ∃ sa : Nat, vk_R q.1 q.2.1 q.2.2 sa U) ∧ (∀ q ∈ eNc, va_Nc q.1 q.2 U) ∧ va_AO RX5 U
def eZ (B : Nat) (U : State) (H : Heap) : Prop := vx_Zq Bundle.tN "UNASSIGNED_STACK" Bundle.steD (fun q => B ≤ q) U H ∧ vx_Zq Bundle.tN "SUPPRESSED_SENTINEL" Bundle.listD (fun q => B ≤ q) U H
theorem eX_warm {w : Cond} (h : eWarm w = true) {s U : State} (hW : s.WarmedH U.vm) (hZ : va_Nw w s) : va_Nw w U := by
  cases w <;> first
    | exact va_Nw.warmM hW hZ
    | exact va_Nw.warmC hW hZ
    | exact va_Nw.warmD hW hZ
    | exact va_tabs rfl (rfl : (s.setVm U.vm).vm = U.vm) (by rw [Cond.privateMethod_setVm hW.alike]; exact hZ)
    | (simp [eWarm] at h)
theorem eC.warm {D : va_G} {cy : Nat → ClassId} {s U : State} (hW : s.WarmedH U.vm) (h : eC D cy s) : eC D cy U :=
  ⟨va_K.moved hW.alike h.1, fun w hw => eX_warm (List.mem_filter.mp hw).2 hW (h.2.1 w hw), fun q hq => (h.2.2.1 q hq).imp fun _ h9 => vk_R.warm hW h9, fun q hq => va_Nc.moved hW.alike (h.2.2.2.1 q hq), va_AO.moved hW.alike h.2.2.2.2⟩
theorem eC.same {D : va_G} {cy : Nat → ClassId} {u U : State} (hv : u.vm = U.vm) (h : eC D cy u) : eC D cy U := by
  refine h.warm ?_
  rw [← hv]
  exact State.WarmedH.refl u
theorem eZ.warm {B : Nat} {s U : State} {H0 H : Heap} {locs : List Loc} (hvm : s.vm.Alike U.vm) (hS : va_S (fun q => B ≤ q) H0 H locs) (h : eZ B s H0) : eZ B U H :=
  ⟨vx_Zq.moved hvm (h.1.kept hS.2.1), vx_Zq.moved hvm (h.2.kept hS.2.1)⟩
abbrev eRes : Type := (Option Value ⊕ String) × eH × Option Nat
def eQc (D : va_G) (cy : Nat → ClassId) (B : Nat) (r : eRes) : Array Value → State → Outcome → State → Prop := fun _ st o t =>
  (∃ v, r.1 = .inl v ∧ o = .returned v) ∧ eR D cy B r.2.1 t.heap ∧ (∀ k, r.2.2 = some k → t.heap.size = k) ∧ va_F (fun q => B ≤ q) st t
def eXc (D : va_G) (cy : Nat → ClassId) (B : Nat) (r : eRes) : String → State → State → Prop := fun E st t =>
  r.1 = .inr E ∧ eR D cy B r.2.1 t.heap ∧ va_F (fun q => B ≤ q) st t
def ePc (D : va_G) (cy : Nat → ClassId) (B : Nat) (args : List Value) (h : eH) (n : Nat) : Array Value → State → Prop :=
  va_Pc args (fun U => eC D cy U ∧ eZ B U U.heap ∧ B ≤ U.heap.size ∧ U.heap.size = n ∧ eR D cy B h U.heap)
/-- a contract: the code word first (its name, bytes, locals ..) -/
def eM (y : MethodName) (wd : Cond) (fr lo : Nat) (args : List Value) (h : eH) (n : Nat) (r : eRes) (mc ms : Nat) : Prop :=
  ∀ (l : Launch) (D : va_G) (cy : Nat → ClassId) (B : Nat), l.flags = flags0 →
    vx_Met l y (wd :: eW) ({ frames := fr, cells := mc, slots := ms, locals := lo }) (ePc D cy B args h n) (eQc D cy B r) (eXc D cy B r) mc ms (fun q => B ≤ q)
/-- a method: bytes, locals, answer, class, name, frames, local words, table -/
abbrev eMI : Type := ByteArray × Nat × Option FieldType × String × String × Nat × Nat × List ExceptionTableEntry × Option (Nat × Nat × (Nat → Int32))
abbrev eMI.own (M : eMI) : String := M.2.2.2.1
abbrev eMI.fr (M : eMI) : Nat := M.2.2.2.2.2.1
abbrev eMI.lo (M : eMI) : Nat := M.2.2.2.2.2.2.1
abbrev eMI.tb (M : eMI) : List ExceptionTableEntry := M.2.2.2.2.2.2.2.1
abbrev eMI.sc (M : eMI) : Option (Nat × Nat × (Nat → Int32)) := M.2.2.2.2.2.2.2.2
/-- the listed locals that still stand: a store hides what it writes over -/
def eff : List (Nat × Value) → List (Nat × Value)
  | [] => []
  | (i, .long x) :: t => (i, .long x) :: (eff t).filter (fun q => !(q.1 == i) && (!(q.1 == i + 1) && !(q.1 + 1 == i && q.2.category == 2)))
  | (i, v) :: t => (i, v) :: (eff t).filter (fun q => !(q.1 == i) && !(q.1 + 1 == i && q.2.category == 2))
def lk (lv : List (Nat × Value)) (i : Nat) : Option Value := ((eff lv).find? (fun q => q.1 == i)).map (fun q => q.2)
theorem lk_at {arr : Array Slot} {nL : Nat} {lv : List (Nat × Value)} (h : lv_has arr nL (eff lv)) {i : Nat} {v : Value} (hk : lk lv i = some v) : arr[i]? = some (.val v) := by
  unfold lk at hk
  cases hf : (eff lv).find? (fun q => q.1 == i) with
  | none => rw [hf] at hk; cases hk
  | some q =>
    rw [hf] at hk
    have e1 : q.2 = v := Option.some.inj hk
    have e2 : q.1 = i := by
      have := List.find?_some hf
      simpa using this
    have := h.2.2 q (List.mem_of_find?_eq_some hf)
    rw [e1, e2] at this
    exact this
theorem lk_place {lv : List (Nat × Value)} {i : Nat} {v : Value} (hk : lk lv i = some v) : ∃ k, (eff lv)[k]? = some (i, v) := by
  unfold lk at hk
  cases hf : (eff lv).find? (fun q => q.1 == i) with
  | none => rw [hf] at hk; cases hk
  | some q =>
    rw [hf] at hk
    have e1 : q.2 = v := Option.some.inj hk
    have e2 : q.1 = i := by
      have := List.find?_some hf
      simpa using this
    obtain ⟨k, hk2⟩ := List.getElem?_of_mem (List.mem_of_find?_eq_some hf)
    exact ⟨k, by rw [hk2, ← e1, ← e2]⟩
/-- the context of a walk -/
def eK (M : eMI) (w : eH × Nat × Nat × Nat) (l : Launch) (D : va_G) (cy : Nat → ClassId) (B : Nat) (p : Program) (s : State) (m : MethodId) (args : Array Value) (meth : Method) (c : Code) (H : Heap) (locs : List Loc) : Prop :=
  l.flags = flags0 ∧ p.tables.exec = Jvm.exec ∧ c.code = M.1 ∧ c.maxLocals = M.2.1 ∧ meth.sig.returnType = M.2.2.1 ∧ meth.locks = false ∧ c.exceptionTable.toList = M.tb ∧ meth.name = M.2.2.2.2.1 ∧ s.vm.findClass M.own = some m.cls ∧
  (∀ x ∈ eW, x.before args s = true) ∧ eC D cy s ∧ eZ B s s.heap ∧ B ≤ s.heap.size ∧ va_S (fun q => B ≤ q) s.heap H locs ∧ H.size = w.2.1 ∧ eR D cy B w.1 H ∧ (∀ q, M.sc = some q → va_X q.1 q.2.1 q.2.2 s s.heap ∧ q.1 < s.heap.size ∧ q.1 < B)
def eV (M : eMI) (pc : Nat) (lv : List (Nat × Value)) (st : List Value) (w : eH × Nat × Nat × Nat) (r : eRes) (mc ms : Nat) : Prop :=
  ∀ (l : Launch) (D : va_G) (cy : Nat → ClassId) (B : Nat) (p : Program) (e : Env) (s : State) (m : MethodId) (args : Array Value) (below : List Frame) (meth : Method) (c : Code) (H : Heap) (locs : List Loc) (arr : Array Slot),
    eK M w l D cy B p s m args meth c H locs → lv_has arr M.2.1 (eff lv) →
    W p l e ({ frames := M.fr, cells := mc, slots := ms, locals := M.lo }) s m args below meth c H locs w.2.2.1 w.2.2.2 (vx_MQ below (eQc D cy B r) (eXc D cy B r) args s mc ms (fun q => B ≤ q)) (F0 m pc arr st)
section EvRules
variable {M : eMI} {pc : Nat} {lv : List (Nat × Value)} {st : List Value} {w : eH × Nat × Nat × Nat} {r : eRes} {mc ms : Nat}
theorem eV.sub {lv' : List (Nat × Value)} (h : ∀ q ∈ lv', lk lv q.1 = some q.2) (he : eff lv' = lv') (k : eV M pc lv' st w r mc ms) : eV M pc lv st w r mc ms := by
  intro l D cy B p e s m args below meth c H locs arr K hl
  refine k l D cy B p e s m args below meth c H locs arr K ⟨hl.1, hl.2.1, fun q hq => ?_⟩
  rw [he] at hq
  exact lk_at hl (h q hq)
/-- another view of the same heap -/
theorem eV.heap {h h' : eH} {n c0 s0 : Nat} (hh : ∀ (D : va_G) (cy : Nat → ClassId) (B : Nat) (H : Heap), eR D cy B h H → eR D cy B h' H) (k : eV M pc lv st (h', n, c0, s0) r mc ms) : eV M pc lv st (h, n, c0, s0) r mc ms := by
  intro l D cy B p e s m args below meth c H locs arr K hl
  obtain ⟨k1, k2, k3, k4, k5, k6, k7, k8, k9, k10, k11, k12, k13, k14, k15, k16, k17⟩ := K
  exact k l D cy B p e s m args below meth c H locs arr ⟨k1, k2, k3, k4, k5, k6, k7, k8, k9, k10, k11, k12, k13, k14, k15, hh D cy B H k16, k17⟩ hl

theorem ev_iconst {n : Int} {v : Int32} (d : decode M.1 pc = .ok (.iconst n, 1)) (hv : Int32.ofInt n = v) (k : eV M (pc + 1) lv (.int v :: st) w r mc ms) : eV M pc lv (st) w r mc ms := fun l D cy B p e s m args below meth c H locs arr K hl => lv_iconst K.2.1 K.2.2.1 d hv (k l D cy B p e s m args below meth c H locs arr K hl)
theorem ev_bipush {n : Int} {v : Int32} (d : decode M.1 pc = .ok (.bipush n, 2)) (hv : (Int8.ofInt n).toInt32 = v) (k : eV M (pc + 2) lv (.int v :: st) w r mc ms) : eV M pc lv (st) w r mc ms := fun l D cy B p e s m args below meth c H locs arr K hl => lv_bipush K.2.1 K.2.2.1 d hv (k l D cy B p e s m args below meth c H locs arr K hl)
theorem ev_sipush {n : Int} {v : Int32} (d : decode M.1 pc = .ok (.sipush n, 3)) (hv : (Int16.ofInt n).toInt32 = v) (k : eV M (pc + 3) lv (.int v :: st) w r mc ms) : eV M pc lv (st) w r mc ms := fun l D cy B p e s m args below meth c H locs arr K hl => lv_sipush K.2.1 K.2.2.1 d hv (k l D cy B p e s m args below meth c H locs arr K hl)
theorem ev_lconst {n : Fin 2} {v : Int64} (d : decode M.1 pc = .ok (.lconst n, 1)) (hv : Int64.ofNat (n : Nat) = v) (k : eV M (pc + 1) lv (.long v :: st) w r mc ms) : eV M pc lv (st) w r mc ms := fun l D cy B p e s m args below meth c H locs arr K hl => lv_lconst K.2.1 K.2.2.1 d hv (k l D cy B p e s m args below meth c H locs arr K hl)
theorem ev_iload_n {j : Fin 4} {i : Nat} {x : Int32} (d : decode M.1 pc = .ok (.iload_n j, 1)) (hi : (j : Nat) = i) (hk : lk lv i = some (.int x)) (k : eV M (pc + 1) lv (.int x :: st) w r mc ms) : eV M pc lv (st) w r mc ms := fun l D cy B p e s m args below meth c H locs arr K hl => lv_iload_n K.2.1 K.2.2.1 d hi (lk_at hl hk) (k l D cy B p e s m args below meth c H locs arr K hl)
theorem ev_iload {i : Nat} {x : Int32} (d : decode M.1 pc = .ok (.iload i, 2)) (hk : lk lv i = some (.int x)) (k : eV M (pc + 2) lv (.int x :: st) w r mc ms) : eV M pc lv (st) w r mc ms := fun l D cy B p e s m args below meth c H locs arr K hl => lv_iload K.2.1 K.2.2.1 d (lk_at hl hk) (k l D cy B p e s m args below meth c H locs arr K hl)
theorem ev_istore_n {j : Fin 4} {i : Nat} {x : Int32} (d : decode M.1 pc = .ok (.istore_n j, 1)) (hi : (j : Nat) = i) (hn : i < M.2.1) (k : eV M (pc + 1) ((i, .int x) :: lv) st w r mc ms) : eV M pc lv (.int x :: st) w r mc ms := fun l D cy B p e s m args below meth c H locs arr K hl => lv_istore_n (lv' := eff ((i, .int x) :: lv)) K.2.1 K.2.2.1 d hi hl hn rfl (fun arr' hl' => k l D cy B p e s m args below meth c H locs arr' K hl')
theorem ev_istore {i : Nat} {x : Int32} (d : decode M.1 pc = .ok (.istore i, 2)) (hn : i < M.2.1) (k : eV M (pc + 2) ((i, .int x) :: lv) st w r mc ms) : eV M pc lv (.int x :: st) w r mc ms := fun l D cy B p e s m args below meth c H locs arr K hl => lv_istore (lv' := eff ((i, .int x) :: lv)) K.2.1 K.2.2.1 d hl hn rfl (fun arr' hl' => k l D cy B p e s m args below meth c H locs arr' K hl')
theorem ev_lload_n {j : Fin 4} {i : Nat} {x : Int64} (d : decode M.1 pc = .ok (.lload_n j, 1)) (hi : (j : Nat) = i) (hk : lk lv i = some (.long x)) (k : eV M (pc + 1) lv (.long x :: st) w r mc ms) : eV M pc lv (st) w r mc ms := fun l D cy B p e s m args below meth c H locs arr K hl => lv_lload_n K.2.1 K.2.2.1 d hi (lk_at hl hk) (k l D cy B p e s m args below meth c H locs arr K hl)
theorem ev_lload {i : Nat} {x : Int64} (d : decode M.1 pc = .ok (.lload i, 2)) (hk : lk lv i = some (.long x)) (k : eV M (pc + 2) lv (.long x :: st) w r mc ms) : eV M pc lv (st) w r mc ms := fun l D cy B p e s m args below meth c H locs arr K hl => lv_lload K.2.1 K.2.2.1 d (lk_at hl hk) (k l D cy B p e s m args below meth c H locs arr K hl)
theorem ev_lstore_n {j : Fin 4} {i : Nat} {x : Int64} (d : decode M.1 pc = .ok (.lstore_n j, 1)) (hi : (j : Nat) = i) (hn : i + 1 < M.2.1) (k : eV M (pc + 1) ((i, .long x) :: lv) st w r mc ms) : eV M pc lv (.long x :: st) w r mc ms := fun l D cy B p e s m args below meth c H locs arr K hl => lv_lstore_n (lv' := eff ((i, .long x) :: lv)) K.2.1 K.2.2.1 d hi hl hn rfl (fun arr' hl' => k l D cy B p e s m args below meth c H locs arr' K hl')
theorem ev_lstore {i : Nat} {x : Int64} (d : decode M.1 pc = .ok (.lstore i, 2)) (hn : i + 1 < M.2.1) (k : eV M (pc + 2) ((i, .long x) :: lv) st w r mc ms) : eV M pc lv (.long x :: st) w r mc ms := fun l D cy B p e s m args below meth c H locs arr K hl => lv_lstore (lv' := eff ((i, .long x) :: lv)) K.2.1 K.2.2.1 d hl hn rfl (fun arr' hl' => k l D cy B p e s m args below meth c H locs arr' K hl')
theorem ev_aload_n {j : Fin 4} {i : Nat} {x : Nat} (d : decode M.1 pc = .ok (.aload_n j, 1)) (hi : (j : Nat) = i) (hk : lk lv i = some (.ref x)) (k : eV M (pc + 1) lv (.ref x :: st) w r mc ms) : eV M pc lv (st) w r mc ms := fun l D cy B p e s m args below meth c H locs arr K hl => lv_aload_n K.2.1 K.2.2.1 d hi (lk_at hl hk) (k l D cy B p e s m args below meth c H locs arr K hl)
theorem ev_aload {i : Nat} {x : Nat} (d : decode M.1 pc = .ok (.aload i, 2)) (hk : lk lv i = some (.ref x)) (k : eV M (pc + 2) lv (.ref x :: st) w r mc ms) : eV M pc lv (st) w r mc ms := fun l D cy B p e s m args below meth c H locs arr K hl => lv_aload K.2.1 K.2.2.1 d (lk_at hl hk) (k l D cy B p e s m args below meth c H locs arr K hl)
theorem ev_astore_n {j : Fin 4} {i : Nat} {x : Nat} (d : decode M.1 pc = .ok (.astore_n j, 1)) (hi : (j : Nat) = i) (hn : i < M.2.1) (k : eV M (pc + 1) ((i, .ref x) :: lv) st w r mc ms) : eV M pc lv (.ref x :: st) w r mc ms := fun l D cy B p e s m args below meth c H locs arr K hl => lv_astore_n (lv' := eff ((i, .ref x) :: lv)) K.2.1 K.2.2.1 d hi hl hn rfl (fun arr' hl' => k l D cy B p e s m args below meth c H locs arr' K hl')
theorem ev_astore {i : Nat} {x : Nat} (d : decode M.1 pc = .ok (.astore i, 2)) (hn : i < M.2.1) (k : eV M (pc + 2) ((i, .ref x) :: lv) st w r mc ms) : eV M pc lv (.ref x :: st) w r mc ms := fun l D cy B p e s m args below meth c H locs arr K hl => lv_astore (lv' := eff ((i, .ref x) :: lv)) K.2.1 K.2.2.1 d hl hn rfl (fun arr' hl' => k l D cy B p e s m args below meth c H locs arr' K hl')
theorem ev_iinc {i : Nat} {n : Int} {x v : Int32} (d : decode M.1 pc = .ok (.iinc i n, 3)) (hk : lk lv i = some (.int x)) (hv : x + Int32.ofInt n = v) (hn : i < M.2.1) (k : eV M (pc + 3) ((i, .int v) :: lv) st w r mc ms) : eV M pc lv st w r mc ms := fun l D cy B p e s m args below meth c H locs arr K hl => by
  obtain ⟨kk, hkk⟩ := lk_place hk
  exact lv_iinc (lv' := eff ((i, .int v) :: lv)) K.2.1 K.2.2.1 d hl hkk hv hn rfl (fun arr' hl' => k l D cy B p e s m args below meth c H locs arr' K hl')
theorem ev_iadd {x y : Int32} (d : decode M.1 pc = .ok (.iadd, 1)) (k : eV M (pc + 1) lv (.int (x + y) :: st) w r mc ms) : eV M pc lv (.int y :: .int x :: st) w r mc ms := fun l D cy B p e s m args below meth c H locs arr K hl => lv_iadd K.2.1 K.2.2.1 d (k l D cy B p e s m args below meth c H locs arr K hl)
theorem ev_isub {x y : Int32} (d : decode M.1 pc = .ok (.isub, 1)) (k : eV M (pc + 1) lv (.int (x - y) :: st) w r mc ms) : eV M pc lv (.int y :: .int x :: st) w r mc ms := fun l D cy B p e s m args below meth c H locs arr K hl => lv_isub K.2.1 K.2.2.1 d (k l D cy B p e s m args below meth c H locs arr K hl)
theorem ev_imul {x y : Int32} (d : decode M.1 pc = .ok (.imul, 1)) (k : eV M (pc + 1) lv (.int (x * y) :: st) w r mc ms) : eV M pc lv (.int y :: .int x :: st) w r mc ms := fun l D cy B p e s m args below meth c H locs arr K hl => lv_imul K.2.1 K.2.2.1 d (k l D cy B p e s m args below meth c H locs arr K hl)
theorem ev_iand {x y : Int32} (d : decode M.1 pc = .ok (.iand, 1)) (k : eV M (pc + 1) lv (.int (x &&& y) :: st) w r mc ms) : eV M pc lv (.int y :: .int x :: st) w r mc ms := fun l D cy B p e s m args below meth c H locs arr K hl => lv_iand K.2.1 K.2.2.1 d (k l D cy B p e s m args below meth c H locs arr K hl)
theorem ev_idiv {x y : Int32} (d : decode M.1 pc = .ok (.idiv, 1)) (hne : ¬ y = 0) (k : eV M (pc + 1) lv (.int (x / y) :: st) w r mc ms) : eV M pc lv (.int y :: .int x :: st) w r mc ms := fun l D cy B p e s m args below meth c H locs arr K hl => lv_idiv K.2.1 K.2.2.1 d hne (k l D cy B p e s m args below meth c H locs arr K hl)
theorem ev_irem {x y : Int32} (d : decode M.1 pc = .ok (.irem, 1)) (hne : ¬ y = 0) (k : eV M (pc + 1) lv (.int (x - x / y * y) :: st) w r mc ms) : eV M pc lv (.int y :: .int x :: st) w r mc ms := fun l D cy B p e s m args below meth c H locs arr K hl => lv_irem K.2.1 K.2.2.1 d hne (k l D cy B p e s m args below meth c H locs arr K hl)
theorem ev_ladd {x y : Int64} (d : decode M.1 pc = .ok (.ladd, 1)) (k : eV M (pc + 1) lv (.long (x + y) :: st) w r mc ms) : eV M pc lv (.long y :: .long x :: st) w r mc ms := fun l D cy B p e s m args below meth c H locs arr K hl => lv_ladd K.2.1 K.2.2.1 d (k l D cy B p e s m args below meth c H locs arr K hl)
theorem ev_lsub {x y : Int64} (d : decode M.1 pc = .ok (.lsub, 1)) (k : eV M (pc + 1) lv (.long (x - y) :: st) w r mc ms) : eV M pc lv (.long y :: .long x :: st) w r mc ms := fun l D cy B p e s m args below meth c H locs arr K hl => lv_lsub K.2.1 K.2.2.1 d (k l D cy B p e s m args below meth c H locs arr K hl)
theorem ev_lmul {x y : Int64} (d : decode M.1 pc = .ok (.lmul, 1)) (k : eV M (pc + 1) lv (.long (x * y) :: st) w r mc ms) : eV M pc lv (.long y :: .long x :: st) w r mc ms := fun l D cy B p e s m args below meth c H locs arr K hl => lv_lmul K.2.1 K.2.2.1 d (k l D cy B p e s m args below meth c H locs arr K hl)
theorem ev_land {x y : Int64} (d : decode M.1 pc = .ok (.land, 1)) (k : eV M (pc + 1) lv (.long (x &&& y) :: st) w r mc ms) : eV M pc lv (.long y :: .long x :: st) w r mc ms := fun l D cy B p e s m args below meth c H locs arr K hl => lv_land K.2.1 K.2.2.1 d (k l D cy B p e s m args below meth c H locs arr K hl)
theorem ev_lor {x y : Int64} (d : decode M.1 pc = .ok (.lor, 1)) (k : eV M (pc + 1) lv (.long (x ||| y) :: st) w r mc ms) : eV M pc lv (.long y :: .long x :: st) w r mc ms := fun l D cy B p e s m args below meth c H locs arr K hl => lv_lor K.2.1 K.2.2.1 d (k l D cy B p e s m args below meth c H locs arr K hl)
theorem ev_ldiv {x y : Int64} (d : decode M.1 pc = .ok (.ldiv, 1)) (hne : ¬ y = 0) (k : eV M (pc + 1) lv (.long (x / y) :: st) w r mc ms) : eV M pc lv (.long y :: .long x :: st) w r mc ms := fun l D cy B p e s m args below meth c H locs arr K hl => lv_ldiv K.2.1 K.2.2.1 d hne (k l D cy B p e s m args below meth c H locs arr K hl)
theorem ev_lrem {x y : Int64} (d : decode M.1 pc = .ok (.lrem, 1)) (hne : ¬ y = 0) (k : eV M (pc + 1) lv (.long (x - x / y * y) :: st) w r mc ms) : eV M pc lv (.long y :: .long x :: st) w r mc ms := fun l D cy B p e s m args below meth c H locs arr K hl => lv_lrem K.2.1 K.2.2.1 d hne (k l D cy B p e s m args below meth c H locs arr K hl)
theorem ev_i2l {x : Int32} {v : Int64} (d : decode M.1 pc = .ok (.i2l, 1)) (hv : x.toInt64 = v) (k : eV M (pc + 1) lv (.long v :: st) w r mc ms) : eV M pc lv (.int x :: st) w r mc ms := fun l D cy B p e s m args below meth c H locs arr K hl => lv_i2l K.2.1 K.2.2.1 d hv (k l D cy B p e s m args below meth c H locs arr K hl)
theorem ev_l2i {x : Int64} {v : Int32} (d : decode M.1 pc = .ok (.l2i, 1)) (hv : x.toInt32 = v) (k : eV M (pc + 1) lv (.int v :: st) w r mc ms) : eV M pc lv (.long x :: st) w r mc ms := fun l D cy B p e s m args below meth c H locs arr K hl => lv_l2i K.2.1 K.2.2.1 d hv (k l D cy B p e s m args below meth c H locs arr K hl)
theorem ev_i2c {x v : Int32} (d : decode M.1 pc = .ok (.i2c, 1)) (hv : (x.toUInt32 % 65536).toInt32 = v) (k : eV M (pc + 1) lv (.int v :: st) w r mc ms) : eV M pc lv (.int x :: st) w r mc ms := fun l D cy B p e s m args below meth c H locs arr K hl => lv_i2c K.2.1 K.2.2.1 d hv (k l D cy B p e s m args below meth c H locs arr K hl)
theorem ev_lushr {x v : Int64} {y : Int32} (d : decode M.1 pc = .ok (.lushr, 1)) (hv : (x.toUInt64 >>> (y.toInt64.toUInt64 &&& Int64.toUInt64 63)).toInt64 = v) (k : eV M (pc + 1) lv (.long v :: st) w r mc ms) : eV M pc lv (.int y :: .long x :: st) w r mc ms := fun l D cy B p e s m args below meth c H locs arr K hl => lv_lushr K.2.1 K.2.2.1 d hv (k l D cy B p e s m args below meth c H locs arr K hl)
theorem ev_lshl {x v : Int64} {y : Int32} (d : decode M.1 pc = .ok (.lshl, 1)) (hv : x <<< (y.toInt64 &&& 63) = v) (k : eV M (pc + 1) lv (.long v :: st) w r mc ms) : eV M pc lv (.int y :: .long x :: st) w r mc ms := fun l D cy B p e s m args below meth c H locs arr K hl => lv_lshl K.2.1 K.2.2.1 d hv (k l D cy B p e s m args below meth c H locs arr K hl)
theorem ev_dup {va : Value} (d : decode M.1 pc = .ok (.dup, 1)) (hva : va.category = 1) (k : eV M (pc + 1) lv (va :: va :: st) w r mc ms) : eV M pc lv (va :: st) w r mc ms := fun l D cy B p e s m args below meth c H locs arr K hl => lv_dup K.2.1 K.2.2.1 d hva (k l D cy B p e s m args below meth c H locs arr K hl)
theorem ev_pop {va : Value} (d : decode M.1 pc = .ok (.pop, 1)) (hva : va.category = 1) (k : eV M (pc + 1) lv (st) w r mc ms) : eV M pc lv (va :: st) w r mc ms := fun l D cy B p e s m args below meth c H locs arr K hl => lv_pop K.2.1 K.2.2.1 d hva (k l D cy B p e s m args below meth c H locs arr K hl)
theorem ev_dup2 {va vb : Value} (d : decode M.1 pc = .ok (.dup2, 1)) (hva : va.category = 1) (hvb : vb.category = 1) (k : eV M (pc + 1) lv (va :: vb :: va :: vb :: st) w r mc ms) : eV M pc lv (va :: vb :: st) w r mc ms := fun l D cy B p e s m args below meth c H locs arr K hl => lv_dup2_11 K.2.1 K.2.2.1 d hva hvb (k l D cy B p e s m args below meth c H locs arr K hl)
theorem ev_lcmp {x y : Int64} (d : decode M.1 pc = .ok (.lcmp, 1)) (k : eV M (pc + 1) lv (.int (lg_cmp x y) :: st) w r mc ms) : eV M pc lv (.long y :: .long x :: st) w r mc ms := fun l D cy B p e s m args below meth c H locs arr K hl => W.lcmp K.2.1 K.2.2.1 d (k l D cy B p e s m args below meth c H locs arr K hl)
theorem ev_goto {off : Int} {tgt : Nat} (d : decode M.1 pc = .ok (.goto off, 3)) (ht : (pc : Int) + off = (tgt : Int)) (k : eV M tgt lv st w r mc ms) : eV M pc lv st w r mc ms := fun l D cy B p e s m args below meth c H locs arr K hl => lv_goto K.2.1 K.2.2.1 d ht (k l D cy B p e s m args below meth c H locs arr K hl)
theorem ev_if_eq {x : Int32} {off : Int} {tgt : Nat} (d : decode M.1 pc = .ok (.ifCond .eq off, 3)) (ht : (pc : Int) + off = (tgt : Int)) (kt : x = 0 → eV M tgt lv st w r mc ms) (kf : ¬ x = 0 → eV M (pc + 3) lv st w r mc ms) : eV M pc lv (.int x :: st) w r mc ms := fun l D cy B p e s m args below meth c H locs arr K hl => lv_if_eq K.2.1 K.2.2.1 d ht (fun q => kt q l D cy B p e s m args below meth c H locs arr K hl) (fun q => kf q l D cy B p e s m args below meth c H locs arr K hl)
theorem ev_if_ne {x : Int32} {off : Int} {tgt : Nat} (d : decode M.1 pc = .ok (.ifCond .ne off, 3)) (ht : (pc : Int) + off = (tgt : Int)) (kt : ¬ x = 0 → eV M tgt lv st w r mc ms) (kf : x = 0 → eV M (pc + 3) lv st w r mc ms) : eV M pc lv (.int x :: st) w r mc ms := fun l D cy B p e s m args below meth c H locs arr K hl => lv_if_ne K.2.1 K.2.2.1 d ht (fun q => kt q l D cy B p e s m args below meth c H locs arr K hl) (fun q => kf q l D cy B p e s m args below meth c H locs arr K hl)
theorem ev_if_lt {x : Int32} {off : Int} {tgt : Nat} (d : decode M.1 pc = .ok (.ifCond .lt off, 3)) (ht : (pc : Int) + off = (tgt : Int)) (kt : x < 0 → eV M tgt lv st w r mc ms) (kf : ¬ x < 0 → eV M (pc + 3) lv st w r mc ms) : eV M pc lv (.int x :: st) w r mc ms := fun l D cy B p e s m args below meth c H locs arr K hl => lv_if_lt K.2.1 K.2.2.1 d ht (fun q => kt q l D cy B p e s m args below meth c H locs arr K hl) (fun q => kf q l D cy B p e s m args below meth c H locs arr K hl)
theorem ev_if_ge {x : Int32} {off : Int} {tgt : Nat} (d : decode M.1 pc = .ok (.ifCond .ge off, 3)) (ht : (pc : Int) + off = (tgt : Int)) (kt : 0 ≤ x → eV M tgt lv st w r mc ms) (kf : ¬ 0 ≤ x → eV M (pc + 3) lv st w r mc ms) : eV M pc lv (.int x :: st) w r mc ms := fun l D cy B p e s m args below meth c H locs arr K hl => lv_if_ge K.2.1 K.2.2.1 d ht (fun q => kt q l D cy B p e s m args below meth c H locs arr K hl) (fun q => kf q l D cy B p e s m args below meth c H locs arr K hl)
theorem ev_if_gt {x : Int32} {off : Int} {tgt : Nat} (d : decode M.1 pc = .ok (.ifCond .gt off, 3)) (ht : (pc : Int) + off = (tgt : Int)) (kt : 0 < x → eV M tgt lv st w r mc ms) (kf : ¬ 0 < x → eV M (pc + 3) lv st w r mc ms) : eV M pc lv (.int x :: st) w r mc ms := fun l D cy B p e s m args below meth c H locs arr K hl => lv_if_gt K.2.1 K.2.2.1 d ht (fun q => kt q l D cy B p e s m args below meth c H locs arr K hl) (fun q => kf q l D cy B p e s m args below meth c H locs arr K hl)
theorem ev_if_le {x : Int32} {off : Int} {tgt : Nat} (d : decode M.1 pc = .ok (.ifCond .le off, 3)) (ht : (pc : Int) + off = (tgt : Int)) (kt : x ≤ 0 → eV M tgt lv st w r mc ms) (kf : ¬ x ≤ 0 → eV M (pc + 3) lv st w r mc ms) : eV M pc lv (.int x :: st) w r mc ms := fun l D cy B p e s m args below meth c H locs arr K hl => lv_if_le K.2.1 K.2.2.1 d ht (fun q => kt q l D cy B p e s m args below meth c H locs arr K hl) (fun q => kf q l D cy B p e s m args below meth c H locs arr K hl)
theorem ev_icmp_eq {x y : Int32} {off : Int} {tgt : Nat} (d : decode M.1 pc = .ok (.if_icmp .eq off, 3)) (ht : (pc : Int) + off = (tgt : Int)) (kt : x = y → eV M tgt lv st w r mc ms) (kf : ¬ x = y → eV M (pc + 3) lv st w r mc ms) : eV M pc lv (.int y :: .int x :: st) w r mc ms := fun l D cy B p e s m args below meth c H locs arr K hl => lv_icmp_eq K.2.1 K.2.2.1 d ht (fun q => kt q l D cy B p e s m args below meth c H locs arr K hl) (fun q => kf q l D cy B p e s m args below meth c H locs arr K hl)
theorem ev_icmp_ne {x y : Int32} {off : Int} {tgt : Nat} (d : decode M.1 pc = .ok (.if_icmp .ne off, 3)) (ht : (pc : Int) + off = (tgt : Int)) (kt : ¬ x = y → eV M tgt lv st w r mc ms) (kf : x = y → eV M (pc + 3) lv st w r mc ms) : eV M pc lv (.int y :: .int x :: st) w r mc ms := fun l D cy B p e s m args below meth c H locs arr K hl => lv_icmp_ne K.2.1 K.2.2.1 d ht (fun q => kt q l D cy B p e s m args below meth c H locs arr K hl) (fun q => kf q l D cy B p e s m args below meth c H locs arr K hl)
theorem ev_icmp_lt {x y : Int32} {off : Int} {tgt : Nat} (d : decode M.1 pc = .ok (.if_icmp .lt off, 3)) (ht : (pc : Int) + off = (tgt : Int)) (kt : x < y → eV M tgt lv st w r mc ms) (kf : ¬ x < y → eV M (pc + 3) lv st w r mc ms) : eV M pc lv (.int y :: .int x :: st) w r mc ms := fun l D cy B p e s m args below meth c H locs arr K hl => lv_icmp_lt K.2.1 K.2.2.1 d ht (fun q => kt q l D cy B p e s m args below meth c H locs arr K hl) (fun q => kf q l D cy B p e s m args below meth c H locs arr K hl)
theorem ev_icmp_ge {x y : Int32} {off : Int} {tgt : Nat} (d : decode M.1 pc = .ok (.if_icmp .ge off, 3)) (ht : (pc : Int) + off = (tgt : Int)) (kt : y ≤ x → eV M tgt lv st w r mc ms) (kf : ¬ y ≤ x → eV M (pc + 3) lv st w r mc ms) : eV M pc lv (.int y :: .int x :: st) w r mc ms := fun l D cy B p e s m args below meth c H locs arr K hl => lv_icmp_ge K.2.1 K.2.2.1 d ht (fun q => kt q l D cy B p e s m args below meth c H locs arr K hl) (fun q => kf q l D cy B p e s m args below meth c H locs arr K hl)
theorem ev_icmp_gt {x y : Int32} {off : Int} {tgt : Nat} (d : decode M.1 pc = .ok (.if_icmp .gt off, 3)) (ht : (pc : Int) + off = (tgt : Int)) (kt : y < x → eV M tgt lv st w r mc ms) (kf : ¬ y < x → eV M (pc + 3) lv st w r mc ms) : eV M pc lv (.int y :: .int x :: st) w r mc ms := fun l D cy B p e s m args below meth c H locs arr K hl => lv_icmp_gt K.2.1 K.2.2.1 d ht (fun q => kt q l D cy B p e s m args below meth c H locs arr K hl) (fun q => kf q l D cy B p e s m args below meth c H locs arr K hl)
theorem ev_icmp_le {x y : Int32} {off : Int} {tgt : Nat} (d : decode M.1 pc = .ok (.if_icmp .le off, 3)) (ht : (pc : Int) + off = (tgt : Int)) (kt : x ≤ y → eV M tgt lv st w r mc ms) (kf : ¬ x ≤ y → eV M (pc + 3) lv st w r mc ms) : eV M pc lv (.int y :: .int x :: st) w r mc ms := fun l D cy B p e s m args below meth c H locs arr K hl => lv_icmp_le K.2.1 K.2.2.1 d ht (fun q => kt q l D cy B p e s m args below meth c H locs arr K hl) (fun q => kf q l D cy B p e s m args below meth c H locs arr K hl)
theorem ev_lookup {dflt : Int} {ps : Array (Int × Int)} {len : Nat} {x : Int32} {off : Int} {tgt : Nat} (d : decode M.1 pc = .ok (.lookupswitch dflt ps, len)) (hp : (ps.toList.zip (ps.toList.drop 1)).all (fun (a, next) => a.1 < next.1) = true) (ho : Op.lookupswitch.offset ps.toList dflt x.toInt = off) (ht : (pc : Int) + off = (tgt : Int)) (k : eV M tgt lv st w r mc ms) : eV M pc lv (.int x :: st) w r mc ms := fun l D cy B p e s m args below meth c H locs arr K hl => lv_lookup K.2.1 K.2.2.1 d hp ho ht (k l D cy B p e s m args below meth c H locs arr K hl)
theorem ev_tableIn {dflt lo hi : Int} {offs : Array Int} {len : Nat} {x : Int32} {off : Int} {tgt : Nat} (d : decode M.1 pc = .ok (.tableswitch dflt lo hi offs, len)) (h1 : ¬ x.toInt < lo) (h2 : ¬ hi < x.toInt) (ho : offs[(x.toInt - lo).toNat]? = some off) (ht : (pc : Int) + off = (tgt : Int)) (k : eV M tgt lv st w r mc ms) : eV M pc lv (.int x :: st) w r mc ms := fun l D cy B p e s m args below meth c H locs arr K hl => lv_tableIn K.2.1 K.2.2.1 d h1 h2 ho ht (k l D cy B p e s m args below meth c H locs arr K hl)
theorem ev_tableOut {dflt lo hi : Int} {offs : Array Int} {len : Nat} {x : Int32} {tgt : Nat} (d : decode M.1 pc = .ok (.tableswitch dflt lo hi offs, len)) (h : x.toInt < lo ∨ hi < x.toInt) (ht : (pc : Int) + dflt = (tgt : Int)) (k : eV M tgt lv st w r mc ms) : eV M pc lv (.int x :: st) w r mc ms := fun l D cy B p e s m args below meth c H locs arr K hl => lv_tableOut K.2.1 K.2.2.1 d h ht (k l D cy B p e s m args below meth c H locs arr K hl)
theorem ev_ldc {index : Nat} {v : Int32} (d : decode M.1 pc = .ok (.ldc index, 2)) (hw : Cond.constant M.own index v ∈ eW) (k : eV M (pc + 2) lv (.int v :: st) w r mc ms) : eV M pc lv st w r mc ms := by
  intro l D cy B p e s m args below meth c H locs arr K hl
  obtain ⟨k1, k2, k3, k4, k5, k6, k7, k8, k9, k10, k11, k12, k13, k14, k15, k16, k17⟩ := id K
  exact lv_ldc k2 k3 k9 (k10 _ hw) d (k l D cy B p e s m args below meth c H locs arr K hl)
theorem ev_ldcw {index : Nat} {v : Int32} (d : decode M.1 pc = .ok (.ldc_w index, 3)) (hw : Cond.constant M.own index v ∈ eW) (k : eV M (pc + 3) lv (.int v :: st) w r mc ms) : eV M pc lv st w r mc ms := by
  intro l D cy B p e s m args below meth c H locs arr K hl
  obtain ⟨k1, k2, k3, k4, k5, k6, k7, k8, k9, k10, k11, k12, k13, k14, k15, k16, k17⟩ := id K
  exact lv_ldcw k2 k3 k9 (k10 _ hw) d (k l D cy B p e s m args below meth c H locs arr K hl)
theorem ev_ldc2 {index : Nat} {v : Int64} (d : decode M.1 pc = .ok (.ldc2_w index, 3)) (hw : Cond.constantLong M.own index v ∈ eW) (k : eV M (pc + 3) lv (.long v :: st) w r mc ms) : eV M pc lv st w r mc ms := by
  intro l D cy B p e s m args below meth c H locs arr K hl
  obtain ⟨k1, k2, k3, k4, k5, k6, k7, k8, k9, k10, k11, k12, k13, k14, k15, k16, k17⟩ := id K
  exact lv_ldc2 k2 k3 k9 (k10 _ hw) d (k l D cy B p e s m args below meth c H locs arr K hl)
theorem eW_good {w : Cond} (h : w ∈ eW) : (w.onTables && w.keeps) = true ∨ ∃ ty, w = .arrayClass ty := good_of_word (List.mem_filter.mp h).2
theorem eW_in {ws : List Cond} (h : ∀ w ∈ ws, w ∈ eW) : GoodIn eW ws := fun w hw => ⟨h w hw, eW_good (h w hw)⟩
/-- a field's link: class place ci, field place k -/
def eFL (own : String) (index ci k : Nat) : Prop := ∃ q : vw_C, vwCl[ci]? = some q ∧ k < q.2.2 ∧ Cond.fieldLink own index (q.2.1 k).1 (q.2.1 k).2.1 (q.2.1 k).2.2.1 ∈ eW ∧ ∀ w ∈ u_ws q.1 q.2.1 q.2.2, w ∈ eW
/-- .. that may be written, of the type ty; fin: final -/
def ePL (own : String) (index ci k : Nat) (ty : FieldType) (fin : Bool) : Prop := ∃ (q : vw_C) (tf : Nat → FieldType), vwCl[ci]? = some q ∧ k < q.2.2 ∧ Cond.fieldLink own index (q.2.1 k).1 (q.2.1 k).2.1 (q.2.1 k).2.2.1 ∈ eW ∧ (∀ w ∈ u_ws q.1 q.2.1 q.2.2, w ∈ eW) ∧
  (∀ k, k < q.2.2 → parseFieldDescriptor (q.2.1 k).2.2.1 = some (tf k)) ∧ (∀ a, a < q.2.2 → ∀ b, b < q.2.2 → a ≠ b → (q.2.1 a).2.1 ≠ (q.2.1 b).2.1) ∧ (q.2.1 k).2.2.2 = fin ∧ parseFieldDescriptor (q.2.1 k).2.2.1 = some ty ∧ (fin = true → (q.2.1 k).1 = own)
theorem eR.one {D : va_G} {cy : Nat → ClassId} {B : Nat} {h : eH} {H : Heap} (hR : eR D cy B h H) {a : Nat} {x : eA} (hx : h a = some x) : va_P D vwCl [(a, eE cy x)] H := by
  intro k q hk
  match k, hk with
  | 0, hk => cases hk; exact (hR a x hx).2
theorem eR.put {D : va_G} {cy : Nat → ClassId} {B : Nat} {h : eH} {H H1 : Heap} (hR : eR D cy B h H) {a : Nat} {x : eA} (hB : B ≤ a) (h1 : va_at D vwCl (a, eE cy x) H1) (h2 : ∀ (q : Nat) (y : eA), h q = some y → q ≠ a → H1[q]? = H[q]?) : eR D cy B (eU h a x) H1 := by
  intro b y hy
  by_cases hb : b = a
  · subst hb
    rw [eU_s] at hy
    cases hy
    exact ⟨hB, h1⟩
  · rw [eU_n _ _ hb] at hy
    exact ⟨(hR b y hy).1, (hR b y hy).2.kept (h2 b y hy hb)⟩
theorem eS.put {A : Nat → Prop} {H0 H H1 : Heap} {locs : List Loc} {a : Nat} {L : List Loc} (h : va_S A H0 H locs) (z : H1.size = H.size) (oq : ∀ q : Nat, q ≠ a → H1[q]? = H[q]?) (ha : A a) (hL : ∀ q ∈ L, q.base = a) : va_S A H0 H1 (locs ++ L) := by
  refine ⟨by rw [z]; exact h.1, fun q h1 h2 => ?_, fun q hq => ?_⟩
  · rw [oq q (fun e => h2 (by rw [e]; exact ha))]
    exact h.2.1 q h1 h2
  · rcases List.mem_append.mp hq with h1 | h1
    · exact h.2.2 q h1
    · rw [hL q h1]
      exact ha
theorem eK.put {l : Launch} {D : va_G} {cy : Nat → ClassId} {B : Nat} {p : Program} {s : State} {m : MethodId} {args : Array Value} {meth : Method} {c : Code} {H : Heap} {locs : List Loc} {h : eH} {n c0 s0 : Nat} (K : eK M (h, n, c0, s0) l D cy B p s m args meth c H locs)
    {a : Nat} {x x0 : eA} (hx : h a = some x0) {H1 : Heap} {L : List Loc} (h1 : va_at D vwCl (a, eE cy x) H1) (z : H1.size = H.size) (oq : ∀ q : Nat, q ≠ a → H1[q]? = H[q]?) (hL : ∀ q ∈ L, q.base = a) : eK M (eU h a x, n, c0, s0) l D cy B p s m args meth c H1 (locs ++ L) := by
  obtain ⟨k1, k2, k3, k4, k5, k6, k7, k8, k9, k10, k11, k12, k13, k14, k15, k16, k17⟩ := K
  have hB := (k16 a x0 hx).1
  exact ⟨k1, k2, k3, k4, k5, k6, k7, k8, k9, k10, k11, k12, k13, eS.put k14 z oq hB hL, by rw [z]; exact k15, k16.put hB h1 (fun q _ _ hq => oq q hq), k17⟩
theorem eK.new {l : Launch} {D : va_G} {cy : Nat → ClassId} {B : Nat} {p : Program} {s : State} {m : MethodId} {args : Array Value} {meth : Method} {c : Code} {H : Heap} {locs : List Loc} {h : eH} {n c0 s0 c1 s1 : Nat} (K : eK M (h, n, c0, s0) l D cy B p s m args meth c H locs)
    {x : eA} {H1 : Heap} (h1 : va_at D vwCl (H.size, eE cy x) H1) (z : H1.size = H.size + 1) (oq : ∀ q : Nat, q < H.size → H1[q]? = H[q]?) : eK M (eU h n x, n + 1, c1, s1) l D cy B p s m args meth c H1 locs := by
  obtain ⟨k1, k2, k3, k4, k5, k6, k7, k8, k9, k10, k11, k12, k13, k14, k15, k16, k17⟩ := K
  have k15' : H.size = n := k15
  subst k15'
  exact ⟨k1, k2, k3, k4, k5, k6, k7, k8, k9, k10, k11, k12, k13, ⟨Nat.le_trans k14.1 (by omega), fun q h1 h2 => (oq q (Nat.lt_of_lt_of_le h1 k14.1)).trans (k14.2.1 q h1 h2), k14.2.2⟩, z, eR.put k16 (Nat.le_trans k13 k14.1) h1 (fun q y hy _ => oq q (k16 q y hy).2.lt), k17⟩
theorem ev_getfield {index ci f a : Nat} {fs : List Value} {v : Value} (d : decode M.1 pc = .ok (.getfield index, 3)) (hf : eFL M.own index ci f) (ho : w.1 a = some (.inr (ci, fs))) (hv : fs[f]? = some v) (k : eV M (pc + 3) lv (v :: st) w r mc ms) : eV M pc lv (.ref a :: st) w r mc ms := by
  intro l D cy B p e s m args below meth c H locs arr K hl
  obtain ⟨k1, k2, k3, k4, k5, k6, k7, k8, k9, k10, k11, k12, k13, k14, k15, k16, k17⟩ := id K
  obtain ⟨q, hq, hlt, hlink, hin⟩ := hf
  exact va_get k2 k3 k10 hin k9 k11.1 (k16.one ho) 0 rfl hq f hlt (k10 _ hlink) (fun _ h9 => h9) hv d (k l D cy B p e s m args below meth c H locs arr K hl)
theorem ev_putfield {index ci f a : Nat} {fs : List Value} {v : Value} {ty : FieldType} {h : eH} {n c0 s0 : Nat} (d : decode M.1 pc = .ok (.putfield index, 3)) (hf : ePL M.own index ci f ty false) (ho : h a = some (.inr (ci, fs))) (hl0 : f < fs.length) (hn : narrow ty v = v) (hfit : fits ty v = true)
    (k : eV M (pc + 3) lv st (eU h a (.inr (ci, fs.set f v)), n, c0, s0) r mc ms) : eV M pc lv (v :: .ref a :: st) (h, n, c0, s0) r mc ms := by
  intro l D cy B p e s m args below meth c H locs arr K hl
  obtain ⟨k1, k2, k3, k4, k5, k6, k7, k8, k9, k10, k11, k12, k13, k14, k15, k16, k17⟩ := id K
  obtain ⟨⟨C, T, N⟩, tf, hq, hlt, hlink, hin, hty, hnm, hfin, hd, -⟩ := hf
  have hap := va_apart (own := M.own) k10 hin tf hty hnm k11.1 hq
  obtain ⟨q', h1, cell, q1, q2, q3, q4⟩ := (k16 a _ ho).2
  have hr : q' = (C, T, N) := Option.some.inj (h1.symm.trans hq)
  subst hr
  obtain ⟨hS, hfc, kC, hkC, hkind⟩ := k11.1.1 ci _ hq
  obtain ⟨cf, kf, fi, fd, hi, hsl⟩ := hS f hlt
  have hlay := k10 _ (hin _ (u_in_lay hlt))
  unfold u_lay at hlay
  rw [if_neg (by rw [hfin]; decide)] at hlay
  have hst := (u_facts hfc hkC (u_lays k10 hin hlt) hi).1
  have h6 := u_store hfc hkC hkind hlay hi hd hn hfit
  refine W.putK k2 k3 (f := fd) ⟨k9, k10 _ hlink, ⟨_, _, _, hi⟩, hst⟩ (by rw [q2]; exact h6) q1 q3 (by rw [hsl]; exact k2_hasslot (q4 f hlt)) rfl rfl d fun H' e1 e2 e3 => ?_
  rw [hsl] at e1 ⊢
  exact k l D cy B p e s m args below meth c H' _ arr (K.put ho (x := .inr (ci, fs.set f v)) ⟨_, hq, t_OB.to (V := updV (vp_V fs) f v) ⟨_, e1, q2, q3, t_set q4 hap hlt v⟩ (fun j _ => vp_updV_set hl0 v j)⟩ e2 e3 (fun q h9 => by rw [List.mem_singleton.mp h9])) hl
theorem ev_putfinal {index ci f a : Nat} {fs : List Value} {v : Value} {ty : FieldType} {h : eH} {n c0 s0 : Nat} (d : decode M.1 pc = .ok (.putfield index, 3)) (hf : ePL M.own index ci f ty true) (hmn : M.2.2.2.2.1 = "<init>") (ho : h a = some (.inr (ci, fs))) (hl0 : f < fs.length) (hn : narrow ty v = v) (hfit : fits ty v = true)
    (k : eV M (pc + 3) lv st (eU h a (.inr (ci, fs.set f v)), n, c0, s0) r mc ms) : eV M pc lv (v :: .ref a :: st) (h, n, c0, s0) r mc ms := by
  intro l D cy B p e s m args below meth c H locs arr K hl
  obtain ⟨k1, k2, k3, k4, k5, k6, k7, k8, k9, k10, k11, k12, k13, k14, k15, k16, k17⟩ := id K
  obtain ⟨⟨C, T, N⟩, tf, hq, hlt, hlink, hin, hty, hnm, hfin, hd, hown⟩ := hf
  have hap := va_apart (own := M.own) k10 hin tf hty hnm k11.1 hq
  obtain ⟨q', h1, cell, q1, q2, q3, q4⟩ := (k16 a _ ho).2
  have hr : q' = (C, T, N) := Option.some.inj (h1.symm.trans hq)
  subst hr
  obtain ⟨hS, hfc, kC, hkC, hkind⟩ := k11.1.1 ci _ hq
  obtain ⟨cf, kf, fi, fd, hi, hsl⟩ := hS f hlt
  have hlay := k10 _ (hin _ (u_in_lay hlt))
  unfold u_lay at hlay
  rw [if_pos hfin] at hlay
  have hst := (u_facts hfc hkC (u_lays k10 hin hlt) hi).1
  have hcf : m.cls = cf := by
    obtain ⟨_, _, c', _, _, _, -, -, hf', -, -, -, hown2, -⟩ := Cond.laysFinal_spec hlay
    have e1 : c' = cf := by have := hi.symm.trans hf'; simp at this; exact this.1.symm
    rw [hown rfl] at hown2
    rw [← e1]; exact Option.some.inj (k9.symm.trans hown2)
  have h6 := u_fits hfc hkC hkind (Or.inr hlay) hi hd hn hfit
  refine W.putFinK k2 k3 k9 (k10 _ hlink) hi hst hcf (k8.trans hmn) (by rw [q2]; exact h6) q1 q3 (by rw [hsl]; exact k2_hasslot (q4 f hlt)) rfl rfl d fun H' e1 e2 e3 => ?_
  rw [hsl] at e1 ⊢
  exact k l D cy B p e s m args below meth c H' _ arr (K.put ho (x := .inr (ci, fs.set f v)) ⟨_, hq, t_OB.to (V := updV (vp_V fs) f v) ⟨_, e1, q2, q3, t_set q4 hap hlt v⟩ (fun j _ => vp_updV_set hl0 v j)⟩ e2 e3 (fun q h9 => by rw [List.mem_singleton.mp h9])) hl
theorem ev_alen {a t n : Nat} {x : vp_A} (d : decode M.1 pc = .ok (.arraylength, 1)) (ha : w.1 a = some (.inl (t, x))) {ty : Nat → FieldType} (ht : ∀ cy : Nat → ClassId, (eTy cy)[t]? = some (cy t, ty t)) (hn : x.1 = n) (k : eV M (pc + 1) lv (.int (nI n) :: st) w r mc ms) : eV M pc lv (.ref a :: st) w r mc ms := by
  intro l D cy B p e s m args below meth c H locs arr K hl
  obtain ⟨k1, k2, k3, k4, k5, k6, k7, k8, k9, k10, k11, k12, k13, k14, k15, k16, k17⟩ := id K
  exact va_alen k2 k3 k11.1 (k16.one ha) 0 t rfl (ht cy) (by rw [hn]; rfl) d (k l D cy B p e s m args below meth c H locs arr K hl)

theorem ev_iaload {a n : Nat} {f : Nat → Int32} {i : Int32} (d : decode M.1 pc = .ok (.iaload, 1)) (ha : w.1 a = some (.inl (0, n, .inl f))) (hin : vp_in i n) (k : eV M (pc + 1) lv (.int (f i.toNatClampNeg) :: st) w r mc ms) : eV M pc lv (.int i :: .ref a :: st) w r mc ms := by
  intro l D cy B p e s m args below meth c H locs arr K hl
  obtain ⟨k1, k2, k3, k4, k5, k6, k7, k8, k9, k10, k11, k12, k13, k14, k15, k16, k17⟩ := id K
  exact va_iald k2 k3 k11.1 (k16.one ha) 0 0 rfl rfl hin d (k l D cy B p e s m args below meth c H locs arr K hl)
theorem ev_ialoadN {a n i : Nat} {f : Nat → Int32} (d : decode M.1 pc = .ok (.iaload, 1)) (ha : w.1 a = some (.inl (0, n, .inl f))) (hi : i < n) (hn : n < 2 ^ 31) (k : eV M (pc + 1) lv (.int (f i) :: st) w r mc ms) : eV M pc lv (.int (nI i) :: .ref a :: st) w r mc ms := by
  refine ev_iaload d ha (vp_in_nI hi hn) ?_
  rw [nI_clamp (Nat.lt_trans hi hn)]
  exact k
theorem ev_caload {a n : Nat} {f : Nat → Int32} {i : Int32} (d : decode M.1 pc = .ok (.caload, 1)) (ha : w.1 a = some (.inl (1, n, .inl f))) (hin : vp_in i n) (k : eV M (pc + 1) lv (.int (f i.toNatClampNeg) :: st) w r mc ms) : eV M pc lv (.int i :: .ref a :: st) w r mc ms := by
  intro l D cy B p e s m args below meth c H locs arr K hl
  obtain ⟨k1, k2, k3, k4, k5, k6, k7, k8, k9, k10, k11, k12, k13, k14, k15, k16, k17⟩ := id K
  exact va_cald k2 k3 k11.1 (k16.one ha) 0 1 rfl rfl hin d (k l D cy B p e s m args below meth c H locs arr K hl)
theorem ev_caloadN {a n i : Nat} {f : Nat → Int32} (d : decode M.1 pc = .ok (.caload, 1)) (ha : w.1 a = some (.inl (1, n, .inl f))) (hi : i < n) (hn : n < 2 ^ 31) (k : eV M (pc + 1) lv (.int (f i) :: st) w r mc ms) : eV M pc lv (.int (nI i) :: .ref a :: st) w r mc ms := by
  refine ev_caload d ha (vp_in_nI hi hn) ?_
  rw [nI_clamp (Nat.lt_trans hi hn)]
  exact k
theorem ev_baload {a n : Nat} {f : Nat → Int32} {i : Int32} (d : decode M.1 pc = .ok (.baload, 1)) (ha : w.1 a = some (.inl (2, n, .inl f))) (hin : vp_in i n) (k : eV M (pc + 1) lv (.int (f i.toNatClampNeg) :: st) w r mc ms) : eV M pc lv (.int i :: .ref a :: st) w r mc ms := by
  intro l D cy B p e s m args below meth c H locs arr K hl
  obtain ⟨k1, k2, k3, k4, k5, k6, k7, k8, k9, k10, k11, k12, k13, k14, k15, k16, k17⟩ := id K
  exact va_zald k2 k3 k11.1 (k16.one ha) 0 2 rfl rfl hin d (k l D cy B p e s m args below meth c H locs arr K hl)
theorem ev_baloadN {a n i : Nat} {f : Nat → Int32} (d : decode M.1 pc = .ok (.baload, 1)) (ha : w.1 a = some (.inl (2, n, .inl f))) (hi : i < n) (hn : n < 2 ^ 31) (k : eV M (pc + 1) lv (.int (f i) :: st) w r mc ms) : eV M pc lv (.int (nI i) :: .ref a :: st) w r mc ms := by
  refine ev_baload d ha (vp_in_nI hi hn) ?_
  rw [nI_clamp (Nat.lt_trans hi hn)]
  exact k
theorem ev_laload {a n : Nat} {f : Nat → Int64} {i : Int32} (d : decode M.1 pc = .ok (.laload, 1)) (ha : w.1 a = some (.inl (4, n, .inr (.inl f)))) (hin : vp_in i n) (k : eV M (pc + 1) lv (.long (f i.toNatClampNeg) :: st) w r mc ms) : eV M pc lv (.int i :: .ref a :: st) w r mc ms := by
  intro l D cy B p e s m args below meth c H locs arr K hl
  obtain ⟨k1, k2, k3, k4, k5, k6, k7, k8, k9, k10, k11, k12, k13, k14, k15, k16, k17⟩ := id K
  exact va_lald k2 k3 k11.1 (k16.one ha) 0 4 rfl rfl hin d (k l D cy B p e s m args below meth c H locs arr K hl)
theorem ev_laloadN {a n i : Nat} {f : Nat → Int64} (d : decode M.1 pc = .ok (.laload, 1)) (ha : w.1 a = some (.inl (4, n, .inr (.inl f)))) (hi : i < n) (hn : n < 2 ^ 31) (k : eV M (pc + 1) lv (.long (f i) :: st) w r mc ms) : eV M pc lv (.int (nI i) :: .ref a :: st) w r mc ms := by
  refine ev_laload d ha (vp_in_nI hi hn) ?_
  rw [nI_clamp (Nat.lt_trans hi hn)]
  exact k
theorem ev_aaload {a n : Nat} {f : Nat → Option Nat} {i : Int32} (d : decode M.1 pc = .ok (.aaload, 1)) (ha : w.1 a = some (.inl (3, n, .inr (.inr (.inr (.inr f)))))) (hin : vp_in i n) (k : eV M (pc + 1) lv (va_rf (f i.toNatClampNeg) :: st) w r mc ms) : eV M pc lv (.int i :: .ref a :: st) w r mc ms := by
  intro l D cy B p e s m args below meth c H locs arr K hl
  obtain ⟨k1, k2, k3, k4, k5, k6, k7, k8, k9, k10, k11, k12, k13, k14, k15, k16, k17⟩ := id K
  exact va_aldq k2 k3 k11.1 (k16.one ha) 0 3 rfl rfl hin d (k l D cy B p e s m args below meth c H locs arr K hl)
theorem ev_aaloadN {a n i : Nat} {f : Nat → Option Nat} (d : decode M.1 pc = .ok (.aaload, 1)) (ha : w.1 a = some (.inl (3, n, .inr (.inr (.inr (.inr f)))))) (hi : i < n) (hn : n < 2 ^ 31) (k : eV M (pc + 1) lv (va_rf (f i) :: st) w r mc ms) : eV M pc lv (.int (nI i) :: .ref a :: st) w r mc ms := by
  refine ev_aaload d ha (vp_in_nI hi hn) ?_
  rw [nI_clamp (Nat.lt_trans hi hn)]
  exact k
theorem ev_iastore {a n0 : Nat} {f : Nat → Int32} {i : Int32} {x : Int32} {h : eH} {n c0 s0 : Nat} (d : decode M.1 pc = .ok (.iastore, 1)) (ha : h a = some (.inl (0, n0, .inl f))) (hin : vp_in i n0) (k : eV M (pc + 1) lv st (eU h a (.inl (0, n0, .inl (upd f i.toNatClampNeg x))), n, c0, s0) r mc ms) : eV M pc lv (.int x :: .int i :: .ref a :: st) (h, n, c0, s0) r mc ms := by
  intro l D cy B p e s m args below meth c H locs arr K hl
  obtain ⟨k1, k2, k3, k4, k5, k6, k7, k8, k9, k10, k11, k12, k13, k14, k15, k16, k17⟩ := id K
  refine W.iast k2 k3 (k16 a _ ha).2 ((k11.1.2 0 _ rfl).1 n0 (fun j => .int (f j))) (fun q => by cases q) (by show ¬ (i < 0 ∨ (arrV _ _ _).slots.size ≤ _); rw [arrV_size]; exact hin) rfl rfl d fun H1 e1 z oq => ?_
  refine k l D cy B p e s m args below meth c H1 _ arr (K.put ha (x := .inl (0, n0, .inl (upd f i.toNatClampNeg x))) ?_ z oq (fun q h9 => by rw [List.mem_singleton.mp h9])) hl
  show H1[a]? = some (vp_cell _ _)
  rw [e1]
  show some (Cell.setSlot (vp_cell _ _) _ _) = _
  rw [vp_cell_i, vp_cell_i, arrV_store]
  congr 2
  funext q
  by_cases hq : q = i.toNatClampNeg
  · subst hq
    simp [updV, upd]
  · simp [updV, upd, hq]
theorem ev_castore {a n0 : Nat} {f : Nat → Int32} {i : Int32} {x : Int32} {h : eH} {n c0 s0 : Nat} (d : decode M.1 pc = .ok (.castore, 1)) (ha : h a = some (.inl (1, n0, .inl f))) (hin : vp_in i n0) (k : eV M (pc + 1) lv st (eU h a (.inl (1, n0, .inl (upd f i.toNatClampNeg (vp_nar .char x)))), n, c0, s0) r mc ms) : eV M pc lv (.int x :: .int i :: .ref a :: st) (h, n, c0, s0) r mc ms := by
  intro l D cy B p e s m args below meth c H locs arr K hl
  obtain ⟨k1, k2, k3, k4, k5, k6, k7, k8, k9, k10, k11, k12, k13, k14, k15, k16, k17⟩ := id K
  refine W.cast k2 k3 (k16 a _ ha).2 ((k11.1.2 1 _ rfl).1 n0 (fun j => .int (f j))) (fun q => by cases q) (by show ¬ (i < 0 ∨ (arrV _ _ _).slots.size ≤ _); rw [arrV_size]; exact hin) rfl rfl d fun H1 e1 z oq => ?_
  refine k l D cy B p e s m args below meth c H1 _ arr (K.put ha (x := .inl (1, n0, .inl (upd f i.toNatClampNeg (vp_nar .char x)))) ?_ z oq (fun q h9 => by rw [List.mem_singleton.mp h9])) hl
  show H1[a]? = some (vp_cell _ _)
  rw [e1]
  show some (Cell.setSlot (vp_cell _ _) _ _) = _
  rw [vp_cell_i, vp_cell_i, arrV_store]
  congr 2
  funext q
  by_cases hq : q = i.toNatClampNeg
  · subst hq
    (simp [updV, upd, vp_nar]; try rfl)
  · simp [updV, upd, hq]
theorem ev_bastore {a n0 : Nat} {f : Nat → Int32} {i : Int32} {x : Int32} {h : eH} {n c0 s0 : Nat} (d : decode M.1 pc = .ok (.bastore, 1)) (ha : h a = some (.inl (2, n0, .inl f))) (hin : vp_in i n0) (k : eV M (pc + 1) lv st (eU h a (.inl (2, n0, .inl (upd f i.toNatClampNeg (vp_nar .boolean x)))), n, c0, s0) r mc ms) : eV M pc lv (.int x :: .int i :: .ref a :: st) (h, n, c0, s0) r mc ms := by
  intro l D cy B p e s m args below meth c H locs arr K hl
  obtain ⟨k1, k2, k3, k4, k5, k6, k7, k8, k9, k10, k11, k12, k13, k14, k15, k16, k17⟩ := id K
  refine W.zast k2 k3 (k16 a _ ha).2 ((k11.1.2 2 _ rfl).1 n0 (fun j => .int (f j))) (fun q => by cases q) (by show ¬ (i < 0 ∨ (arrV _ _ _).slots.size ≤ _); rw [arrV_size]; exact hin) rfl rfl d fun H1 e1 z oq => ?_
  refine k l D cy B p e s m args below meth c H1 _ arr (K.put ha (x := .inl (2, n0, .inl (upd f i.toNatClampNeg (vp_nar .boolean x)))) ?_ z oq (fun q h9 => by rw [List.mem_singleton.mp h9])) hl
  show H1[a]? = some (vp_cell _ _)
  rw [e1]
  show some (Cell.setSlot (vp_cell _ _) _ _) = _
  rw [vp_cell_i, vp_cell_i, arrV_store]
  congr 2
  funext q
  by_cases hq : q = i.toNatClampNeg
  · subst hq
    (simp [updV, upd, vp_nar]; try rfl)
  · simp [updV, upd, hq]
theorem ev_lastore {a n0 : Nat} {f : Nat → Int64} {i : Int32} {x : Int64} {h : eH} {n c0 s0 : Nat} (d : decode M.1 pc = .ok (.lastore, 1)) (ha : h a = some (.inl (4, n0, .inr (.inl f)))) (hin : vp_in i n0) (k : eV M (pc + 1) lv st (eU h a (.inl (4, n0, .inr (.inl (vp_updL f i.toNatClampNeg x)))), n, c0, s0) r mc ms) : eV M pc lv (.long x :: .int i :: .ref a :: st) (h, n, c0, s0) r mc ms := by
  intro l D cy B p e s m args below meth c H locs arr K hl
  obtain ⟨k1, k2, k3, k4, k5, k6, k7, k8, k9, k10, k11, k12, k13, k14, k15, k16, k17⟩ := id K
  refine W.last k2 k3 (k16 a _ ha).2 ((k11.1.2 4 _ rfl).1 n0 (fun j => .long (f j))) (fun q => by cases q) (by show ¬ (i < 0 ∨ (arrV _ _ _).slots.size ≤ _); rw [arrV_size]; exact hin) rfl rfl d fun H1 e1 z oq => ?_
  refine k l D cy B p e s m args below meth c H1 _ arr (K.put ha (x := .inl (4, n0, .inr (.inl (vp_updL f i.toNatClampNeg x)))) ?_ z oq (fun q h9 => by rw [List.mem_singleton.mp h9])) hl
  show H1[a]? = some (vp_cell _ _)
  rw [e1]
  show some (Cell.setSlot (vp_cell _ _) _ _) = _
  rw [vp_cell_l, vp_cell_l, arrV_store]
  congr 2
  funext q
  by_cases hq : q = i.toNatClampNeg
  · subst hq
    simp [updV, vp_updL]
  · simp [updV, vp_updL, hq]
theorem ev_iastoreN {a n0 i : Nat} {f : Nat → Int32} {x : Int32} {h : eH} {n c0 s0 : Nat} (d : decode M.1 pc = .ok (.iastore, 1)) (ha : h a = some (.inl (0, n0, .inl f))) (hi : i < n0) (hn : n0 < 2 ^ 31) (k : eV M (pc + 1) lv st (eU h a (.inl (0, n0, .inl (upd f i x))), n, c0, s0) r mc ms) : eV M pc lv (.int x :: .int (nI i) :: .ref a :: st) (h, n, c0, s0) r mc ms := by
  refine ev_iastore d ha (vp_in_nI hi hn) ?_
  rw [nI_clamp (Nat.lt_trans hi hn)]
  exact k
theorem ev_bastoreN {a n0 i : Nat} {f : Nat → Int32} {x y : Int32} {h : eH} {n c0 s0 : Nat} (d : decode M.1 pc = .ok (.bastore, 1)) (ha : h a = some (.inl (2, n0, .inl f))) (hi : i < n0) (hn : n0 < 2 ^ 31) (hx : vp_nar .boolean x = y) (k : eV M (pc + 1) lv st (eU h a (.inl (2, n0, .inl (upd f i y))), n, c0, s0) r mc ms) : eV M pc lv (.int x :: .int (nI i) :: .ref a :: st) (h, n, c0, s0) r mc ms := by
  refine ev_bastore d ha (vp_in_nI hi hn) ?_
  rw [nI_clamp (Nat.lt_trans hi hn), hx]
  exact k
theorem ev_castoreN {a n0 i : Nat} {f : Nat → Int32} {x y : Int32} {h : eH} {n c0 s0 : Nat} (d : decode M.1 pc = .ok (.castore, 1)) (ha : h a = some (.inl (1, n0, .inl f))) (hi : i < n0) (hn : n0 < 2 ^ 31) (hx : vp_nar .char x = y) (k : eV M (pc + 1) lv st (eU h a (.inl (1, n0, .inl (upd f i y))), n, c0, s0) r mc ms) : eV M pc lv (.int x :: .int (nI i) :: .ref a :: st) (h, n, c0, s0) r mc ms := by
  refine ev_castore d ha (vp_in_nI hi hn) ?_
  rw [nI_clamp (Nat.lt_trans hi hn), hx]
  exact k
theorem ev_aastore {a n0 i v : Nat} {f : Nat → Option Nat} {vs : List Value} {h : eH} {n c0 s0 : Nat} (d : decode M.1 pc = .ok (.aastore, 1)) (ha : h a = some (.inl (3, n0, .inr (.inr (.inr (.inr f)))))) (hv : h v = some (.inr (4, vs))) (hi : i < n0) (hn : n0 < 2 ^ 31) (k : eV M (pc + 1) lv st (eU h a (.inl (3, n0, .inr (.inr (.inr (.inr (va_up f i (some v))))))), n, c0, s0) r mc ms) : eV M pc lv (.ref v :: .int (nI i) :: .ref a :: st) (h, n, c0, s0) r mc ms := by
  intro l D cy B p e s m args below meth c H locs arr K hl
  obtain ⟨k1, k2, k3, k4, k5, k6, k7, k8, k9, k10, k11, k12, k13, k14, k15, k16, k17⟩ := id K
  have hlt : (nI i).toNatClampNeg < n0 := by rw [nI_clamp (Nat.lt_trans hi hn)]; exact hi
  have h0 : ¬ nI i < 0 := fun q => vp_in_nI hi hn (Or.inl q)
  obtain ⟨r', hr', cellV, g1, g2, g3, -⟩ := (k16 v _ hv).2
  have hcls := (k11.1.1 4 _ rfl).2
  obtain ⟨kA, comp, f1, f2, f3, -⟩ := (k11.1.2 3 _ rfl).2
  have hcomp : comp = D.1 4 := Option.some.inj (f3.symm.trans hcls.1)
  subst hcomp
  obtain ⟨kC, hkC, -⟩ := hcls.2
  refine W.aast k2 k3 (k16 a _ ha).2 (fun q h => by cases h) (fun h => by cases h) f1 f2 rfl hkC ⟨h0, by show _ < (arrV _ _ _).slots.size; rw [arrV_size]; exact hlt⟩ g1 (fun q h => by rw [g3] at h; cases h) (by rw [g2]; exact hkC) (by rw [g2]; exact va_assign hcls) rfl rfl d fun H1 e1 z oq => ?_
  refine k l D cy B p e s m args below meth c H1 _ arr (K.put ha (x := .inl (3, n0, .inr (.inr (.inr (.inr (va_up f i (some v))))))) ?_ z oq (fun q h9 => by rw [List.mem_singleton.mp h9])) hl
  show H1[a]? = some (vp_cell _ _)
  rw [e1, nI_clamp (Nat.lt_trans hi hn)]
  show some (Cell.setSlot (vp_cell _ _) _ _) = _
  rw [vp_cell_q, vp_cell_q, arrV_store]
  congr 2
  funext q
  by_cases hq : q = i
  · subst hq
    simp [updV, va_up, va_rf]
  · simp [updV, va_up, hq]
/-- the law's script -/
theorem ev_sld {b L : Nat} {xs : Nat → Int32} {i : Int32} (d : decode M.1 pc = .ok (.iaload, 1)) (hs : M.sc = some (b, L, xs)) (hin : vp_in i L) (k : eV M (pc + 1) lv (.int (xs i.toNatClampNeg) :: st) w r mc ms) : eV M pc lv (.int i :: .ref b :: st) w r mc ms := by
  intro l D cy B p e s m args below meth c H locs arr K hl
  obtain ⟨k1, k2, k3, k4, k5, k6, k7, k8, k9, k10, k11, k12, k13, k14, k15, k16, k17⟩ := id K
  obtain ⟨hX, hbl, hbB⟩ := k17 _ hs
  exact va_sld k2 k3 hX hbl (Nat.not_le.mpr hbB) k14 hin d (k l D cy B p e s m args below meth c H locs arr K hl)
theorem ev_slen {b L : Nat} {xs : Nat → Int32} (d : decode M.1 pc = .ok (.arraylength, 1)) (hs : M.sc = some (b, L, xs)) (k : eV M (pc + 1) lv (.int (nI L) :: st) w r mc ms) : eV M pc lv (.ref b :: st) w r mc ms := by
  intro l D cy B p e s m args below meth c H locs arr K hl
  obtain ⟨k1, k2, k3, k4, k5, k6, k7, k8, k9, k10, k11, k12, k13, k14, k15, k16, k17⟩ := id K
  obtain ⟨hX, hbl, hbB⟩ := k17 _ hs
  exact va_slen k2 k3 hX hbl (Nat.not_le.mpr hbB) k14 d (k l D cy B p e s m args below meth c H locs arr K hl)
/-- the end, with a number; of the type ty -/
theorem ev_iret {v : Int32} {ty : FieldType} {h : eH} {n c0 s0 : Nat} (d : decode M.1 pc = .ok (.ireturn, 1)) (hr : M.2.2.1 = some ty) (hn : narrow ty (.int v) = .int v) (h1 : r.1 = .inl (some (.int v))) (h2 : r.2.1 = h) (h3 : ∀ k, r.2.2 = some k → n = k) (hc : c0 ≤ mc) (hs : s0 ≤ ms) : eV M pc lv [.int v] (h, n, c0, s0) r mc ms := by
  intro l D cy B p e s m args below meth c H locs arr K hl
  obtain ⟨k1, k2, k3, k4, k5, k6, k7, k8, k9, k10, k11, k12, k13, k14, k15, k16, k17⟩ := id K
  exact W.widen hc hs (vx_ret (W.zret k2 k3 (k5.trans hr) hn (fun t ht hW => ⟨⟨_, h1, rfl⟩, by rw [ht, h2]; exact k16, fun k hk => by rw [ht]; exact k15.trans (h3 k hk), k14.F ht⟩) k14.2.2 d (hlocks := k6)))
theorem ev_lret {v : Int64} {h : eH} {n c0 s0 : Nat} (d : decode M.1 pc = .ok (.lreturn, 1)) (hr : M.2.2.1 = some .long) (h1 : r.1 = .inl (some (.long v))) (h2 : r.2.1 = h) (h3 : ∀ k, r.2.2 = some k → n = k) (hc : c0 ≤ mc) (hs : s0 ≤ ms) : eV M pc lv [.long v] (h, n, c0, s0) r mc ms := by
  intro l D cy B p e s m args below meth c H locs arr K hl
  obtain ⟨k1, k2, k3, k4, k5, k6, k7, k8, k9, k10, k11, k12, k13, k14, k15, k16, k17⟩ := id K
  exact W.widen hc hs (vx_ret (W.lret k2 k3 (k5.trans hr) (fun t ht hW => ⟨⟨_, h1, rfl⟩, by rw [ht, h2]; exact k16, fun k hk => by rw [ht]; exact k15.trans (h3 k hk), k14.F ht⟩) k14.2.2 d (hlocks := k6)))
theorem ev_vret {h : eH} {n c0 s0 : Nat} (d : decode M.1 pc = .ok (.return_, 1)) (hr : M.2.2.1 = none) (h1 : r.1 = .inl none) (h2 : r.2.1 = h) (h3 : ∀ k, r.2.2 = some k → n = k) (hc : c0 ≤ mc) (hs : s0 ≤ ms) : eV M pc lv [] (h, n, c0, s0) r mc ms := by
  intro l D cy B p e s m args below meth c H locs arr K hl
  obtain ⟨k1, k2, k3, k4, k5, k6, k7, k8, k9, k10, k11, k12, k13, k14, k15, k16, k17⟩ := id K
  exact W.widen hc hs (vx_ret (W.vret k2 k3 (k5.trans hr) (fun t ht hW => ⟨⟨_, h1, rfl⟩, by rw [ht, h2]; exact k16, fun k hk => by rw [ht]; exact k15.trans (h3 k hk), k14.F ht⟩) k14.2.2 d (hlocks := k6)))
theorem ev_objInit {idx a : Nat} (d : decode M.1 pc = .ok (.invokespecial idx, 3)) (h1 : Cond.methodLink M.own idx Lib.objectInit ∈ eW) (h2 : Cond.instanceMethod Lib.objectInit ∈ eW) (h3 : Cond.code Lib.objectInit ⟨#[0xb1]⟩ 1 none ∈ eW) (hfr : 1 ≤ M.fr) (hlo : (st.map fun v => v.category).sum + 12 ≤ M.lo) (k : eV M (pc + 3) lv st w r mc ms) : eV M pc lv (.ref a :: st) w r mc ms := by
  intro l D cy B p e s m args below meth c H locs arr K hl
  obtain ⟨k1, k2, k3, k4, k5, k6, k7, k8, k9, k10, k11, k12, k13, k14, k15, k16, k17⟩ := id K
  exact W.objInit k2 k3 k9 (k10 _ h1) (k10 _ h2) (k10 _ h3) rfl (by rw [k4]; exact hl.1) rfl d hfr (by show 2 * 0 + _ + 12 ≤ _; omega) (k l D cy B p e s m args below meth c H locs arr K hl)
theorem ev_new {index ci : Nat} {fs : List Value} {h : eH} {n c0 s0 : Nat} {q : vw_C} {tf : Nat → FieldType} (d : decode M.1 pc = .ok (.new index, 3)) (hq : vwCl[ci]? = some q) (hin : ∀ w ∈ u_ws q.1 q.2.1 q.2.2, w ∈ eW) (hty : ∀ k, k < q.2.2 → parseFieldDescriptor (q.2.1 k).2.2.1 = some (tf k)) (h1 : Cond.classLink M.own index q.1 ∈ eW) (h2 : Cond.instantiable q.1 q.2.2 ∈ eW) (h3 : Cond.initialized q.1 ∈ eW)
    (hfs : ∀ j, j < q.2.2 → defaultValue (tf j) = vp_V fs j) (hc : c0 + 1 ≤ mc) (hs : s0 + q.2.2 ≤ ms) (k : eV M (pc + 3) lv (.ref n :: st) (eU h n (.inr (ci, fs)), n + 1, c0 + 1, s0 + q.2.2) r mc ms) : eV M pc lv st (h, n, c0, s0) r mc ms := by
  intro l D cy B p e s m args below meth c H locs arr K hl
  obtain ⟨k1, k2, k3, k4, k5, k6, k7, k8, k9, k10, k11, k12, k13, k14, k15, k16, k17⟩ := id K
  have hKn := k11.1.1 ci _ hq
  have k15' : H.size = n := k15
  refine W.newcK k2 k3 k9 (k10 _ h1) (k10 _ h2) (k10 _ h3) rfl d hc hs hKn.2.1 k15' fun H1 kC hkC e1 z1 o1 => ?_
  subst k15'
  exact k l D cy B p e s m args below meth c H1 _ arr (K.new (x := .inr (ci, fs)) ⟨_, hq, (u_born tf k10 hin hKn hkC e1 hty).to hfs⟩ z1 o1) hl
theorem ev_newarray {t n0 : Nat} {atype : ArrayType} {h : eH} {n c0 s0 : Nat} {x : vp_A} {ty : FieldType} {i : Int32} (d : decode M.1 pc = .ok (.newarray atype, 2)) (hty : newarray.typeOf atype = ty) (hw : Cond.arrayClass ty ∈ eW) (ht : ∀ cy : Nat → ClassId, (eTy cy)[t]? = some (cy t, ty)) (hra : ∀ (U : State) (cA : ClassId), va_RA U cA ty → U.vm.findClass ("[" ++ ty.toString) = some cA)
    (ha : ∀ cA : ClassId, vp_cell cA x = arrV cA n0 (fun _ => defaultValue ty)) (hi0 : ¬ i < 0) (hi : i.toNatClampNeg = n0) (hby : n0 * componentBytes ty ≤ 536870912) (hc : c0 + 1 ≤ mc) (hs : s0 + n0 ≤ ms) (k : eV M (pc + 2) lv (.ref n :: st) (eU h n (.inl (t, x)), n + 1, c0 + 1, s0 + n0) r mc ms) : eV M pc lv (.int i :: st) (h, n, c0, s0) r mc ms := by
  subst hty
  intro l D cy B p e s m args below meth c H locs arr K hl
  obtain ⟨k1, k2, k3, k4, k5, k6, k7, k8, k9, k10, k11, k12, k13, k14, k15, k16, k17⟩ := id K
  have k15' : H.size = n := k15
  refine va_newaK k2 k3 (k10 _ hw) rfl d rfl hi0 hi hby hc hs k15' fun H1 cA e1 z1 o1 hAr hNm => ?_
  subst k15'
  have hcA : cA = cy t := Option.some.inj (hNm.symm.trans (hra s _ (k11.1.2 t _ (ht cy)).2))
  subst hcA
  refine k l D cy B p e s m args below meth c H1 _ arr (K.new (x := .inl (t, x)) ?_ z1 o1) hl
  show H1[H.size]? = some (vp_cell _ _)
  rw [ha]
  exact e1
theorem ev_anewarray {index n0 : Nat} {h : eH} {n c0 s0 : Nat} {i : Int32} (d : decode M.1 pc = .ok (.anewarray index, 3)) (h1 : Cond.classLink M.own index RX5 ∈ eW) (hi0 : ¬ i < 0) (hi : i.toNatClampNeg = n0) (hby : n0 * 4 ≤ 536870912) (hc : c0 + 1 ≤ mc) (hs : s0 + n0 ≤ ms) (k : eV M (pc + 3) lv (.ref n :: st) (eU h n (.inl (3, n0, .inr (.inr (.inr (.inr (fun _ => none)))))), n + 1, c0 + 1, s0 + n0) r mc ms) : eV M pc lv (.int i :: st) (h, n, c0, s0) r mc ms := by
  subst hi
  intro l D cy B p e s m args below meth c H locs arr K hl
  obtain ⟨k1, k2, k3, k4, k5, k6, k7, k8, k9, k10, k11, k12, k13, k14, k15, k16, k17⟩ := id K
  have k15' : H.size = n := k15
  subst k15'
  refine W.anew k2 k3 k9 (k10 _ h1) (va_AO.use k11.2.2.2.2) rfl d rfl hi0 hby hc hs fun cA kA comp f1 f2 f3 f4 => ?_
  generalize hH1 : H.push ({ cls := cA, slots := Array.replicate i.toNatClampNeg .null, vm := .none } : Cell) = H1
  have z1 : H1.size = H.size + 1 := by rw [← hH1, Array.size_push]
  have e1 : H1[H.size]? = some (arrV cA i.toNatClampNeg (fun _ => .null)) := by rw [← hH1, Array.getElem?_push_size, ← arrV_new]
  have o1 : ∀ q : Nat, q < H.size → H1[q]? = H[q]? := fun q hq => by rw [← hH1, Array.getElem?_push, if_neg (Nat.ne_of_lt hq)]
  obtain ⟨kA9, comp9, g1, g2, g3, g4⟩ := (k11.1.2 3 _ rfl).2
  have hcA : cA = cy 3 := Option.some.inj (f1.symm.trans g4)
  subst hcA
  exact k l D cy B p e s m args below meth c H1 _ arr (K.new (x := .inl (3, i.toNatClampNeg, .inr (.inr (.inr (.inr (fun _ => none)))))) e1 z1 o1) hl
theorem ev_arraycopy {index a0 a1 n0 : Nat} {t : Nat} {ty : FieldType} {f g : Nat → Int32} {h : eH} {n c0 s0 : Nat} (d : decode M.1 pc = .ok (.invokestatic index, 3)) (ha0 : h a0 = some (.inl (t, n0, .inl f))) (ha1 : h a1 = some (.inl (t, n0, .inl g))) (ht : ∀ cy : Nat → ClassId, (eTy cy)[t]? = some (cy t, ty)) (hprim : refKind ty = false) (h1 : Cond.methodLink M.own index arraycopyName ∈ eW) (h2 : Cond.native arraycopyName ∈ eW) (h3 : Cond.static arraycopyName ∈ eW) (h4 : Cond.initialized "java/lang/System" ∈ eW)
    (hn : n0 < 2 ^ 31) (hfit : ∀ i, i < n0 → fits ty (.int (f i)) = true) (hfr : 1 ≤ M.fr) (hlo : (st.map fun v => v.category).sum + (nativeFrameWords "java/lang/System" "arraycopy" 5 + 11) ≤ M.lo) (k : eV M (pc + 3) lv st (eU h a1 (.inl (t, n0, .inl f)), n, c0, s0) r mc ms) : eV M pc lv (.int (nI n0) :: .int 0 :: .ref a1 :: .int 0 :: .ref a0 :: st) (h, n, c0, s0) r mc ms := by
  intro l D cy B p e s m args below meth c H locs arr K hl
  obtain ⟨k1, k2, k3, k4, k5, k6, k7, k8, k9, k10, k11, k12, k13, k14, k15, k16, k17⟩ := id K
  have e0 : (0 : Int32).toNatClampNeg = 0 := rfl
  have en : (nI n0).toNatClampNeg = n0 := nI_clamp hn
  have hc0 : H[a0]? = some (vp_cell (cy t) (n0, .inl f)) := (k16 a0 _ ha0).2
  have hc1 : H[a1]? = some (vp_cell (cy t) (n0, .inl g)) := (k16 a1 _ ha1).2
  have hty := k11.1.2 t _ (ht cy)
  intro T hT X
  obtain ⟨-, kq0, hk0, cm0, hkk0⟩ := hty.1 n0 (fun j => .int (f j))
  have hA0 : s.isArrayOf (vp_cell (cy t) (n0, .inl f)) ty := hty.1 n0 (fun j => .int (f j))
  have nn : ∀ z : Int32, ¬ z < 0 → z.toInt = (z.toNatClampNeg : Int) := by
    intro z hz
    have hz0 : (0 : Int) ≤ z.toInt := by
      have := Int32.not_lt.mp hz
      simpa using Int32.le_iff_toInt_le.mp this
    show z.toInt = ((z.toInt.toNat : Nat) : Int)
    omega
  have hnn : ¬ nI n0 < 0 := nI_pos hn
  obtain ⟨-, kq1, hk1, cm1, hkk1⟩ := hty.1 n0 (fun j => .int (g j))
  obtain ⟨vm', X', step⟩ := X.arraycopy k2 k9 (k10 _ h1) (k10 _ h2) (k10 _ h3) (k10 _ h4) (src := a0) (dst := a1) (cs := vp_cell (cy t) (n0, .inl f)) (cd := vp_cell (cy t) (n0, .inl g)) (srcPos := 0) (destPos := 0) (n := nI n0) (by rw [hT]; exact hc0) (by rw [hT]; exact hc1)
    (fun _ h => by cases h) (fun _ h => by cases h) (fun h => by cases h) (fun h => by cases h) hk0 hk1 hkk0 hkk1 (by simp [hprim]) (by decide) (by decide) hnn
    (by rw [nn 0 (by decide), nn _ hnn, e0, en]; show ¬ _ > ((arrV (cy t) n0 (fun j => .int (f j))).slots.size : Int); rw [arrV_size]; omega)
    (by rw [nn 0 (by decide), nn _ hnn, e0, en]; show ¬ _ > ((arrV (cy t) n0 (fun j => .int (g j))).slots.size : Int); rw [arrV_size]; omega)
    (fun vm₁ _ i hi => by
      rw [en] at hi
      have e : (vp_cell (cy t) (n0, .inl f)).slots.getD ((0 : Int32).toNatClampNeg + i) .null = .int (f i) := by
        show (arrV (cy t) n0 (fun j => .int (f j))).slots.getD _ _ = _
        rw [e0, Nat.zero_add, Array.getD_eq_getD_getElem?, arrV_read _ _ (by omega)]
        rfl
      refine ⟨?_, ?_⟩
      · rw [e]
        exact hfit i hi
      · rw [e]
        exact trivial)
    (g := F0 m pc arr (.int (nI n0) :: .int 0 :: .ref a1 :: .int 0 :: .ref a0 :: st)) rfl (by rw [k4]; exact hl.1) (rest := st) rfl (by rw [k3]; exact d) hfr (by show 2 * 0 + _ + _ ≤ _; omega)
  have e1 : copied (vp_cell (cy t) (n0, .inl f)) (vp_cell (cy t) (n0, .inl g)) 0 0 (nI n0) = vp_cell (cy t) (n0, .inl (va_cpy f g 0 0 n0)) := by
    have := va_copied (fun z => .int z) (cy t) (cy t) (n0 := n0) (n1 := n0) (sp := 0) (dp := 0) (n := n0) f g (by omega)
    sorry
  sorry
end EvRules

