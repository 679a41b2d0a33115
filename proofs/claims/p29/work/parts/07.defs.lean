/-! THE ABSTRACT HEAP AND THE TWO JUDGEMENTS: eV (a method stands at pc; it comes to its end with r), eM (a method called with these arguments ends with r) -/
abbrev eA : Type := (Nat × vp_A) ⊕ (Nat × List Value)
abbrev eH : Type := Nat → Option eA
def eE (cy : Nat → ClassId) (x : eA) : va_E := match x with
  | .inl a => .inl (cy a.1, a.2)
  | .inr b => .inr b
def eR (D : va_G) (cy : Nat → ClassId) (B : Nat) (h : eH) (H : Heap) : Prop := ∀ (a : Nat) (x : eA), h a = some x → B ≤ a ∧ va_at D vwCl (a, eE cy x) H
/-- the heap with one cell changed -/
def eU (h : eH) (a : Nat) (x : eA) : eH := fun q => if q = a then some x else h q
theorem eU_s (h : eH) (a : Nat) (x : eA) : eU h a x a = some x := if_pos rfl
theorem eU_n (h : eH) {a b : Nat} (x : eA) (hab : b ≠ a) : eU h a x b = h b := if_neg hab
def eTy (cy : Nat → ClassId) : List (ClassId × FieldType) := [(cy 0, .int), (cy 1, .char), (cy 2, .boolean), (cy 3, .object RX5)]
/-- the words that a method may ask of the tables -/
def eW : List Cond := lw_tbl.filter goodWord
def eWarm : Cond → Bool
  | .methodLinkNest _ _ _ _ => true
  | .castable _ _ => true
  | .declares _ => true
  | .privateMethod _ => true
  | _ => false
def eX : List Cond := lw_tbl.filter eWarm
def eStr : List (String × Nat × String) := [("NameBenches", 71, "the text is not a registry"), ("NameBenches", 365, "no such save slot"), ("NameBenches", 345, "nothing is saved in this slot"), ("NameBenches", 130, "what is 0 to 14"), ("NameBenches", 350, "no such person"), ("NameBenches", 163, "what is 0 to 8"), ("NameBenches", 353, "no such name"), ("NameBenches", 193, "what is 0 to 7"), ("NameBenches", 197, "a place is not negative"), ("NameBenches", 206, "a rank is not negative"), ("NameBenches", 358, "no such bench"), ("NameBenches", 363, "no such letters"), ("NameBenches", 224, "a way is 0 or 1"), ("NameBenches", 230, "no such family"), ("NameBenches", 235, "an age is 0 to 99"), ("NameBenches", 240, "there are 12 people"), ("NameBenches", 254, "somebody there has such a name"), ("NameBenches", 269, "1 to 9 years go by"), ("NameBenches", 271, "there is no year above 999"), ("NameBenches", 279, "no such setting or value"), ("NameBenches", 290, "1 or 2 letters"), ("NameBenches", 299, "1 to 3 commands"), ("NameBenches", 307, "at most 6 digits for a command"), ("NameBenches", 320, "1 to 60 turns"), ("NameBenches", 49, "no such character"), ("NameBenches", 60, "the text is full"), ("NameBenches", 282, "no state is remembered")]
def eNc : List (String × String) := [("java/lang/IllegalArgumentException", "java/lang/IndexOutOfBoundsException"), ("java/lang/IllegalStateException", "java/lang/IndexOutOfBoundsException"), ("java/lang/IllegalStateException", "java/lang/IllegalArgumentException")]
/-- what the tables say beside the words -/
def eC (D : va_G) (cy : Nat → ClassId) (U : State) : Prop :=
  va_K D vwCl (eTy cy) U ∧ (∀ w ∈ eX, va_Nw w U) ∧ (∀ q ∈ eStr, ∃ sa : Nat, vk_R q.1 q.2.1 q.2.2 sa U) ∧ (∀ q ∈ eNc, va_Nc q.1 q.2 U) ∧ va_AO RX5 U
def eZ (B : Nat) (U : State) (H : Heap) : Prop := vx_Zq Bundle.tN "UNASSIGNED_STACK" Bundle.steD (fun q => B ≤ q) U H ∧ vx_Zq Bundle.tN "SUPPRESSED_SENTINEL" Bundle.listD (fun q => B ≤ q) U H
theorem eX_warm {w : Cond} (h : eWarm w = true) {s U : State} (hW : s.WarmedH U.vm) (hZ : va_Nw w s) : va_Nw w U := by
  cases w <;> first
    | exact va_Nw.warmM hW hZ
    | exact va_Nw.warmC hW hZ
    | exact va_Nw.warmD hW hZ
    | exact va_tabs rfl (rfl : (s.setVm U.vm).vm = U.vm) (by rw [Cond.privateMethod_setVm hW.alike]; exact hZ)
    | (simp [eWarm] at h)
theorem eC.warm {D : va_G} {cy : Nat → ClassId} {s U : State} (hW : s.WarmedH U.vm) (h : eC D cy s) : eC D cy U :=
  ⟨va_K.moved hW.alike h.1, fun w hw => eX_warm (List.mem_filter.mp hw).2 hW (h.2.1 w hw), fun q hq => (h.2.2.1 q hq).imp fun _ h9 => vk_R.warm hW h9, fun q hq => va_Nc.moved hW.alike (h.2.2.2.1 q hq), va_AO.moved hW.alike h.2.2.2.2⟩
theorem eC.same {D : va_G} {cy : Nat → ClassId} {u U : State} (hv : u.vm = U.vm) (h : eC D cy u) : eC D cy U := by
  refine h.warm ?_
  rw [← hv]
  exact State.WarmedH.refl u
theorem eZ.warm {B : Nat} {s U : State} {H0 H : Heap} {locs : List Loc} (hvm : s.vm.Alike U.vm) (hS : va_S (fun q => B ≤ q) H0 H locs) (h : eZ B s H0) : eZ B U H :=
  ⟨vx_Zq.moved hvm (h.1.kept hS.2.1), vx_Zq.moved hvm (h.2.kept hS.2.1)⟩
abbrev eRes : Type := (Option Value ⊕ String) × (eH → Prop) × Option Nat
def eQc (D : va_G) (cy : Nat → ClassId) (B : Nat) (r : eRes) : Array Value → State → Outcome → State → Prop := fun _ st o t =>
  (∃ v, r.1 = .inl v ∧ o = .returned v) ∧ (∃ h' : eH, r.2.1 h' ∧ eR D cy B h' t.heap) ∧ (∀ k, r.2.2 = some k → t.heap.size = k) ∧ va_F (fun q => B ≤ q) st t
def eXc (D : va_G) (cy : Nat → ClassId) (B : Nat) (r : eRes) : String → State → State → Prop := fun E st t =>
  r.1 = .inr E ∧ (∃ h' : eH, r.2.1 h' ∧ eR D cy B h' t.heap) ∧ va_F (fun q => B ≤ q) st t
def ePc (D : va_G) (cy : Nat → ClassId) (B : Nat) (args : List Value) (h : eH) (n : Nat) : Array Value → State → Prop :=
  va_Pc args (fun U => eC D cy U ∧ eZ B U U.heap ∧ B ≤ U.heap.size ∧ U.heap.size = n ∧ eR D cy B h U.heap)
/-- a contract: the code word first (its name, bytes, locals ..) -/
def eM (y : MethodName) (wd : Cond) (fr lo : Nat) (args : List Value) (h : eH) (n : Nat) (r : eRes) (mc ms : Nat) : Prop :=
  ∀ (l : Launch) (D : va_G) (cy : Nat → ClassId) (B : Nat), l.flags = flags0 →
    vx_Met l y (wd :: eW) ({ frames := fr, cells := mc, slots := ms, locals := lo }) (ePc D cy B args h n) (eQc D cy B r) (eXc D cy B r) mc ms (fun q => B ≤ q)
/-- a method: bytes, locals, answer, class, name, frames, local words, table -/
abbrev eMI : Type := ByteArray × Nat × Option FieldType × String × String × Nat × Nat × List ExceptionTableEntry × Option (Nat × Nat × (Nat → Int32))
abbrev eMI.own (M : eMI) : String := M.2.2.2.1
abbrev eMI.fr (M : eMI) : Nat := M.2.2.2.2.2.1
abbrev eMI.lo (M : eMI) : Nat := M.2.2.2.2.2.2.1
abbrev eMI.tb (M : eMI) : List ExceptionTableEntry := M.2.2.2.2.2.2.2.1
abbrev eMI.sc (M : eMI) : Option (Nat × Nat × (Nat → Int32)) := M.2.2.2.2.2.2.2.2
/-- a field's link: class place ci, field place k -/
def eFL (own : String) (index ci k : Nat) : Prop := ∃ q : vw_C, vwCl[ci]? = some q ∧ k < q.2.2 ∧ Cond.fieldLink own index (q.2.1 k).1 (q.2.1 k).2.1 (q.2.1 k).2.2.1 ∈ eW ∧ ∀ w ∈ u_ws q.1 q.2.1 q.2.2, w ∈ eW
/-- .. that may be written, of the type ty; fin: final -/
def ePL (own : String) (index ci k : Nat) (ty : FieldType) (fin : Bool) : Prop := ∃ (q : vw_C) (tf : Nat → FieldType), vwCl[ci]? = some q ∧ k < q.2.2 ∧ Cond.fieldLink own index (q.2.1 k).1 (q.2.1 k).2.1 (q.2.1 k).2.2.1 ∈ eW ∧ (∀ w ∈ u_ws q.1 q.2.1 q.2.2, w ∈ eW) ∧
  (∀ k, k < q.2.2 → parseFieldDescriptor (q.2.1 k).2.2.1 = some (tf k)) ∧ (∀ a, a < q.2.2 → ∀ b, b < q.2.2 → a ≠ b → (q.2.1 a).2.1 ≠ (q.2.1 b).2.1) ∧ (q.2.1 k).2.2.2 = fin ∧ parseFieldDescriptor (q.2.1 k).2.2.1 = some ty ∧ (fin = true → (q.2.1 k).1 = own)
/-- what a virtual call asks of the tables -/
def eLV (own : String) (idx : Nat) (C : String) (y : MethodName) (wd : Cond) (n : Nat) : Prop :=
  Cond.methodLink own idx y ∈ eW ∧ Cond.instanceMethod y ∈ eW ∧ Cond.selects C y y ∈ eW ∧ Cond.initialized C ∈ eW ∧ wd ∈ eW ∧ y.cls = C ∧ y.cls ≠ "java/lang/invoke/MethodHandle" ∧ y.cls ≠ "java/lang/invoke/VarHandle" ∧ (parseMethodDescriptor y.desc).map (fun d => d.parameters.length) = some n
def eLS (own : String) (idx : Nat) (y : MethodName) (wd : Cond) (n : Nat) : Prop :=
  Cond.methodLink own idx y ∈ eW ∧ Cond.static y ∈ eW ∧ Cond.initialized y.cls ∈ eW ∧ wd ∈ eW ∧ y.cls ≠ "java/lang/invoke/MethodHandle" ∧ y.cls ≠ "java/lang/invoke/VarHandle" ∧ (parseMethodDescriptor y.desc).map (fun d => d.parameters.length) = some n
/-- a nest mate's private method (static, or a constructor) -/
def eLN (own : String) (idx : Nat) (y : MethodName) (wd : Cond) (n : Nat) (host : String) : Prop :=
  Cond.methodLinkNest own idx y host ∈ eX ∧ Cond.initialized y.cls ∈ eW ∧ wd ∈ eW ∧ y.cls ≠ "java/lang/invoke/MethodHandle" ∧ y.cls ≠ "java/lang/invoke/VarHandle" ∧ (parseMethodDescriptor y.desc).map (fun d => d.parameters.length) = some n
