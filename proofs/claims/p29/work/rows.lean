section
-- ===== PART A: goes FIRST, ahead of the names: the tables' words, and 'selects' of the private methods out of them =====
/-- a private method of a class that the tables say can be made, by its rows of tables_1 -/
def lw_okq (q : MethodName × Nat) : Prop := (q.1.cls ≠ "java/lang/invoke/MethodHandle" ∧ q.1.cls ≠ "java/lang/invoke/VarHandle") ∧ Cond.instantiable q.1.cls q.2 ∈ tables_1 ∧ Cond.privateMethod q.1 ∈ tables_1 ∧ Cond.instanceMethod q.1 ∈ tables_1
theorem lw_p0 : lw_okq (⟨"java/lang/Throwable", "fillInStackTrace", "(I)Ljava/lang/Throwable;"⟩, 6) := ⟨⟨by decide +kernel, by decide +kernel⟩, List.mem_of_getElem? (i := 346) (by decide +kernel), List.mem_of_getElem? (i := 344) (by decide +kernel), List.mem_of_getElem? (i := 345) (by decide +kernel)⟩
theorem lw_p1 : lw_okq (⟨"NameBenches", "requirePerson", "(I)V"⟩, 6) := ⟨⟨by decide +kernel, by decide +kernel⟩, List.mem_of_getElem? (i := 21) (by decide +kernel), List.mem_of_getElem? (i := 640) (by decide +kernel), List.mem_of_getElem? (i := 641) (by decide +kernel)⟩
theorem lw_p2 : lw_okq (⟨"NameBenches", "requireName", "(I)V"⟩, 6) := ⟨⟨by decide +kernel, by decide +kernel⟩, List.mem_of_getElem? (i := 21) (by decide +kernel), List.mem_of_getElem? (i := 668) (by decide +kernel), List.mem_of_getElem? (i := 669) (by decide +kernel)⟩
def lw_privs_1 : List (MethodName × Nat) := [(⟨"java/lang/Throwable", "fillInStackTrace", "(I)Ljava/lang/Throwable;"⟩, 6), (⟨"NameBenches", "requirePerson", "(I)V"⟩, 6), (⟨"NameBenches", "requireName", "(I)V"⟩, 6)]
theorem lw_r1 : ∀ q ∈ lw_privs_1, lw_okq q := List.forall_mem_cons.mpr ⟨lw_p0, List.forall_mem_cons.mpr ⟨lw_p1, List.forall_mem_cons.mpr ⟨lw_p2, fun _ h => absurd h List.not_mem_nil⟩⟩⟩
def lw_privs : List (MethodName × Nat) := lw_privs_1
def lw_tbl : List Cond := k2_sels lw_privs ++ tables_1
theorem lw_privs_ok : ∀ q ∈ lw_privs, lw_okq q := lw_r1
end
section
/-! ===== BEGIN words of one list among another's, by their places ===== -/
theorem goodIn_r {big : List Cond} (ws : List Cond) (ps : List Nat) (hp : ws = ps.filterMap (fun i => big[i]?)) (h : ws.all goodWord = true) : GoodIn big ws := by
  intro w hw
  have h1 := List.all_eq_true.mp h w hw
  rw [hp] at hw
  obtain ⟨i, -, hi⟩ := List.mem_filterMap.mp hw
  have hm : w ∈ big := by first | exact List.mem_of_getElem? hi | exact List.getElem?_mem hi
  exact ⟨hm, good_of_word h1⟩
theorem goodIn_app {big a b : List Cond} (ha : GoodIn big a) (hb : GoodIn big b) : GoodIn big (a ++ b) := fun w h => (List.mem_append.mp h).elim (ha w) (hb w)
theorem goodIn_ca {big a b : List Cond} {c : Cond} (ha : GoodIn big (c :: a)) (hb : GoodIn big b) : GoodIn big (c :: (a ++ b)) := fun w h => (List.mem_cons.mp h).elim (fun e => ha w (List.mem_cons.mpr (Or.inl e))) (fun h => (List.mem_append.mp h).elim (fun h => ha w (List.mem_cons.mpr (Or.inr h))) (hb w))
theorem goodIn_sub {big ws : List Cond} (hm : ∀ w ∈ ws, w ∈ big) (h : ws.all goodWord = true) : GoodIn big ws := fun w hw => ⟨hm w hw, good_of_word (List.all_eq_true.mp h w hw)⟩
/-! ===== END ===== -/

/-! ===== BEGIN exceptions that leave a method, and their catching by the caller (launches without stack traces) ===== -/
section VXA
/-! The laws vx_back, vx_callV, vx_callS, vx_callSW, vx_throw0, vx_throwS follow proofs of the library, with one case more: JvmDerived/Free/Laws.lean (Back.of_free), Shelf42/LK1.lean (callV, callS), Shelf/KitTraced.lean (throwNew0V, throwNewS). -/
/-- where a method has thrown q: the class by its name, the cell, what was written, the world -/
def vx_T (XC : String → State → State → Prop) (st : State) (q : Addr) (t : State) (mc ms : Nat) (free : Addr → Prop) : Prop :=
  ∃ (E : String) (ce : Cell) (L : List Loc), XC E st t ∧ t.heap[q]? = some ce ∧ ce.vm = .none ∧ st.vm.findClass E = some ce.cls ∧ st.WarmedH t.vm ∧ st.sameButNew ({ t with vm := st.vm } : State) L mc ms ∧ ∀ z ∈ L, free z.base
def vx_Q (Qc : Array Value → State → Outcome → State → Prop) (XC : String → State → State → Prop) (mc ms : Nat) (free : Addr → Prop) : Array Value → State → Outcome → State → Prop := fun a st o t =>
  (Qc a st o t ∧ ∃ L, FrameEnd st o t L mc ms ∧ ∀ q ∈ L, free q.base) ∨ ∃ q, o = .threw q ∧ vx_T XC st q t mc ms free
/-- a callee that returns or throws -/
def vx_Met (l : Launch) (y : MethodName) (ws : List Cond) (rm : Room) (Pc : Array Value → State → Prop) (Qc : Array Value → State → Outcome → State → Prop) (XC : String → State → State → Prop) (mc ms : Nat) (free : Addr → Prop) : Prop :=
  MetFree l y (headSpec ws rm) Pc (fun _ _ _ _ _ => True) (vx_Q Qc XC mc ms free)
def vx_Post (XC : String → State → State → Prop) (mc ms : Nat) (free : Addr → Prop) : Pt → Array Value → Addr → Pt → Prop := fun A a q B =>
  ∃ (g : JFrame) (mk : MethodId) (t : State) (L : List Loc) (E : String) (ce : Cell), B.U.heap = t.heap ∧ B.U.vm = t.vm ∧ XC E (A.U.calling g mk a) t ∧ t.heap[q]? = some ce ∧ ce.vm = .none ∧ A.U.vm.findClass E = some ce.cls ∧ B.locs = A.locs ++ L ∧ (∀ z ∈ L, free z.base) ∧ B.cells = A.cells + mc ∧ B.slots = A.slots + ms
def vx_Back (l : Launch) (R : Room) (p : Program) (e : Env) (below : List Frame) (s : State) (sargs : Array Value) (y : MethodName) (len W9 : Nat)
    (Pre : Pt → Array Value → Prop) (Post : Pt → Array Value → Option Value → Pt → Prop) (PostX : Pt → Array Value → Addr → Pt → Prop) : Prop :=
  ∀ (m : MethodId) (meth : Method) (c : Code) (A : Pt) (g : JFrame) (ig : Instr) (mk : MethodId) (a : Array Value),
    Stand p l e R s m sargs below meth c A.U A.locs A.cells A.slots → g.method = m → g.locals.size = c.maxLocals → decode c.code g.pc = .ok (ig, len) →
    2 * g.monitorRoom + (g.stack.map fun v => v.category).sum ≤ W9 → A.U.methodNamed? y = some mk → Pre A a →
    (∃ (v : Option Value) (B : Pt), Stand p l e R s m sargs below meth c B.U B.locs B.cells B.slots ∧ Post A a v B ∧
      Steps p.tables e below (doInvoke e (A.U.setTop g) [] mk a).1 (B.U.setTop { g with pc := g.pc + len, stack := v.toList ++ g.stack })) ∨
    (∃ (q : Addr) (B : Pt), Stand p l e R s m sargs below meth c B.U B.locs B.cells B.slots ∧ PostX A a q B ∧
      Steps p.tables e below (doInvoke e (A.U.setTop g) [] mk a).1 ((B.U.setTop g).pushFrame (.throwing q)))
section Payer
variable {l : Launch} {R : Room} {p : Program} {e : Env} {below : List Frame} {s : State} {sargs : Array Value} {y : MethodName} {len W9 : Nat}
theorem vx_back {ws : List Cond} {rm : Room} {Pc : Array Value → State → Prop} {Qc : Array Value → State → Outcome → State → Prop} {XC : String → State → State → Prop} {mc ms : Nat} {free : Addr → Prop} {bytes : ByteArray} {maxL : Nat} {ret : Option FieldType}
    (hM : vx_Met l y ws rm Pc Qc XC mc ms free) (hblind : FrameBlind Pc) (hrc : rm.cells = mc) (hrs : rm.slots = ms)
    (hframes : rm.frames + 1 ≤ R.frames) (hlocals : W9 + (maxL + 11) + rm.locals ≤ R.locals)
    (hws : ∀ w ∈ ws, ∀ a' U, s.WarmedH U.vm → w.before a' U = true) (hcode : Cond.code y bytes maxL ret ∈ ws) (hinit : ∀ a' U, s.WarmedH U.vm → (Cond.initialized y.cls).before a' U = true) :
    vx_Back l R p e below s sargs y len W9 (PreOf R mc ms Pc) (PostOf Qc mc ms free) (vx_Post XC mc ms free) := by
  intro m meth c A g ig mk a X hg hsize hdg hW hn hp
  have h1 : (headSpec ws rm).pre.before a A.U = true := atoms_intro fun w hw => hws w hw _ _ X.warmed
  have h2 : (Cond.code y bytes maxL ret).before a A.U = true := hws _ hcode _ _ X.warmed
  have h3 : (Cond.initialized y.cls).before a A.U = true := hinit _ _ X.warmed
  have h4 : A.cells + (headSpec ws rm).room.cells ≤ R.cells := by rw [show (headSpec ws rm).room.cells = mc from hrc]; exact hp.1
  have h5 : A.slots + (headSpec ws rm).room.slots ≤ R.slots := by rw [show (headSpec ws rm).room.slots = ms from hrs]; exact hp.2.1
  have hPc : Pc a (A.U.calling g mk a) := hblind _ _ _ _ hp.2.2
  obtain ⟨U, Ls, c0, s0⟩ := A
  dsimp only [Pt.U, Pt.locs, Pt.cells, Pt.slots] at h1 h2 h3 h4 h5 X hn hPc ⊢
  obtain ⟨methY, cY, hmY, hcY, -, hlY, -, -, -, -⟩ := Cond.code_spec hn h2
  obtain ⟨kY, hkY, -⟩ := className_of_methodNamed hn
  have hinitY : kY.init = .initialized := Cond.initialized_spec (findClass_of_methodNamed hn) hkY h3
  have h : At U g.method c below := by rw [hg]; exact X.here
  have hlocals9 : W9 + (maxL + 11) + (headSpec ws rm).room.locals ≤ R.locals := hlocals
  have happ : (headSpec ws rm).appliesLoose y e.platform (U.calling g mk a) = true :=
    Spec.appliesLoose_calling (g := g) h hdg hn hkY hinitY
      (X.room_calling (g := g) (R' := (headSpec ws rm).room) hsize hmY hcY hframes (by rw [hlY]; omega) h4 h5) h1
  obtain ⟨mid, hmid⟩ := h.above
  have hfr : (U.setTop g).frames = (.java g :: mid) ++ below := by rw [State.frames_setTop' g h.top, hmid]; rfl
  obtain ⟨o, s₂, hsteps, -, hend, hq⟩ := Steps.callFree hM p X.admits X.cas X.clock (acts := []) hfr happ hPc trivial
  have hq' : vx_Q Qc XC mc ms free a (U.calling g mk a) o s₂ := hq
  rw [State.frames_setTop' g h.top] at hend
  obtain ⟨g₀, hg0⟩ := Option.isSome_iff_exists.mp h.top
  obtain ⟨r, hr⟩ := State.topJava?_eq_some.mp hg0
  have hr' : (({ U with heap := s₂.heap, slotsUsed := s₂.slotsUsed } : State).setVm s₂.vm).frames = .java g₀ :: r := hr
  rcases hq' with ⟨hqc, L, hfe, hL⟩ | ⟨q, rfl, E, ce, L, hx, hce, hcv, hcl, hW₂, hsm, hL⟩
  · obtain ⟨⟨v, rfl⟩, hW₂, e2, q2, q3, q4, q5, q6⟩ := id hfe
    have e3 : s₂ = ({ (U.calling g mk a).setFrames s₂.frames with heap := s₂.heap, slotsUsed := s₂.slotsUsed } : State).setVm s₂.vm := by
      have : s₂ = ({ s₂ with vm := (U.calling g mk a).vm } : State).setVm s₂.vm := rfl
      rw [e2] at this
      exact this
    obtain ⟨c₂, i₂, len₂, hc₂, hd₂, hf₂⟩ := hend
    have hW' : U.WarmedH s₂.vm := hW₂
    have hcc : c₂ = c := by
      have h1 : s₂.code? g.method = U.code? g.method := by
        rw [State.code?_eq, State.code?_eq, hW'.alike.method?]
      exact Option.some.inj (hc₂.symm.trans (h1.trans h.code))
    subst hcc
    have hlen : len₂ = len := by rw [hdg] at hd₂; cases hd₂; rfl
    subst hlen
    have hs₂ : s₂ = (({ U with heap := s₂.heap, slotsUsed := s₂.slotsUsed } : State).setVm s₂.vm).setTop { g with pc := g.pc + len₂, stack := v.toList ++ g.stack } := by
      refine e3.trans ?_
      rw [hf₂, State.calling_eq h.top, State.setFrames_setFrames, State.setTop_of_frames _ hr', hr]
      rfl
    have hsame : U.sameButNew ({ U with heap := s₂.heap, slotsUsed := s₂.slotsUsed } : State) L mc ms := by
      refine ⟨?_, q2, q3, q4, q5, q6⟩
      obtain ⟨t, ht, -⟩ := State.frames_cons hr
      show ({ U with heap := s₂.heap, slotsUsed := s₂.slotsUsed } : State) = { U.setFrames U.frames with heap := s₂.heap, slotsUsed := s₂.slotsUsed }
      rw [State.setFrames_self ht]
    subst hg
    refine Or.inl ⟨v, ⟨(({ U with heap := s₂.heap, slotsUsed := s₂.slotsUsed } : State).setVm s₂.vm), Ls ++ L, c0 + mc, s0 + ms⟩,
      ⟨X.admits, X.cas, X.clock, X.frames, X.room, X.hears, X.method, X.code, (X.here.setHeapUsed s₂.heap s₂.slotsUsed).setVm hW'.alike, X.tail, State.WarmedH.trans X.warmed hW', X.limits, X.bytes, X.same.trans (hsame.setVm s.vm)⟩,
      ⟨g, mk, s₂, L, rfl, rfl, hqc, rfl, hL, rfl, rfl⟩, ?_⟩
    show Steps p.tables e below _ ((({ U with heap := s₂.heap, slotsUsed := s₂.slotsUsed } : State).setVm s₂.vm).setTop { g with pc := g.pc + len₂, stack := v.toList ++ g.stack })
    rw [← hs₂]
    exact hsteps
  · obtain ⟨e2, q2, q3, q4, q5, q6⟩ := id hsm
    have e3 : s₂ = ({ (U.calling g mk a).setFrames s₂.frames with heap := s₂.heap, slotsUsed := s₂.slotsUsed } : State).setVm s₂.vm := by
      have : s₂ = ({ s₂ with vm := (U.calling g mk a).vm } : State).setVm s₂.vm := rfl
      rw [e2] at this
      exact this
    have hf₂ : s₂.frames = .throwing q :: .java g :: U.frames.tail := hend
    have hW' : U.WarmedH s₂.vm := hW₂
    have hs₂ : s₂ = ((({ U with heap := s₂.heap, slotsUsed := s₂.slotsUsed } : State).setVm s₂.vm).setTop g).pushFrame (.throwing q) := by
      refine e3.trans ?_
      rw [hf₂, State.calling_eq h.top, State.setFrames_setFrames, State.pushFrame, State.frames_setTop _ hr', State.setTop_of_frames _ hr', State.setFrames_setFrames, hr]
      rfl
    have hsame : U.sameButNew ({ U with heap := s₂.heap, slotsUsed := s₂.slotsUsed } : State) L mc ms := by
      refine ⟨?_, q2, q3, q4, q5, q6⟩
      obtain ⟨t, ht, -⟩ := State.frames_cons hr
      show ({ U with heap := s₂.heap, slotsUsed := s₂.slotsUsed } : State) = { U.setFrames U.frames with heap := s₂.heap, slotsUsed := s₂.slotsUsed }
      rw [State.setFrames_self ht]
    subst hg
    refine Or.inr ⟨q, ⟨(({ U with heap := s₂.heap, slotsUsed := s₂.slotsUsed } : State).setVm s₂.vm), Ls ++ L, c0 + mc, s0 + ms⟩,
      ⟨X.admits, X.cas, X.clock, X.frames, X.room, X.hears, X.method, X.code, (X.here.setHeapUsed s₂.heap s₂.slotsUsed).setVm hW'.alike, X.tail, State.WarmedH.trans X.warmed hW', X.limits, X.bytes, X.same.trans (hsame.setVm s.vm)⟩,
      ⟨g, mk, s₂, L, E, ce, rfl, rfl, hx, hce, hcv, hcl, rfl, hL, rfl, rfl⟩, ?_⟩
    show Steps p.tables e below _ (((({ U with heap := s₂.heap, slotsUsed := s₂.slotsUsed } : State).setVm s₂.vm).setTop g).pushFrame (.throwing q))
    rw [← hs₂]
    exact hsteps
end Payer
section Calls
variable {p : Program} {l : Launch} {e : Env} {R : Room} {s : State} {m : MethodId} {args : Array Value} {below : List Frame} {meth : Method} {c : Code} {T : State} {locs : List Loc} {cells slots : Nat}
theorem vx_callV (X : Stand p l e R s m args below meth c T locs cells slots) (hexec : p.tables.exec = Jvm.exec) {own C : String} {index : Nat} {y : MethodName} {bytes : ByteArray} {maxL : Nat} {ret : Option FieldType}
    (hown : s.vm.findClass own = some m.cls) (hlink : (Cond.methodLink own index y).before args s = true) (hinst : (Cond.instanceMethod y).before args s = true) (hsel : (Cond.selects C y y).before args s = true)
    (hcode : (Cond.code y bytes maxL ret).before args s = true) (hy : y.cls ≠ "java/lang/invoke/MethodHandle" ∧ y.cls ≠ "java/lang/invoke/VarHandle")
    {W9 : Nat} {Pre : Pt → Array Value → Prop} {Post : Pt → Array Value → Option Value → Pt → Prop} {PostX : Pt → Array Value → Addr → Pt → Prop} (hK : vx_Back l R p e below s args y 3 W9 Pre Post PostX)
    {b : Addr} {cellB : Cell} (hcell : T.heap[b]? = some cellB) (hobj : cellB.vm.isStatics = false) (hcls : s.vm.findClass C = some cellB.cls)
    {g : JFrame} (hg : g.method = m) (hsize : g.locals.size = c.maxLocals) {argsL rest : List Value} (hlen : ∀ sig, parseMethodDescriptor y.desc = some sig → argsL.length = sig.parameters.length)
    (hstack : g.stack = argsL.reverse ++ .ref b :: rest) (hW : 2 * g.monitorRoom + (rest.map fun v => v.category).sum ≤ W9) (hdg : decode c.code g.pc = .ok (.invokevirtual index, 3))
    (hpre : ∀ vm₁, s.WarmedH vm₁ → Pre ⟨T.setVm vm₁, locs, cells, slots⟩ (Value.ref b :: argsL).toArray) :
    (∃ (v : Option Value) (vm₁ : Vm) (B : Pt), s.WarmedH vm₁ ∧ Stand p l e R s m args below meth c B.U B.locs B.cells B.slots ∧ Post ⟨T.setVm vm₁, locs, cells, slots⟩ (Value.ref b :: argsL).toArray v B ∧
      ∀ target, Steps p.tables e below (B.U.setTop { g with pc := g.pc + 3, stack := v.toList ++ rest }) target → Steps p.tables e below (T.setTop g) target) ∨
    (∃ (q : Addr) (vm₁ : Vm) (B : Pt), s.WarmedH vm₁ ∧ Stand p l e R s m args below meth c B.U B.locs B.cells B.slots ∧ PostX ⟨T.setVm vm₁, locs, cells, slots⟩ (Value.ref b :: argsL).toArray q B ∧
      Steps p.tables e below (T.setTop g) ((B.U.setTop { g with stack := rest }).pushFrame (.throwing q))) := by
  obtain ⟨mk, methM, hnamed, hmethM, hstM, habM⟩ := Cond.instanceMethod_spec hinst
  obtain ⟨methM', cM, hmethM', -, -, -, -, -, -, hsigM⟩ := Cond.code_spec hnamed hcode
  cases hmethM.symm.trans hmethM'
  obtain ⟨c2, r2, m2, q1, q2, q3, q4, kP, hkP, hkPi⟩ := Cond.selects_spec hsel
  cases hcls.symm.trans q1
  cases (State.methodFound?_of_named hnamed hy).symm.trans q2
  cases hnamed.symm.trans q3
  have hselP : selectMethod e.platform s.vm cellB.cls mk = .method mk := by rw [Launch.admits_selectMethod X.admits]; exact q4
  obtain ⟨vm₁, X₁, hstep₁⟩ := X.invokevirtual hexec hown hlink hnamed hmethM hstM hkP hkPi hy (a := b) (cell := cellB) hcell
    (fun z h => by rw [h] at hobj; cases hobj) hselP hmethM habM hkP hkPi (g := g) hg (argsL := argsL) (rest := rest) (hlen _ hsigM) hstack hdg
  rcases hK m meth c ⟨T.setVm vm₁, locs, cells, slots⟩ { g with stack := rest } (.invokevirtual index) mk (Value.ref b :: argsL).toArray X₁ hg hsize hdg hW (X₁.named hnamed) (hpre vm₁ X₁.warmed) with ⟨v, B, X', hpost, hsteps⟩ | ⟨q, B, X', hpost, hsteps⟩
  · exact Or.inl ⟨v, vm₁, B, X₁.warmed, X', hpost, fun target h => hstep₁ _ fun acts => by rw [doInvoke_state]; exact hsteps.trans h⟩
  · exact Or.inr ⟨q, vm₁, B, X₁.warmed, X', hpost, hstep₁ _ fun acts => by rw [doInvoke_state]; exact hsteps⟩
theorem vx_callS (X : Stand p l e R s m args below meth c T locs cells slots) (hexec : p.tables.exec = Jvm.exec) {own : String} {index : Nat} {y : MethodName} {bytes : ByteArray} {maxL : Nat} {ret : Option FieldType}
    (hown : s.vm.findClass own = some m.cls) (hlink : (Cond.methodLink own index y).before args s = true) (hstat : (Cond.static y).before args s = true) (hinit : (Cond.initialized y.cls).before args s = true)
    (hcode : (Cond.code y bytes maxL ret).before args s = true) (hy : y.cls ≠ "java/lang/invoke/MethodHandle" ∧ y.cls ≠ "java/lang/invoke/VarHandle")
    {W9 : Nat} {Pre : Pt → Array Value → Prop} {Post : Pt → Array Value → Option Value → Pt → Prop} {PostX : Pt → Array Value → Addr → Pt → Prop} (hK : vx_Back l R p e below s args y 3 W9 Pre Post PostX)
    {g : JFrame} (hg : g.method = m) (hsize : g.locals.size = c.maxLocals) {argsL rest : List Value} (hlen : ∀ sig, parseMethodDescriptor y.desc = some sig → argsL.length = sig.parameters.length)
    (hstack : g.stack = argsL.reverse ++ rest) (hW : 2 * g.monitorRoom + (rest.map fun v => v.category).sum ≤ W9) (hdg : decode c.code g.pc = .ok (.invokestatic index, 3))
    (hpre : ∀ vm₁, s.WarmedH vm₁ → Pre ⟨T.setVm vm₁, locs, cells, slots⟩ argsL.toArray) :
    (∃ (v : Option Value) (vm₁ : Vm) (B : Pt), s.WarmedH vm₁ ∧ Stand p l e R s m args below meth c B.U B.locs B.cells B.slots ∧ Post ⟨T.setVm vm₁, locs, cells, slots⟩ argsL.toArray v B ∧
      ∀ target, Steps p.tables e below (B.U.setTop { g with pc := g.pc + 3, stack := v.toList ++ rest }) target → Steps p.tables e below (T.setTop g) target) ∨
    (∃ (q : Addr) (vm₁ : Vm) (B : Pt), s.WarmedH vm₁ ∧ Stand p l e R s m args below meth c B.U B.locs B.cells B.slots ∧ PostX ⟨T.setVm vm₁, locs, cells, slots⟩ argsL.toArray q B ∧
      Steps p.tables e below (T.setTop g) ((B.U.setTop { g with stack := rest }).pushFrame (.throwing q))) := by
  obtain ⟨mk, hnamed⟩ := Cond.code_named hcode
  obtain ⟨methM, cM, hmethM, -, -, -, -, -, -, hsigM⟩ := Cond.code_spec hnamed hcode
  have hstatic : methM.isStatic = true := Cond.static_spec hnamed hmethM hstat
  obtain ⟨kP, hkP, -⟩ := className_of_methodNamed hnamed
  have hinitP : kP.init = .initialized := Cond.initialized_spec (findClass_of_methodNamed hnamed) hkP hinit
  obtain ⟨vm₁, X₁, hstep₁⟩ := X.invokestatic hexec hown hlink hnamed hmethM hstatic hkP hinitP hy (g := g) hg (argsL := argsL) (rest := rest) (hlen _ hsigM) hstack hdg
  rcases hK m meth c ⟨T.setVm vm₁, locs, cells, slots⟩ { g with stack := rest } (.invokestatic index) mk argsL.toArray X₁ hg hsize hdg hW (X₁.named hnamed) (hpre vm₁ X₁.warmed) with ⟨v, B, X', hpost, hsteps⟩ | ⟨q, B, X', hpost, hsteps⟩
  · exact Or.inl ⟨v, vm₁, B, X₁.warmed, X', hpost, fun target h => hstep₁ _ fun acts => by rw [doInvoke_state]; exact hsteps.trans h⟩
  · exact Or.inr ⟨q, vm₁, B, X₁.warmed, X', hpost, hstep₁ _ fun acts => by rw [doInvoke_state]; exact hsteps⟩
end Calls
theorem vx_cls {s : State} {T : State} {vm₁ : Vm} {E : String} {k : ClassId} (hW : s.WarmedH vm₁) (h : (T.setVm vm₁).vm.findClass E = some k) : s.vm.findClass E = some k := by
  have h1 : vm₁.findClass E = some k := h
  rw [hW.alike.findClass] at h1
  exact h1
/-- the method's frame g, with q thrown over it -/
def vx_W (p : Program) (l : Launch) (e : Env) (R : Room) (s : State) (m : MethodId) (args : Array Value) (below : List Frame) (meth : Method) (c : Code) (H : Heap) (locs : List Loc) (cells slots : Nat) (Q : State → Prop) (g : JFrame) (q : Addr) : Prop :=
  ∀ T : State, T.heap = H → Stand p l e R s m args below meth c T locs cells slots → ∃ t, Steps p.tables e below ((T.setTop g).pushFrame (.throwing q)) t ∧ Q t
def vx_Run (p : Program) (l : Launch) (e : Env) (R : Room) (s : State) (m : MethodId) (args : Array Value) (below : List Frame) (meth : Method) (c : Code) (H : Heap) (locs : List Loc) (cells slots mc ms : Nat) (g : JFrame) (rest : List Value) (Qa : State → Outcome → State → Prop) (XC : String → State → State → Prop) (free : Addr → Prop) : Prop :=
  ∀ T : State, T.heap = H → Stand p l e R s m args below meth c T locs cells slots →
    (∃ (v : Option Value) (st₀ t T' : State) (L : List Loc), st₀.heap = H ∧ Stand p l e R s m args below meth c T' (locs ++ L) (cells + mc) (slots + ms) ∧ (∀ q ∈ L, free q.base) ∧ T'.heap = t.heap ∧ T'.vm = t.vm ∧ Qa st₀ (.returned v) t ∧
      Goes p e below T g T' { g with pc := g.pc + 3, stack := v.toList ++ rest }) ∨
    (∃ (q : Addr) (st₀ t T' : State) (L : List Loc) (E : String) (ce : Cell), st₀.heap = H ∧ Stand p l e R s m args below meth c T' (locs ++ L) (cells + mc) (slots + ms) ∧ (∀ z ∈ L, free z.base) ∧ T'.heap = t.heap ∧ T'.vm = t.vm ∧ XC E st₀ t ∧ t.heap[q]? = some ce ∧ ce.vm = .none ∧ s.vm.findClass E = some ce.cls ∧
      Steps p.tables e below (T.setTop g) ((T'.setTop { g with stack := rest }).pushFrame (.throwing q)))
def vx_X {S : Type} (px : S → Prop) (B : String → S → State → Prop) (A : Nat → Prop) : String → State → State → Prop := fun E st t => ∃ u : S, px u ∧ B E u t ∧ va_F A st t
section Runs
variable {p : Program} {l : Launch} {e : Env} {R : Room} {s : State} {m : MethodId} {args : Array Value} {below : List Frame} {meth : Method} {c : Code} {H : Heap} {locs : List Loc} {cells slots : Nat}
variable {y : MethodName} {bytes cc : ByteArray} {maxL nL mc ms n index : Nat} {ret : Option FieldType} {ws : List Cond} {rm : Room} {Pc : Array Value → State → Prop} {Qc : Array Value → State → Outcome → State → Prop} {XC : String → State → State → Prop} {free : Addr → Prop} {Ts : List Cond} {own C : String} {b : Addr} {As rest : List Value} {g : JFrame}
theorem vx_callBack (cb : CallB R s args own index y bytes maxL ret ws rm mc ms n) (hM : vx_Met l y ws rm Pc Qc XC mc ms free) (hbl : FrameBlind Pc) : vx_Back l R p e below s args y 3 8 (PreOf R mc ms Pc) (PostOf Qc mc ms free) (vx_Post XC mc ms free) := by
  obtain ⟨hrc, hrs, hfr, hlo, hws, hcw, -, hini, -⟩ := cb
  exact vx_back (bytes := bytes) (maxL := maxL) (ret := ret) hM hbl hrc hrs hfr hlo hws hcw (fun a' U hW => word_at hW (Or.inl (by first | rfl | simp [Cond.onTables, Cond.keeps, Cond.steady])) hini)
theorem vx_runV (S : CallFix p m c cc nL s args Ts own) (hM : vx_Met l y ws rm Pc Qc XC mc ms free) (cw : CallW R s args own C index y bytes maxL ret ws rm mc ms n) (hp : PreV s H C b Pc As)
    (hg : g.method = m) (hn : As.length = n) (hsize : g.locals.size = nL) (hstack : g.stack = As.reverse ++ .ref b :: rest) (hW : 2 * g.monitorRoom + (rest.map fun v => v.category).sum ≤ 8) (hdg : decode cc g.pc = .ok (.invokevirtual index, 3)) (hf : cells + mc ≤ R.cells ∧ slots + ms ≤ R.slots) :
    vx_Run p l e R s m args below meth c H locs cells slots mc ms g rest (Qc (Value.ref b :: As).toArray) XC free := by
  have hK : vx_Back l R p e below s args y 3 8 (PreOf R mc ms Pc) (PostOf Qc mc ms free) (vx_Post XC mc ms free) := vx_callBack cw.1 hM hp.1
  obtain ⟨⟨-, -, -, -, -, -, hcode, -, hy, hlen, hl⟩, hin, hse⟩ := cw
  obtain ⟨hx, hb, hml, ho, -⟩ := S
  obtain ⟨-, ⟨cellB, hcB, hoB, hclB⟩, hPc⟩ := hp
  intro T hT X
  rcases vx_callV X hx (C := C) (bytes := bytes) (maxL := maxL) (ret := ret) ho hl hin hse hcode hy hK (by rw [hT]; exact hcB) hoB hclB hg (hsize.trans hml.symm) (argsL := As) (rest := rest) (fun sig h => hn.trans (hlen sig h)) hstack hW (by rw [hb]; exact hdg)
    (fun vm₁ hW₁ => ⟨hf.1, hf.2, hPc (T.setVm vm₁) hT hW₁⟩) with ⟨v, vm₁, ⟨U', l2, c2, s2⟩, hW₁, X', ⟨g', mk, t, L, e1, e2, hq, h1, hL, h2, h3⟩, st⟩ | ⟨q, vm₁, ⟨U', l2, c2, s2⟩, hW₁, X', ⟨g', mk, t, L, E, ce, e1, e2, hq, hce, hcv, hcl, h1, hL, h2, h3⟩, st⟩
  · dsimp only [Pt.U, Pt.locs, Pt.cells, Pt.slots] at X' e1 e2 h1 h2 h3 st
    subst h1; subst h2; subst h3
    exact Or.inl ⟨v, (T.setVm vm₁).calling g' mk (Value.ref b :: As).toArray, t, U', L, hT, X', hL, e1, e2, hq, st⟩
  · dsimp only [Pt.U, Pt.locs, Pt.cells, Pt.slots] at X' e1 e2 h1 h2 h3 st hcl
    subst h1; subst h2; subst h3
    exact Or.inr ⟨q, (T.setVm vm₁).calling g' mk (Value.ref b :: As).toArray, t, U', L, E, ce, hT, X', hL, e1, e2, hq, hce, hcv, vx_cls hW₁ hcl, st⟩
theorem vx_runS (S : CallFix p m c cc nL s args Ts own) (hM : vx_Met l y ws rm Pc Qc XC mc ms free) (cw : CallB R s args own index y bytes maxL ret ws rm mc ms n ∧ (Cond.static y).before args s = true) (hp : PreS s H Pc As)
    (hg : g.method = m) (hn : As.length = n) (hsize : g.locals.size = nL) (hstack : g.stack = As.reverse ++ rest) (hW : 2 * g.monitorRoom + (rest.map fun v => v.category).sum ≤ 8) (hdg : decode cc g.pc = .ok (.invokestatic index, 3)) (hf : cells + mc ≤ R.cells ∧ slots + ms ≤ R.slots) :
    vx_Run p l e R s m args below meth c H locs cells slots mc ms g rest (Qc As.toArray) XC free := by
  have hK : vx_Back l R p e below s args y 3 8 (PreOf R mc ms Pc) (PostOf Qc mc ms free) (vx_Post XC mc ms free) := vx_callBack cw.1 hM hp.1
  obtain ⟨⟨-, -, -, -, -, -, hcode, hini, hy, hlen, hl⟩, hstt⟩ := cw
  obtain ⟨hx, hb, hml, ho, -⟩ := S
  intro T hT X
  rcases vx_callS X hx (bytes := bytes) (maxL := maxL) (ret := ret) ho hl hstt hini hcode hy hK hg (hsize.trans hml.symm) (argsL := As) (rest := rest) (fun sig h => hn.trans (hlen sig h)) hstack hW (by rw [hb]; exact hdg)
    (fun vm₁ hW₁ => ⟨hf.1, hf.2, hp.2 (T.setVm vm₁) hT hW₁⟩) with ⟨v, vm₁, ⟨U', l2, c2, s2⟩, hW₁, X', ⟨g', mk, t, L, e1, e2, hq, h1, hL, h2, h3⟩, st⟩ | ⟨q, vm₁, ⟨U', l2, c2, s2⟩, hW₁, X', ⟨g', mk, t, L, E, ce, e1, e2, hq, hce, hcv, hcl, h1, hL, h2, h3⟩, st⟩
  · dsimp only [Pt.U, Pt.locs, Pt.cells, Pt.slots] at X' e1 e2 h1 h2 h3 st
    subst h1; subst h2; subst h3
    exact Or.inl ⟨v, (T.setVm vm₁).calling g' mk As.toArray, t, U', L, hT, X', hL, e1, e2, hq, st⟩
  · dsimp only [Pt.U, Pt.locs, Pt.cells, Pt.slots] at X' e1 e2 h1 h2 h3 st hcl
    subst h1; subst h2; subst h3
    exact Or.inr ⟨q, (T.setVm vm₁).calling g' mk As.toArray, t, U', L, E, ce, hT, X', hL, e1, e2, hq, hce, hcv, vx_cls hW₁ hcl, st⟩
end Runs
section Rows
variable {p : Program} {l : Launch} {e : Env} {R : Room} {s : State} {m : MethodId} {args : Array Value} {below : List Frame} {meth : Method} {c : Code} {H : Heap} {locs : List Loc} {cells slots : Nat} {Q : State → Prop}
variable {mc ms : Nat} {free : Addr → Prop} {A0 A1 : Nat → Prop} {H0 : Heap} {a : Array Value} {pc : Nat} {ls : Array Slot} {st0 rest : List Value}
theorem vx_keep {st₀ t T' : State} {L : List Loc} (h0 : st₀.heap = H) (e1 : T'.heap = t.heap) (hS : va_S A0 H0 H locs) (hA : ∀ q, q < H.size → A1 q → A0 q) (hf : ∀ q, free q → A0 q) (hL : ∀ q ∈ L, free q.base) (hF : va_F A1 st₀ t) :
    H.size ≤ T'.heap.size ∧ (∀ q : Nat, q < H.size → ¬ A1 q → T'.heap[q]? = H[q]?) ∧ va_S A0 H0 T'.heap (locs ++ L) := by
  obtain ⟨hz, hk⟩ := hF
  rw [h0] at hz hk
  exact ⟨by rw [e1]; exact hz, fun q h1 h2 => by rw [e1]; exact hk q h1 h2,
    ⟨Nat.le_trans hS.1 (by rw [e1]; exact hz), fun q h1 h2 => by rw [e1, hk q (Nat.lt_of_lt_of_le h1 hS.1) (fun z => h2 (hA q (Nat.lt_of_lt_of_le h1 hS.1) z))]; exact hS.2.1 q h1 h2, fun q hq => by
      rcases List.mem_append.mp hq with h | h
      · exact hS.2.2 q h
      · exact hf _ (hL q h)⟩⟩
theorem vx_calli {S SX : Type} {post : Int32 → S → Prop} {px : SX → Prop} {B : S → State → Prop} {BX : String → SX → State → Prop} {AX : Nat → Prop} (hr : vx_Run p l e R s m args below meth c H locs cells slots mc ms (F0 m pc ls st0) rest (va_Qi post B A1 a) (vx_X px BX AX) free) (hS : va_S A0 H0 H locs) (hA : ∀ q, q < H.size → A1 q → A0 q) (hf : ∀ q, free q → A0 q) (hAX : ∀ q, q < H.size → AX q → A0 q)
    (kx : ∀ (E : String) (ce : Cell) (q9 : Addr) (u : SX) (t : State) (H1 : Heap) (locs1 : List Loc), t.heap = H1 → s.vm.Alike t.vm → px u → BX E u t → H.size ≤ H1.size → (∀ q : Nat, q < H.size → ¬ AX q → H1[q]? = H[q]?) → va_S A0 H0 H1 locs1 → H1[q9]? = some ce → ce.vm = .none → s.vm.findClass E = some ce.cls → vx_W p l e R s m args below meth c H1 locs1 (cells + mc) (slots + ms) Q (F0 m pc ls rest) q9)
    (kk : ∀ (r : Int32) (u : S) (t : State) (H1 : Heap) (locs1 : List Loc), t.heap = H1 → s.vm.Alike t.vm → post r u → B u t → H.size ≤ H1.size → (∀ q : Nat, q < H.size → ¬ A1 q → H1[q]? = H[q]?) → va_S A0 H0 H1 locs1 → W p l e R s m args below meth c H1 locs1 (cells + mc) (slots + ms) Q (F0 m (pc + 3) ls (.int r :: rest))) : W p l e R s m args below meth c H locs cells slots Q (F0 m pc ls st0) := by
  intro T hT X
  rcases hr T hT X with ⟨v, st₀, t, T', L, h0, X', hL, e1, e2, ⟨⟨r, u, hv, hp, hb⟩, hF⟩, st⟩ | ⟨q, st₀, t, T', L, E, ce, h0, X', hL, e1, e2, ⟨u, hp, hb, hF⟩, hce, hcv, hcl, st⟩
  · cases hv
    obtain ⟨k1, k2, k3⟩ := vx_keep h0 e1 hS hA hf hL hF
    obtain ⟨t2, a1, b1⟩ := kk r u t T'.heap (locs ++ L) e1.symm (by rw [← e2]; exact X'.warmed.alike) hp hb k1 k2 k3 T' rfl X'
    exact ⟨t2, st t2 a1, b1⟩
  · obtain ⟨k1, k2, k3⟩ := vx_keep h0 e1 hS hAX hf hL hF
    obtain ⟨t2, a1, b1⟩ := kx E ce q u t T'.heap (locs ++ L) e1.symm (by rw [← e2]; exact X'.warmed.alike) hp hb k1 k2 k3 (by rw [e1]; exact hce) hcv hcl T' rfl X'
    exact ⟨t2, st.trans a1, b1⟩
theorem vx_calll {S SX : Type} {post : Int64 → S → Prop} {px : SX → Prop} {B : S → State → Prop} {BX : String → SX → State → Prop} {AX : Nat → Prop} (hr : vx_Run p l e R s m args below meth c H locs cells slots mc ms (F0 m pc ls st0) rest (va_Ql post B A1 a) (vx_X px BX AX) free) (hS : va_S A0 H0 H locs) (hA : ∀ q, q < H.size → A1 q → A0 q) (hf : ∀ q, free q → A0 q) (hAX : ∀ q, q < H.size → AX q → A0 q)
    (kx : ∀ (E : String) (ce : Cell) (q9 : Addr) (u : SX) (t : State) (H1 : Heap) (locs1 : List Loc), t.heap = H1 → s.vm.Alike t.vm → px u → BX E u t → H.size ≤ H1.size → (∀ q : Nat, q < H.size → ¬ AX q → H1[q]? = H[q]?) → va_S A0 H0 H1 locs1 → H1[q9]? = some ce → ce.vm = .none → s.vm.findClass E = some ce.cls → vx_W p l e R s m args below meth c H1 locs1 (cells + mc) (slots + ms) Q (F0 m pc ls rest) q9)
    (kk : ∀ (r : Int64) (u : S) (t : State) (H1 : Heap) (locs1 : List Loc), t.heap = H1 → s.vm.Alike t.vm → post r u → B u t → H.size ≤ H1.size → (∀ q : Nat, q < H.size → ¬ A1 q → H1[q]? = H[q]?) → va_S A0 H0 H1 locs1 → W p l e R s m args below meth c H1 locs1 (cells + mc) (slots + ms) Q (F0 m (pc + 3) ls (.long r :: rest))) : W p l e R s m args below meth c H locs cells slots Q (F0 m pc ls st0) := by
  intro T hT X
  rcases hr T hT X with ⟨v, st₀, t, T', L, h0, X', hL, e1, e2, ⟨⟨r, u, hv, hp, hb⟩, hF⟩, st⟩ | ⟨q, st₀, t, T', L, E, ce, h0, X', hL, e1, e2, ⟨u, hp, hb, hF⟩, hce, hcv, hcl, st⟩
  · cases hv
    obtain ⟨k1, k2, k3⟩ := vx_keep h0 e1 hS hA hf hL hF
    obtain ⟨t2, a1, b1⟩ := kk r u t T'.heap (locs ++ L) e1.symm (by rw [← e2]; exact X'.warmed.alike) hp hb k1 k2 k3 T' rfl X'
    exact ⟨t2, st t2 a1, b1⟩
  · obtain ⟨k1, k2, k3⟩ := vx_keep h0 e1 hS hAX hf hL hF
    obtain ⟨t2, a1, b1⟩ := kx E ce q u t T'.heap (locs ++ L) e1.symm (by rw [← e2]; exact X'.warmed.alike) hp hb k1 k2 k3 (by rw [e1]; exact hce) hcv hcl T' rfl X'
    exact ⟨t2, st.trans a1, b1⟩
theorem vx_callf {S SX : Type} {post : UInt32 → S → Prop} {px : SX → Prop} {B : S → State → Prop} {BX : String → SX → State → Prop} {AX : Nat → Prop} (hr : vx_Run p l e R s m args below meth c H locs cells slots mc ms (F0 m pc ls st0) rest (va_Qf post B A1 a) (vx_X px BX AX) free) (hS : va_S A0 H0 H locs) (hA : ∀ q, q < H.size → A1 q → A0 q) (hf : ∀ q, free q → A0 q) (hAX : ∀ q, q < H.size → AX q → A0 q)
    (kx : ∀ (E : String) (ce : Cell) (q9 : Addr) (u : SX) (t : State) (H1 : Heap) (locs1 : List Loc), t.heap = H1 → s.vm.Alike t.vm → px u → BX E u t → H.size ≤ H1.size → (∀ q : Nat, q < H.size → ¬ AX q → H1[q]? = H[q]?) → va_S A0 H0 H1 locs1 → H1[q9]? = some ce → ce.vm = .none → s.vm.findClass E = some ce.cls → vx_W p l e R s m args below meth c H1 locs1 (cells + mc) (slots + ms) Q (F0 m pc ls rest) q9)
    (kk : ∀ (r : UInt32) (u : S) (t : State) (H1 : Heap) (locs1 : List Loc), t.heap = H1 → s.vm.Alike t.vm → post r u → B u t → H.size ≤ H1.size → (∀ q : Nat, q < H.size → ¬ A1 q → H1[q]? = H[q]?) → va_S A0 H0 H1 locs1 → W p l e R s m args below meth c H1 locs1 (cells + mc) (slots + ms) Q (F0 m (pc + 3) ls (.float r :: rest))) : W p l e R s m args below meth c H locs cells slots Q (F0 m pc ls st0) := by
  intro T hT X
  rcases hr T hT X with ⟨v, st₀, t, T', L, h0, X', hL, e1, e2, ⟨⟨r, u, hv, hp, hb⟩, hF⟩, st⟩ | ⟨q, st₀, t, T', L, E, ce, h0, X', hL, e1, e2, ⟨u, hp, hb, hF⟩, hce, hcv, hcl, st⟩
  · cases hv
    obtain ⟨k1, k2, k3⟩ := vx_keep h0 e1 hS hA hf hL hF
    obtain ⟨t2, a1, b1⟩ := kk r u t T'.heap (locs ++ L) e1.symm (by rw [← e2]; exact X'.warmed.alike) hp hb k1 k2 k3 T' rfl X'
    exact ⟨t2, st t2 a1, b1⟩
  · obtain ⟨k1, k2, k3⟩ := vx_keep h0 e1 hS hAX hf hL hF
    obtain ⟨t2, a1, b1⟩ := kx E ce q u t T'.heap (locs ++ L) e1.symm (by rw [← e2]; exact X'.warmed.alike) hp hb k1 k2 k3 (by rw [e1]; exact hce) hcv hcl T' rfl X'
    exact ⟨t2, st.trans a1, b1⟩
theorem vx_calld {S SX : Type} {post : UInt64 → S → Prop} {px : SX → Prop} {B : S → State → Prop} {BX : String → SX → State → Prop} {AX : Nat → Prop} (hr : vx_Run p l e R s m args below meth c H locs cells slots mc ms (F0 m pc ls st0) rest (va_Qd post B A1 a) (vx_X px BX AX) free) (hS : va_S A0 H0 H locs) (hA : ∀ q, q < H.size → A1 q → A0 q) (hf : ∀ q, free q → A0 q) (hAX : ∀ q, q < H.size → AX q → A0 q)
    (kx : ∀ (E : String) (ce : Cell) (q9 : Addr) (u : SX) (t : State) (H1 : Heap) (locs1 : List Loc), t.heap = H1 → s.vm.Alike t.vm → px u → BX E u t → H.size ≤ H1.size → (∀ q : Nat, q < H.size → ¬ AX q → H1[q]? = H[q]?) → va_S A0 H0 H1 locs1 → H1[q9]? = some ce → ce.vm = .none → s.vm.findClass E = some ce.cls → vx_W p l e R s m args below meth c H1 locs1 (cells + mc) (slots + ms) Q (F0 m pc ls rest) q9)
    (kk : ∀ (r : UInt64) (u : S) (t : State) (H1 : Heap) (locs1 : List Loc), t.heap = H1 → s.vm.Alike t.vm → post r u → B u t → H.size ≤ H1.size → (∀ q : Nat, q < H.size → ¬ A1 q → H1[q]? = H[q]?) → va_S A0 H0 H1 locs1 → W p l e R s m args below meth c H1 locs1 (cells + mc) (slots + ms) Q (F0 m (pc + 3) ls (.double r :: rest))) : W p l e R s m args below meth c H locs cells slots Q (F0 m pc ls st0) := by
  intro T hT X
  rcases hr T hT X with ⟨v, st₀, t, T', L, h0, X', hL, e1, e2, ⟨⟨r, u, hv, hp, hb⟩, hF⟩, st⟩ | ⟨q, st₀, t, T', L, E, ce, h0, X', hL, e1, e2, ⟨u, hp, hb, hF⟩, hce, hcv, hcl, st⟩
  · cases hv
    obtain ⟨k1, k2, k3⟩ := vx_keep h0 e1 hS hA hf hL hF
    obtain ⟨t2, a1, b1⟩ := kk r u t T'.heap (locs ++ L) e1.symm (by rw [← e2]; exact X'.warmed.alike) hp hb k1 k2 k3 T' rfl X'
    exact ⟨t2, st t2 a1, b1⟩
  · obtain ⟨k1, k2, k3⟩ := vx_keep h0 e1 hS hAX hf hL hF
    obtain ⟨t2, a1, b1⟩ := kx E ce q u t T'.heap (locs ++ L) e1.symm (by rw [← e2]; exact X'.warmed.alike) hp hb k1 k2 k3 (by rw [e1]; exact hce) hcv hcl T' rfl X'
    exact ⟨t2, st.trans a1, b1⟩
theorem vx_callv {S SX : Type} {post : S → Prop} {px : SX → Prop} {B : S → State → Prop} {BX : String → SX → State → Prop} {AX : Nat → Prop} (hr : vx_Run p l e R s m args below meth c H locs cells slots mc ms (F0 m pc ls st0) rest (va_Qv post B A1 a) (vx_X px BX AX) free) (hS : va_S A0 H0 H locs) (hA : ∀ q, q < H.size → A1 q → A0 q) (hf : ∀ q, free q → A0 q) (hAX : ∀ q, q < H.size → AX q → A0 q)
    (kx : ∀ (E : String) (ce : Cell) (q9 : Addr) (u : SX) (t : State) (H1 : Heap) (locs1 : List Loc), t.heap = H1 → s.vm.Alike t.vm → px u → BX E u t → H.size ≤ H1.size → (∀ q : Nat, q < H.size → ¬ AX q → H1[q]? = H[q]?) → va_S A0 H0 H1 locs1 → H1[q9]? = some ce → ce.vm = .none → s.vm.findClass E = some ce.cls → vx_W p l e R s m args below meth c H1 locs1 (cells + mc) (slots + ms) Q (F0 m pc ls rest) q9)
    (kk : ∀ (u : S) (t : State) (H1 : Heap) (locs1 : List Loc), t.heap = H1 → s.vm.Alike t.vm → post u → B u t → H.size ≤ H1.size → (∀ q : Nat, q < H.size → ¬ A1 q → H1[q]? = H[q]?) → va_S A0 H0 H1 locs1 → W p l e R s m args below meth c H1 locs1 (cells + mc) (slots + ms) Q (F0 m (pc + 3) ls (rest))) : W p l e R s m args below meth c H locs cells slots Q (F0 m pc ls st0) := by
  intro T hT X
  rcases hr T hT X with ⟨v, st₀, t, T', L, h0, X', hL, e1, e2, ⟨⟨u, hv, hp, hb⟩, hF⟩, st⟩ | ⟨q, st₀, t, T', L, E, ce, h0, X', hL, e1, e2, ⟨u, hp, hb, hF⟩, hce, hcv, hcl, st⟩
  · cases hv
    obtain ⟨k1, k2, k3⟩ := vx_keep h0 e1 hS hA hf hL hF
    obtain ⟨t2, a1, b1⟩ := kk u t T'.heap (locs ++ L) e1.symm (by rw [← e2]; exact X'.warmed.alike) hp hb k1 k2 k3 T' rfl X'
    exact ⟨t2, st t2 a1, b1⟩
  · obtain ⟨k1, k2, k3⟩ := vx_keep h0 e1 hS hAX hf hL hF
    obtain ⟨t2, a1, b1⟩ := kx E ce q u t T'.heap (locs ++ L) e1.symm (by rw [← e2]; exact X'.warmed.alike) hp hb k1 k2 k3 (by rw [e1]; exact hce) hcv hcl T' rfl X'
    exact ⟨t2, st.trans a1, b1⟩
/-- caught by the row x of this method's table; the rows ahead don't take it -/
theorem vx_catch {own name : String} {E : String} {ce : Cell} {q : Addr} (hown : s.vm.findClass own = some m.cls) (pre : List ExceptionTableEntry) (x : ExceptionTableEntry) (suf : List ExceptionTableEntry) (hsplit : c.exceptionTable.toList = pre ++ x :: suf)
    (hpass : ∀ z ∈ pre, covers z pc = false ∨ (z.catchType ≠ 0 ∧ ∃ nm : String, (Cond.classLink own z.catchType nm).before args s = true ∧ va_Nc E nm s)) (hx : covers x pc = true) (h0 : x.catchType ≠ 0)
    (hlink : (Cond.classLink own x.catchType name).before args s = true) (hcast : (Cond.castable E name).before args s = true) (hcell : H[q]? = some ce) (hv : ce.vm = .none) (hcl : s.vm.findClass E = some ce.cls)
    (kk : W p l e R s m args below meth c H locs cells slots Q (F0 m x.handlerPc ls [.ref q])) : vx_W p l e R s m args below meth c H locs cells slots Q (F0 m pc ls rest) q := by
  intro T hT X
  have hpl : e.platform.magicAccessors = ({} : Platform).magicAccessors := by rw [X.admits.platform]
  obtain ⟨c3, c4, hc3, hc4, hasg⟩ := Cond.castable_spec hcast
  cases Option.some.inj (hc3.symm.trans hcl)
  obtain ⟨c5, hc5, hcl5⟩ := Cond.classLink_spec hown hlink e.platform hpl
  cases Option.some.inj (hc4.symm.trans hc5)
  obtain ⟨vm', X', st⟩ := X.thenCaughtThrough q (g := F0 m pc ls rest) rfl (Steps.refl _) (by rw [hT]; exact hcell) (by rw [hv]; rfl) (by obtain ⟨k9, h9, -⟩ := Vm.findClass_spec hcl; exact ⟨k9, h9⟩) pre x suf hsplit
    (fun z hz => by
      rcases hpass z hz with h | ⟨hz0, nm, hl1, hn1⟩
      · exact Or.inl h
      · obtain ⟨c6, hc6, hcl6⟩ := Cond.classLink_spec hown hl1 e.platform hpl
        obtain ⟨a8, b8, h1, h2, h3⟩ := hn1
        cases Option.some.inj (h1.symm.trans hcl)
        cases Option.some.inj (h2.symm.trans hc6)
        exact Or.inr ⟨hz0, _, hcl6, h3⟩) hx (Or.inr ⟨h0, c4, hcl5, hasg⟩)
  obtain ⟨t, a1, b1⟩ := kk (T.setVm vm') hT X'
  exact ⟨t, st.trans a1, b1⟩
end Rows
section Ends
variable {p : Program} {l : Launch} {e : Env} {R : Room} {s : State} {m : MethodId} {args : Array Value} {below : List Frame} {meth : Method} {c : Code} {H : Heap} {locs : List Loc} {cells slots : Nat} {Q : State → Prop}
variable {mc ms : Nat} {free : Addr → Prop} {A0 A1 : Nat → Prop} {H0 : Heap} {a : Array Value} {ls : Array Slot} {st0 rest : List Value}
variable {Qc : Array Value → State → Outcome → State → Prop} {XC : String → State → State → Prop}
/-- what a body that may throw owes at its end -/
def vx_MQ (below : List Frame) (Qc : Array Value → State → Outcome → State → Prop) (XC : String → State → State → Prop) (a : Array Value) (s : State) (mc ms : Nat) (free : Addr → Prop) : State → Prop := fun t =>
  ∃ o, t.status = .running ∧ Ended t below o ∧ vx_Q Qc XC mc ms free a s o t
theorem vx_ret {g : JFrame} {mc ms : Nat} (k : W p l e R s m args below meth c H locs cells slots (MQ below Qc args s mc ms free) g) : W p l e R s m args below meth c H locs cells slots (vx_MQ below Qc XC args s mc ms free) g := by
  intro T hT X
  obtain ⟨t, a1, o, b1, b2, b3, b4⟩ := k T hT X
  exact ⟨t, a1, o, b1, b2, Or.inl ⟨b3, b4⟩⟩
/-- not caught here: it goes on to the caller -/
theorem vx_widen {g : JFrame} {q : Addr} {k n : Nat} (h1 : cells ≤ k) (h2 : slots ≤ n) (kk : vx_W p l e R s m args below meth c H locs k n Q g q) : vx_W p l e R s m args below meth c H locs cells slots Q g q := fun T hT X => kk T hT (stand_widen X h1 h2)
theorem vx_out {pc : Nat} {E : String} {ce : Cell} {q : Addr} {mc ms : Nat} (hout : ∀ x ∈ c.exceptionTable.toList, covers x pc = false) (hlocks : meth.locks = false) (hcell : H[q]? = some ce) (hv : ce.vm = .none) (hcl : s.vm.findClass E = some ce.cls)
    (hx : ∀ t : State, t.heap = H → s.vm.Alike t.vm → XC E s t) (hf : ∀ z ∈ locs, free z.base) (hc : cells ≤ mc) (hs : slots ≤ ms) :
    vx_W p l e R s m args below meth c H locs cells slots (vx_MQ below Qc XC args s mc ms free) (F0 m pc ls rest) q := by
  intro T hT X
  obtain ⟨st1, hrun, hend, hW, hsm⟩ := X.leaveThrown q (g := F0 m pc ls rest) rfl rfl rfl hout hlocks
  have hcell9 : (T.setFrames (.throwing q :: below)).heap[q]? = some ce := by
    show T.heap[q]? = some ce
    rw [hT]; exact hcell
  exact ⟨_, st1, .threw q, hrun, hend, Or.inr ⟨q, rfl, E, ce, locs, hx _ hT hW.alike, hcell9, hv, hcl, hW, hsm.mono hc hs, hf⟩⟩
theorem vx_frame {U : State} {k n : Nat} (h : s.sameButNew ({ U with vm := s.vm } : State) locs k n) : s.heap.size ≤ U.heap.size ∧ ∀ q : Nat, q < s.heap.size → (∀ z ∈ locs, z.base ≠ q) → U.heap[q]? = s.heap[q]? := by
  obtain ⟨-, h2, -, -, -, h6⟩ := h
  refine ⟨h2, fun q hq hz => ?_⟩
  obtain ⟨c9, e1, e2, e3, e4⟩ := h6 q _ (Array.getElem?_eq_getElem hq)
  have hs : c9.slots = (s.heap[q]).slots := Array.ext_getElem? fun i => e4 i fun hm => hz _ hm rfl
  have h9 : c9 = s.heap[q] := by
    rw [hs] at e2
    exact e2
  have e5 : U.heap[q]? = some c9 := e1
  rw [e5, h9, Array.getElem?_eq_getElem hq]
/-- the words of a throw but the four that speak of the heap -/
def vx_no (w : Cond) : Bool := decide (w ≠ .isRef (.static Bundle.tN "UNASSIGNED_STACK" Bundle.steD)) && decide (w ≠ .isRef (.static Bundle.tN "SUPPRESSED_SENTINEL" Bundle.listD)) && decide (w ≠ .laysStatic Bundle.tN "UNASSIGNED_STACK" Bundle.steD) && decide (w ≠ .laysStatic Bundle.tN "SUPPRESSED_SENTINEL" Bundle.listD)
def vx_at0 (own : String) (ic : Nat) (X : String) (names : List String) : List Cond := (Bundle.ownAtoms0 own ic X names).filter vx_no
def vx_atS (own : String) (ic : Nat) (X : String) (names : List String) : List Cond := (Bundle.ownAtoms own ic X names).filter vx_no
/-- a word that the tables alone decide, or a good one -/
def vx_ot (w : Cond) : Bool := w.onTables || goodWord w
theorem vx_ot_at {args a' : Array Value} {s U : State} {w : Cond} (hW : s.WarmedH U.vm) (hvm : s.vm = U.vm) (hg : vx_ot w = true) (h : w.before args s = true) : w.before a' U = true := by
  simp only [vx_ot, Bool.or_eq_true] at hg
  rcases hg with hg | hg
  · exact va_tabs hg hvm h
  · exact word_at hW (good_of_word hg) h
/-- a list's words: the good ones out of the method's own list, the others by premises of their own -/
theorem vx_hat {args : Array Value} {s : State} {L B : List Cond} (h1 : ∀ w ∈ L.filter goodWord, w.before args s = true) (h2 : ∀ w ∈ L.filter (fun w => !goodWord w), w ∈ B) (h3 : ∀ w ∈ B, w.before args s = true) : ∀ w ∈ L, w.before args s = true := by
  intro w hw
  by_cases g : goodWord w = true
  · exact h1 w (List.mem_filter.mpr ⟨hw, g⟩)
  · refine h3 w (h2 w (List.mem_filter.mpr ⟨hw, ?_⟩))
    show (!goodWord w) = true
    cases hgw : goodWord w
    · rfl
    · exact absurd hgw g
theorem vx_c {args : Array Value} {s : State} {w : Cond} {B : List Cond} (h : w.before args s = true) (t : ∀ w ∈ B, w.before args s = true) : ∀ w' ∈ w :: B, w'.before args s = true := fun w' h' => (List.mem_cons.mp h').elim (fun e => by rw [e]; exact h) (t w')
theorem vx_n {args : Array Value} {s : State} : ∀ w ∈ ([] : List Cond), w.before args s = true := fun _ h => nomatch h
theorem vx_own {args : Array Value} {s : State} {L : List Cond} (h1 : ∀ w ∈ L.filter vx_no, w.before args s = true)
    (hU : (Cond.isRef (.static Bundle.tN "UNASSIGNED_STACK" Bundle.steD)).before args s = true) (hN : (Cond.isRef (.static Bundle.tN "SUPPRESSED_SENTINEL" Bundle.listD)).before args s = true)
    (lU : (Cond.laysStatic Bundle.tN "UNASSIGNED_STACK" Bundle.steD).before args s = true) (lN : (Cond.laysStatic Bundle.tN "SUPPRESSED_SENTINEL" Bundle.listD).before args s = true) : ∀ w ∈ L, w.before args s = true := by
  intro w hw
  by_cases e1 : w = .isRef (.static Bundle.tN "UNASSIGNED_STACK" Bundle.steD)
  · rw [e1]; exact hU
  · by_cases e2 : w = .isRef (.static Bundle.tN "SUPPRESSED_SENTINEL" Bundle.listD)
    · rw [e2]; exact hN
    · by_cases e3 : w = .laysStatic Bundle.tN "UNASSIGNED_STACK" Bundle.steD
      · rw [e3]; exact lU
      · by_cases e4 : w = .laysStatic Bundle.tN "SUPPRESSED_SENTINEL" Bundle.listD
        · rw [e4]; exact lN
        · exact h1 w (List.mem_filter.mpr ⟨hw, by unfold vx_no; rw [decide_eq_true e1, decide_eq_true e2, decide_eq_true e3, decide_eq_true e4]; rfl⟩)
/-- where a static field lies, its class's statics cell in H -/
def vx_L (C n d : String) (A : Nat → Prop) (U : State) (H : Heap) : Prop := ∃ (c : ClassId) (k : Class) (i : Nat) (f : Field) (a : Nat) (cell : Cell), U.vm.findClass C = some c ∧ U.fieldFound? C n d = some (c, k, i, f) ∧ f.isStatic = true ∧ k.statics = some a ∧ H[a]? = some cell ∧ cell.vm.isStatics = true ∧ cell.cls = c ∧ f.slot < cell.slots.size ∧ k.staticTypes[f.slot]? = some f.type ∧ ¬ A a
theorem vx_L.moved {C n d : String} {A : Nat → Prop} {u U : State} {H : Heap} (hvm : u.vm.Alike U.vm) (h : vx_L C n d A u H) : vx_L C n d A U H := by
  obtain ⟨c, k, i, f, a, cell, h1, h2, h3, h4, h5, h6, h7, h8, h9, h10⟩ := h
  obtain ⟨k', hi', he⟩ := State.fieldFound?_setVm hvm h2
  exact ⟨c, k', i, f, a, cell, by rw [hvm.findClass]; exact h1, hi', h3, by rw [he]; exact h4, h5, h6, h7, h8, by rw [he]; exact h9, h10⟩
theorem vx_L.kept {C n d : String} {A : Nat → Prop} {U : State} {H H1 : Heap} (h : vx_L C n d A U H) (hq : ∀ a : Nat, a < H.size → ¬ A a → H1[a]? = H[a]?) : vx_L C n d A U H1 := by
  obtain ⟨c, k, i, f, a, cell, h1, h2, h3, h4, h5, h6, h7, h8, h9, h10⟩ := h
  exact ⟨c, k, i, f, a, cell, h1, h2, h3, h4, by rw [hq a (Array.getElem?_eq_some_iff.mp h5).1 h10]; exact h5, h6, h7, h8, h9, h10⟩
theorem vx_L.narrow {C n d : String} {A B : Nat → Prop} {U : State} {H : Heap} (h : vx_L C n d A U H) (hAB : ∀ q, B q → A q) : vx_L C n d B U H := by
  obtain ⟨c, k, i, f, a, cell, h1, h2, h3, h4, h5, h6, h7, h8, h9, h10⟩ := h
  exact ⟨c, k, i, f, a, cell, h1, h2, h3, h4, h5, h6, h7, h8, h9, fun z => h10 (hAB _ z)⟩
theorem vx_L.word {C n d : String} {A : Nat → Prop} {s : State} {args : Array Value} (h : vx_L C n d A s s.heap) : (Cond.laysStatic C n d).before args s = true := by
  obtain ⟨c, k, i, f, a, cell, h1, h2, h3, h4, h5, h6, h7, h8, h9, -⟩ := h
  show (Cond.laysStatic C n d).holds args s none s [] = true
  exact Cond.laysStatic_of h1 h2 h3 h4 h5 h6 h7 h8 h9
/-- .. and what it holds: null or some reference -/
def vx_Zq (C n d : String) (A : Nat → Prop) (U : State) (H : Heap) : Prop := va_Zq C n d A U H ∧ vx_L C n d A U H
theorem vx_Zq.moved {C n d : String} {A : Nat → Prop} {u U : State} {H : Heap} (hvm : u.vm.Alike U.vm) (h : vx_Zq C n d A u H) : vx_Zq C n d A U H := ⟨va_Zq.moved hvm h.1, vx_L.moved hvm h.2⟩
theorem vx_Zq.kept {C n d : String} {A : Nat → Prop} {U : State} {H H1 : Heap} (h : vx_Zq C n d A U H) (hq : ∀ a : Nat, a < H.size → ¬ A a → H1[a]? = H[a]?) : vx_Zq C n d A U H1 := ⟨va_Zq.kept h.1 hq, vx_L.kept h.2 hq⟩
theorem vx_Zq.narrow {C n d : String} {A B : Nat → Prop} {U : State} {H : Heap} (h : vx_Zq C n d A U H) (hAB : ∀ q, B q → A q) : vx_Zq C n d B U H := ⟨va_Zq.narrow h.1 hAB, vx_L.narrow h.2 hAB⟩
theorem vx_Zqof {args : Array Value} {s : State} {C n d : String} {A : Nat → Prop} (hl : (Cond.laysStatic C n d).before args s = true) (hini : (Cond.initialized C).before args s = true) (h : (Cond.isRef (.static C n d)).before args s = true) (hA : ∀ a : Nat, a < s.heap.size → ¬ A a) : vx_Zq C n d A s s.heap := by
  refine ⟨va_Zqof hl hini h hA, ?_⟩
  obtain ⟨c, k, i, f, a, cell, h1, h2, h3, h4, h5, h6, h7, h8, h9⟩ := Cond.laysStatic_spec hl
  exact ⟨c, k, i, f, a, cell, h1, h2, h3, h4, h5, h6, h7, h8, h9, hA a (Array.getElem?_eq_some_iff.mp h5).1⟩
theorem vx_isRef {C n d : String} {v : Value} {A : Nat → Prop} {s : State} {args : Array Value} (h : va_Z C n d v A s s.heap) (hv : v.isRef = true) : (Cond.isRef (.static C n d)).before args s = true := by
  obtain ⟨cf, kf, fi, f, a, cell, h1, h2, h3, h4, h5, h6, h7, -⟩ := h
  have he : (Term.static C n d).eval args s none [] s = some v := by
    simp [Term.eval, State.fieldNamed?, h1, h2, h4, h5, h6, h7]
  simp only [Cond.before, Cond.holds, Cond.value, he]
  cases v <;> simp_all [Value.isRef]
theorem vx_isRefq {C n d : String} {A : Nat → Prop} {s : State} {args : Array Value} (h : va_Zq C n d A s s.heap) : (Cond.isRef (.static C n d)).before args s = true := by
  rcases h with h | ⟨t, h⟩
  · exact vx_isRef h rfl
  · exact vx_isRef h rfl
/-- the same frame, seen from here: as if the method were called anew in this heap -/
theorem vx_rebase {T : State} (X : Stand p l e R s m args below meth c T locs cells slots) {R' : Room} (hf : R'.frames ≤ R.frames) (hl : R'.locals ≤ R.locals) (hc : cells + R'.cells ≤ R.cells) (hs : slots + R'.slots ≤ R.slots) :
    Stand p l e R' ((T.setVm s.vm).setFrames (.invoking m args :: below)) m args below meth c T [] 0 0 := by
  have htop : (T.setVm s.vm).topJava?.isSome := X.here.top
  have hF : ((T.setVm s.vm).setFrames (.invoking m args :: below)).frames = .invoking m args :: below := State.frames_setFrames _ (State.cur_lt_of_top htop)
  obtain ⟨g₀, hg0⟩ := Option.isSome_iff_exists.mp htop
  obtain ⟨r, hr⟩ := State.topJava?_eq_some.mp hg0
  have hl9 : e.platform.stackLimits (T.setVm s.vm).me = e.platform.stackLimits s.me := X.limits
  have hb9 : (T.setVm s.vm).me.stackBytes = s.me.stackBytes := X.bytes
  refine ⟨X.admits, X.cas, X.clock, hF, ?_, X.hears, X.method, X.code, X.here, X.tail, X.warmed, ?_, ?_, ?_⟩
  · have h := X.room
    have hU : ((T.setVm s.vm).setFrames (.invoking m args :: below)).localsInUse = s.localsInUse := by
      rw [State.localsInUse_invoking hF (meth := meth) (c := c) X.method X.code, State.localsInUse_invoking X.frames X.method X.code]
    simp only [State.hasRoom, Bool.and_eq_true, decide_eq_true_eq] at h ⊢
    obtain ⟨⟨⟨⟨h1, h2, h3, h4, h5, h6⟩, h7⟩, h8⟩, h9⟩ := h
    rw [X.frames, List.length_cons] at h2 h3
    have q1 := X.heapSize
    have q2 := X.used
    simp only [hF, hU, List.length_cons, State.stackLimits_setFrames, State.stackBytes_setFrames, hl9, hb9]
    refine ⟨⟨⟨⟨by omega, by omega, by omega, by omega, by omega, h6⟩, ?_⟩, ?_⟩, X.book⟩
    · show T.heap.size + R'.cells ≤ e.platform.maxCells
      omega
    · show T.slotsUsed + R'.slots ≤ e.platform.maxSlots
      omega
  · rw [State.stackLimits_setFrames]; rfl
  · rw [State.stackBytes_setFrames]; rfl
  · refine ⟨?_, Nat.le_refl _, Nat.le_refl _, ?_, ?_, fun a c9 h9 => ⟨c9, h9, rfl, rfl, fun _ _ => rfl⟩⟩
    · obtain ⟨t, ht, -⟩ := State.frames_cons hr
      show T.setVm s.vm = { ((T.setVm s.vm).setFrames (.invoking m args :: below)).setFrames (T.setVm s.vm).frames with heap := T.heap, slotsUsed := T.slotsUsed }
      rw [State.setFrames_setFrames, State.setFrames_self ht]
      rfl
    · show T.slotsUsed = T.slotsUsed + ((T.heap.toList.drop T.heap.size).map (·.slots.size)).sum
      rw [List.drop_eq_nil_of_le (Nat.le_of_eq Array.length_toList)]
      rfl
    · show ((T.heap.toList.drop T.heap.size).map (·.slots.size)).sum ≤ 0
      rw [List.drop_eq_nil_of_le (Nat.le_of_eq Array.length_toList)]
      exact Nat.le_refl _
/-- 'throw new E()': new; dup; invokespecial; athrow -/
theorem vx_throw0 {cc : ByteArray} {pc : Nat} (hexec : p.tables.exec = Jvm.exec) (hb : c.code = cc) (hl : l.stackTraces = false) {own cls : String} {names : List String} {ik ic mc ms : Nat} {A : Nat → Prop}
    (hown : s.vm.findClass own = some m.cls) (hcls : Bundle.fit cls = true) (hnames : ∀ n ∈ names, Bundle.fit n = true)
    (hk : (Cond.classLink own ik cls).before args s = true) (hini : (Cond.initialized cls).before args s = true) (hat : ∀ w ∈ vx_at0 own ic cls names, w.before args s = true)
    (hgood : ∀ w ∈ Cond.classLink own ik cls :: Cond.initialized cls :: vx_at0 own ic cls names, vx_ot w = true)
    (hU : vx_Zq Bundle.tN "UNASSIGNED_STACK" Bundle.steD A s s.heap) (hN : vx_Zq Bundle.tN "SUPPRESSED_SENTINEL" Bundle.listD A s s.heap) (hS : va_S A s.heap H locs) (hsize : ls.size = c.maxLocals)
    (d0 : decode cc pc = .ok (.new ik, 3)) (d3 : decode cc (pc + 3) = .ok (.dup, 1)) (d4 : decode cc (pc + 4) = .ok (.invokespecial ic, 3)) (d7 : decode cc (pc + 7) = .ok (.athrow, 1))
    (hout : ∀ x ∈ c.exceptionTable.toList, covers x (pc + 7) = false)
    (hRframes : names.length + 3 < R.frames) (hRlocals : (rest.map fun v => v.category).sum + (13 * (names.length + 1) + 42) ≤ R.locals) (hRcells : cells + 1 ≤ R.cells) (hRslots : slots + 6 ≤ R.slots) (hlocks : meth.locks = false)
    (hx : ∀ t : State, s.vm.Alike t.vm → H.size ≤ t.heap.size → (∀ q : Nat, q < H.size → t.heap[q]? = H[q]?) → XC cls s t)
    (hf : ∀ z ∈ locs, free z.base) (hc : cells + 1 ≤ mc) (hs : slots + 6 ≤ ms) :
    W p l e R s m args below meth c H locs cells slots (vx_MQ below Qc XC args s mc ms free) (F0 m pc ls rest) := by
  intro T hT X
  have htr : e.platform.stackTraces = false := (show e.platform.stackTraces = l.stackTraces by rw [X.admits.platform]).trans hl
  have Y := vx_rebase X (R' := { frames := R.frames, locals := R.locals, cells := 1, slots := 6 }) (Nat.le_refl _) (Nat.le_refl _) hRcells hRslots
  obtain ⟨s', hA⟩ : ∃ z, z = (T.setVm s.vm).setFrames (.invoking m args :: below) := ⟨_, rfl⟩
  rw [← hA] at Y
  have hvm : s'.vm = s.vm := by rw [hA]; rfl
  have hhp : s'.heap = H := by rw [hA]; exact hT
  have hW0 : s.WarmedH s'.vm := by rw [hvm]; exact State.WarmedH.refl s
  have hat' : ∀ w ∈ vx_at0 own ic cls names, w.before args s' = true := fun w hw => vx_ot_at hW0 hvm.symm (hgood w (List.mem_cons_of_mem _ (List.mem_cons_of_mem _ hw))) (hat w hw)
  have hk' : (Cond.classLink own ik cls).before args s' = true := vx_ot_at hW0 hvm.symm (hgood _ List.mem_cons_self) hk
  have hini' : (Cond.initialized cls).before args s' = true := vx_ot_at hW0 hvm.symm (hgood _ (List.mem_cons_of_mem _ List.mem_cons_self)) hini
  have hU' : vx_Zq Bundle.tN "UNASSIGNED_STACK" Bundle.steD A s' s'.heap := by rw [hhp]; exact vx_Zq.moved hW0.alike (hU.kept hS.2.1)
  have hN' : vx_Zq Bundle.tN "SUPPRESSED_SENTINEL" Bundle.listD A s' s'.heap := by rw [hhp]; exact vx_Zq.moved hW0.alike (hN.kept hS.2.1)
  have h : ∀ w ∈ Bundle.ownAtoms0 own ic cls names, w.before args s' = true := vx_own hat' (vx_isRefq hU'.1) (vx_isRefq hN'.1) hU'.2.word hN'.2.word
  have hown' : s'.vm.findClass own = some m.cls := by rw [hvm]; exact hown
  have hins : (Cond.instantiable cls 6).before args s' = true := h _ (by simp [Bundle.ownAtoms0])
  obtain ⟨vm₁, cX, kX, hfX, hkX, -, -, X₁, st1⟩ := Y.newCold hexec (own := own) (C := cls) (index := ik) (n := 6) hown' hk' hins hini'
    (g := F0 m pc ls rest) rfl (by rw [hb]; exact d0) (Nat.le_refl _) (Nat.le_refl _)
  generalize hT1 : (T.setVm vm₁).pushCell { cls := cX, slots := kX.instanceTypes.map defaultValue, vm := .none } = T1 at X₁ st1
  have hcat : (Value.ref T.heap.size).category = 1 := rfl
  have hcellA : T1.heap[T.heap.size]? = some (freshCell cX kX) := by rw [← hT1]; exact State.heap_pushCell_size _ _
  have d3' : decode c.code (pc + 3) = .ok (.dup, 1) := by rw [hb]; exact d3
  obtain ⟨U, hsteps, hrun, hend, hW, hsame, ce, hce, hO⟩ := X₁.ctorThrow0 hexec htr (own := own) (cls := cls) (names := names) (ic := ic) hown' hcls hnames h (fun x hx => nomatch hx) hfX hkX hcellA (by rw [hhp, hT]; exact Nat.le_refl _)
    (g := { method := m, pc := pc + 4, locals := ls, stack := .ref T.heap.size :: .ref T.heap.size :: rest, locked := none }) rfl hsize rfl rfl (rest := rest) rfl
    (by rw [hb]; exact d4) (by rw [hb]; exact d7) hout hRframes (by simp only [List.map_cons, List.sum_cons, hcat]; omega) hlocks
  obtain ⟨f1, f2⟩ := vx_frame hsame
  rw [hhp] at f1 f2
  have hWs : s.WarmedH U.vm := State.WarmedH.trans hW0 hW
  have hcl : s.vm.findClass cls = some ce.cls := by
    have h9 := hO.cls
    rw [hvm] at h9
    exact h9
  have hall : s.sameButNew ({ U with vm := s.vm } : State) locs mc ms := by
    subst hA
    obtain ⟨e1, e2⟩ := hsame
    rw [State.setFrames_setFrames] at e1
    have h2 : (T.setVm s.vm).sameButNew ({ U with vm := s.vm } : State) [] (0 + 1) (0 + 6) := ⟨e1, e2⟩
    have h3 := X.same.trans h2
    rw [List.append_nil] at h3
    exact h3.mono hc hs
  refine ⟨U, ?_, .threw T.heap.size, hrun, hend, Or.inr ⟨T.heap.size, rfl, cls, ce, locs, hx U hWs.alike f1 (fun q hq => f2 q hq (fun z hz => nomatch hz)), hce, hO.vm, hcl, hWs, hall, hf⟩⟩
  refine st1 _ ?_
  show Steps p.tables e below (T1.setTop { method := m, pc := pc + 3, locals := ls, stack := .ref T.heap.size :: rest, locked := none }) _
  jvm_step X₁.here [X₁.here.top, hexec, d3', Value.category]
  exact hsteps
/-- 'throw new E("text")': new; dup; ldc; invokespecial; athrow -/
theorem vx_throwS {cc : ByteArray} {pc : Nat} (hexec : p.tables.exec = Jvm.exec) (hb : c.code = cc) (hl : l.stackTraces = false) {own cls text : String} {names : List String} {ik is ic mc ms sa : Nat} {A : Nat → Prop}
    (hown : s.vm.findClass own = some m.cls) (hcls : Bundle.fit cls = true) (hnames : ∀ n ∈ names, Bundle.fit n = true)
    (hk : (Cond.classLink own ik cls).before args s = true) (hini : (Cond.initialized cls).before args s = true) (hstr : vk_R own is text sa s) (hat : ∀ w ∈ vx_atS own ic cls names, w.before args s = true)
    (hgood : ∀ w ∈ Cond.classLink own ik cls :: Cond.initialized cls :: vx_atS own ic cls names, vx_ot w = true)
    (hU : vx_Zq Bundle.tN "UNASSIGNED_STACK" Bundle.steD A s s.heap) (hN : vx_Zq Bundle.tN "SUPPRESSED_SENTINEL" Bundle.listD A s s.heap) (hS : va_S A s.heap H locs) (hsize : ls.size = c.maxLocals)
    (d0 : decode cc pc = .ok (.new ik, 3)) (d3 : decode cc (pc + 3) = .ok (.dup, 1)) (d4 : decode cc (pc + 4) = .ok (.ldc is, 2)) (d6 : decode cc (pc + 6) = .ok (.invokespecial ic, 3)) (d9 : decode cc (pc + 9) = .ok (.athrow, 1))
    (hout : ∀ x ∈ c.exceptionTable.toList, covers x (pc + 9) = false)
    (hRframes : names.length + 3 < R.frames) (hRlocals : (rest.map fun v => v.category).sum + (13 * (names.length + 1) + 43) ≤ R.locals) (hRcells : cells + 1 ≤ R.cells) (hRslots : slots + 6 ≤ R.slots) (hlocks : meth.locks = false)
    (hx : ∀ t : State, s.vm.Alike t.vm → H.size ≤ t.heap.size → (∀ q : Nat, q < H.size → t.heap[q]? = H[q]?) → XC cls s t)
    (hf : ∀ z ∈ locs, free z.base) (hc : cells + 1 ≤ mc) (hs : slots + 6 ≤ ms) :
    W p l e R s m args below meth c H locs cells slots (vx_MQ below Qc XC args s mc ms free) (F0 m pc ls rest) := by
  intro T hT X
  have htr : e.platform.stackTraces = false := (show e.platform.stackTraces = l.stackTraces by rw [X.admits.platform]).trans hl
  have Y := vx_rebase X (R' := { frames := R.frames, locals := R.locals, cells := 1, slots := 6 }) (Nat.le_refl _) (Nat.le_refl _) hRcells hRslots
  obtain ⟨s', hA⟩ : ∃ z, z = (T.setVm s.vm).setFrames (.invoking m args :: below) := ⟨_, rfl⟩
  rw [← hA] at Y
  have hvm : s'.vm = s.vm := by rw [hA]; rfl
  have hhp : s'.heap = H := by rw [hA]; exact hT
  have hW0 : s.WarmedH s'.vm := by rw [hvm]; exact State.WarmedH.refl s
  have hat' : ∀ w ∈ vx_atS own ic cls names, w.before args s' = true := fun w hw => vx_ot_at hW0 hvm.symm (hgood w (List.mem_cons_of_mem _ (List.mem_cons_of_mem _ hw))) (hat w hw)
  have hk' : (Cond.classLink own ik cls).before args s' = true := vx_ot_at hW0 hvm.symm (hgood _ List.mem_cons_self) hk
  have hini' : (Cond.initialized cls).before args s' = true := vx_ot_at hW0 hvm.symm (hgood _ (List.mem_cons_of_mem _ List.mem_cons_self)) hini
  have hU' : vx_Zq Bundle.tN "UNASSIGNED_STACK" Bundle.steD A s' s'.heap := by rw [hhp]; exact vx_Zq.moved hW0.alike (hU.kept hS.2.1)
  have hN' : vx_Zq Bundle.tN "SUPPRESSED_SENTINEL" Bundle.listD A s' s'.heap := by rw [hhp]; exact vx_Zq.moved hW0.alike (hN.kept hS.2.1)
  have h : ∀ w ∈ Bundle.ownAtoms own ic cls names, w.before args s' = true := vx_own hat' (vx_isRefq hU'.1) (vx_isRefq hN'.1) hU'.2.word hN'.2.word
  have hown' : s'.vm.findClass own = some m.cls := by rw [hvm]; exact hown
  have hins : (Cond.instantiable cls 6).before args s' = true := h _ (by simp [Bundle.ownAtoms])
  obtain ⟨vm₁, cX, kX, hfX, hkX, -, -, X₁, st1⟩ := Y.newCold hexec (own := own) (C := cls) (index := ik) (n := 6) hown' hk' hins hini'
    (g := F0 m pc ls rest) rfl (by rw [hb]; exact d0) (Nat.le_refl _) (Nat.le_refl _)
  generalize hT1 : (T.setVm vm₁).pushCell { cls := cX, slots := kX.instanceTypes.map defaultValue, vm := .none } = T1 at X₁ st1
  have hcat : (Value.ref T.heap.size).category = 1 := rfl
  have hcellA : T1.heap[T.heap.size]? = some (freshCell cX kX) := by rw [← hT1]; exact State.heap_pushCell_size _ _
  have d3' : decode c.code (pc + 3) = .ok (.dup, 1) := by rw [hb]; exact d3
  have d4' : decode c.code (pc + 4) = .ok (.ldc is, 2) := by rw [hb]; exact d4
  have hstr' : vk_R own is text sa s' := vk_R.warm hW0 hstr
  obtain ⟨U, hsteps, hrun, hend, hW, hsame, ce, hce, hO⟩ := X₁.ctorThrowS hexec htr (own := own) (cls := cls) (names := names) (ic := ic) hown' hcls hnames h (fun x hx => nomatch hx) hfX hkX hcellA (by rw [hhp, hT]; exact Nat.le_refl _) (msg := .ref sa) rfl
    (g := { method := m, pc := pc + 6, locals := ls, stack := .ref sa :: .ref T.heap.size :: .ref T.heap.size :: rest, locked := none }) rfl hsize rfl rfl (rest := rest) rfl
    (by rw [hb]; exact d6) (by rw [hb]; exact d9) hout hRframes (by simp only [List.map_cons, List.sum_cons, hcat]; omega) hlocks
  obtain ⟨f1, f2⟩ := vx_frame hsame
  rw [hhp] at f1 f2
  have hWs : s.WarmedH U.vm := State.WarmedH.trans hW0 hW
  have hcl : s.vm.findClass cls = some ce.cls := by
    have h9 := hO.cls
    rw [hvm] at h9
    exact h9
  have hall : s.sameButNew ({ U with vm := s.vm } : State) locs mc ms := by
    subst hA
    obtain ⟨e1, e2⟩ := hsame
    rw [State.setFrames_setFrames] at e1
    have h2 : (T.setVm s.vm).sameButNew ({ U with vm := s.vm } : State) [] (0 + 1) (0 + 6) := ⟨e1, e2⟩
    have h3 := X.same.trans h2
    rw [List.append_nil] at h3
    exact h3.mono hc hs
  refine ⟨U, ?_, .threw T.heap.size, hrun, hend, Or.inr ⟨T.heap.size, rfl, cls, ce, locs, hx U hWs.alike f1 (fun q hq => f2 q hq (fun z hz => nomatch hz)), hce, hO.vm, hcl, hWs, hall, hf⟩⟩
  refine st1 _ ?_
  show Steps p.tables e below (T1.setTop { method := m, pc := pc + 3, locals := ls, stack := .ref T.heap.size :: rest, locked := none }) _
  jvm_step X₁.here [X₁.here.top, hexec, d3', Value.category]
  exact X₁.ldcString hexec (own := own) (text := text) (index := is) (a := sa) hown' hstr'.1 hstr'.2
    (g := { method := m, pc := pc + 4, locals := ls, stack := .ref T.heap.size :: .ref T.heap.size :: rest, locked := none }) rfl d4' _ hsteps
/-- 'throw new E("text")', the text by a wide index -/
theorem vx_throwSW {cc : ByteArray} {pc : Nat} (hexec : p.tables.exec = Jvm.exec) (hb : c.code = cc) (hl : l.stackTraces = false) {own cls text : String} {names : List String} {ik is ic mc ms sa : Nat} {A : Nat → Prop}
    (hown : s.vm.findClass own = some m.cls) (hcls : Bundle.fit cls = true) (hnames : ∀ n ∈ names, Bundle.fit n = true)
    (hk : (Cond.classLink own ik cls).before args s = true) (hini : (Cond.initialized cls).before args s = true) (hstr : vk_R own is text sa s) (hat : ∀ w ∈ vx_atS own ic cls names, w.before args s = true)
    (hgood : ∀ w ∈ Cond.classLink own ik cls :: Cond.initialized cls :: vx_atS own ic cls names, vx_ot w = true)
    (hU : vx_Zq Bundle.tN "UNASSIGNED_STACK" Bundle.steD A s s.heap) (hN : vx_Zq Bundle.tN "SUPPRESSED_SENTINEL" Bundle.listD A s s.heap) (hS : va_S A s.heap H locs) (hsize : ls.size = c.maxLocals)
    (d0 : decode cc pc = .ok (.new ik, 3)) (d3 : decode cc (pc + 3) = .ok (.dup, 1)) (d4 : decode cc (pc + 4) = .ok (.ldc_w is, 3)) (d7 : decode cc (pc + 7) = .ok (.invokespecial ic, 3)) (d10 : decode cc (pc + 10) = .ok (.athrow, 1))
    (hout : ∀ x ∈ c.exceptionTable.toList, covers x (pc + 10) = false)
    (hRframes : names.length + 3 < R.frames) (hRlocals : (rest.map fun v => v.category).sum + (13 * (names.length + 1) + 43) ≤ R.locals) (hRcells : cells + 1 ≤ R.cells) (hRslots : slots + 6 ≤ R.slots) (hlocks : meth.locks = false)
    (hx : ∀ t : State, s.vm.Alike t.vm → H.size ≤ t.heap.size → (∀ q : Nat, q < H.size → t.heap[q]? = H[q]?) → XC cls s t)
    (hf : ∀ z ∈ locs, free z.base) (hc : cells + 1 ≤ mc) (hs : slots + 6 ≤ ms) :
    W p l e R s m args below meth c H locs cells slots (vx_MQ below Qc XC args s mc ms free) (F0 m pc ls rest) := by
  intro T hT X
  have htr : e.platform.stackTraces = false := (show e.platform.stackTraces = l.stackTraces by rw [X.admits.platform]).trans hl
  have Y := vx_rebase X (R' := { frames := R.frames, locals := R.locals, cells := 1, slots := 6 }) (Nat.le_refl _) (Nat.le_refl _) hRcells hRslots
  obtain ⟨s', hA⟩ : ∃ z, z = (T.setVm s.vm).setFrames (.invoking m args :: below) := ⟨_, rfl⟩
  rw [← hA] at Y
  have hvm : s'.vm = s.vm := by rw [hA]; rfl
  have hhp : s'.heap = H := by rw [hA]; exact hT
  have hW0 : s.WarmedH s'.vm := by rw [hvm]; exact State.WarmedH.refl s
  have hat' : ∀ w ∈ vx_atS own ic cls names, w.before args s' = true := fun w hw => vx_ot_at hW0 hvm.symm (hgood w (List.mem_cons_of_mem _ (List.mem_cons_of_mem _ hw))) (hat w hw)
  have hk' : (Cond.classLink own ik cls).before args s' = true := vx_ot_at hW0 hvm.symm (hgood _ List.mem_cons_self) hk
  have hini' : (Cond.initialized cls).before args s' = true := vx_ot_at hW0 hvm.symm (hgood _ (List.mem_cons_of_mem _ List.mem_cons_self)) hini
  have hU' : vx_Zq Bundle.tN "UNASSIGNED_STACK" Bundle.steD A s' s'.heap := by rw [hhp]; exact vx_Zq.moved hW0.alike (hU.kept hS.2.1)
  have hN' : vx_Zq Bundle.tN "SUPPRESSED_SENTINEL" Bundle.listD A s' s'.heap := by rw [hhp]; exact vx_Zq.moved hW0.alike (hN.kept hS.2.1)
  have h : ∀ w ∈ Bundle.ownAtoms own ic cls names, w.before args s' = true := vx_own hat' (vx_isRefq hU'.1) (vx_isRefq hN'.1) hU'.2.word hN'.2.word
  have hown' : s'.vm.findClass own = some m.cls := by rw [hvm]; exact hown
  have hins : (Cond.instantiable cls 6).before args s' = true := h _ (by simp [Bundle.ownAtoms])
  obtain ⟨vm₁, cX, kX, hfX, hkX, -, -, X₁, st1⟩ := Y.newCold hexec (own := own) (C := cls) (index := ik) (n := 6) hown' hk' hins hini'
    (g := F0 m pc ls rest) rfl (by rw [hb]; exact d0) (Nat.le_refl _) (Nat.le_refl _)
  generalize hT1 : (T.setVm vm₁).pushCell { cls := cX, slots := kX.instanceTypes.map defaultValue, vm := .none } = T1 at X₁ st1
  have hcat : (Value.ref T.heap.size).category = 1 := rfl
  have hcellA : T1.heap[T.heap.size]? = some (freshCell cX kX) := by rw [← hT1]; exact State.heap_pushCell_size _ _
  have d3' : decode c.code (pc + 3) = .ok (.dup, 1) := by rw [hb]; exact d3
  have d4' : decode c.code (pc + 4) = .ok (.ldc_w is, 3) := by rw [hb]; exact d4
  have hstr' : vk_R own is text sa s' := vk_R.warm hW0 hstr
  obtain ⟨U, hsteps, hrun, hend, hW, hsame, ce, hce, hO⟩ := X₁.ctorThrowS hexec htr (own := own) (cls := cls) (names := names) (ic := ic) hown' hcls hnames h (fun x hx => nomatch hx) hfX hkX hcellA (by rw [hhp, hT]; exact Nat.le_refl _) (msg := .ref sa) rfl
    (g := { method := m, pc := pc + 7, locals := ls, stack := .ref sa :: .ref T.heap.size :: .ref T.heap.size :: rest, locked := none }) rfl hsize rfl rfl (rest := rest) rfl
    (by rw [hb]; exact d7) (by rw [hb]; exact d10) hout hRframes (by simp only [List.map_cons, List.sum_cons, hcat]; omega) hlocks
  obtain ⟨f1, f2⟩ := vx_frame hsame
  rw [hhp] at f1 f2
  have hWs : s.WarmedH U.vm := State.WarmedH.trans hW0 hW
  have hcl : s.vm.findClass cls = some ce.cls := by
    have h9 := hO.cls
    rw [hvm] at h9
    exact h9
  have hall : s.sameButNew ({ U with vm := s.vm } : State) locs mc ms := by
    subst hA
    obtain ⟨e1, e2⟩ := hsame
    rw [State.setFrames_setFrames] at e1
    have h2 : (T.setVm s.vm).sameButNew ({ U with vm := s.vm } : State) [] (0 + 1) (0 + 6) := ⟨e1, e2⟩
    have h3 := X.same.trans h2
    rw [List.append_nil] at h3
    exact h3.mono hc hs
  refine ⟨U, ?_, .threw T.heap.size, hrun, hend, Or.inr ⟨T.heap.size, rfl, cls, ce, locs, hx U hWs.alike f1 (fun q hq => f2 q hq (fun z hz => nomatch hz)), hce, hO.vm, hcl, hWs, hall, hf⟩⟩
  refine st1 _ ?_
  show Steps p.tables e below (T1.setTop { method := m, pc := pc + 3, locals := ls, stack := .ref T.heap.size :: rest, locked := none }) _
  jvm_step X₁.here [X₁.here.top, hexec, d3', Value.category]
  exact X₁.ldcStringW hexec (own := own) (text := text) (index := is) (a := sa) hown' hstr'.1 hstr'.2
    (g := { method := m, pc := pc + 4, locals := ls, stack := .ref T.heap.size :: .ref T.heap.size :: rest, locked := none }) rfl d4' _ hsteps
end Ends
section Bodies
variable {l : Launch}
theorem vx_ofW {y : MethodName} {ws ws' : List Cond} {rm : Room} {Pc : Array Value → State → Prop} {Qc : Array Value → State → Outcome → State → Prop} {XC : String → State → State → Prop} {mc ms : Nat} {free : Addr → Prop} {cc : ByteArray} {maxL : Nat} {ret : Option FieldType}
    (hy : plainName y.cls = true) (hw : ws = Cond.code y cc maxL ret :: ws')
    (body : ∀ p e s m args below meth c s₁, BodyLoose p l y (headSpec ws rm) cc maxL ret e s m args below meth c s₁ → c.maxLocals = maxL → (∀ x ∈ c.exceptionTable.toList, False) → Pc args s →
      W p l e (headSpec ws rm).room s m args below meth c s.heap [] 0 0 (vx_MQ below Qc XC args s mc ms free) (entryFrame m args maxL)) : vx_Met l y ws rm Pc Qc XC mc ms free := by
  refine MetFree.of_bodyS (code := cc) (maxLocals := maxL) (ret := ret) hy ?_ ?_
  · intro args s m h hn
    obtain ⟨meth, c, h1, h2, h3, h4, h5, h6, -, -⟩ := Cond.code_spec hn (atoms_spec (ws := ws) h _ (by rw [hw]; exact List.mem_cons_self))
    exact ⟨meth, c, h1, h2, h3, h4, h5, h6⟩
  · intro p e s m args below meth c s₁ B hml hP _
    have hh0 : s₁.heap = s.heap := by rw [B.state]; rfl
    have ht : ∀ x ∈ c.exceptionTable.toList, False := by
      obtain ⟨meth9, c9, h1, h2, -, -, -, -, h7, -⟩ := Cond.code_spec B.named (atoms_spec (ws := ws) B.pre _ (by rw [hw]; exact List.mem_cons_self))
      cases Option.some.inj (h1.symm.trans B.method)
      cases Option.some.inj (h2.symm.trans (Stand.of_body B).code)
      intro x hx
      rw [Array.isEmpty_iff.mp h7] at hx
      cases hx
    obtain ⟨t, a1, o, b1, b2, b3⟩ := body p e s m args below meth c s₁ B hml ht hP s₁ hh0 (Stand.of_body B)
    exact ⟨t, o, a1, b1, b2, b3⟩
/-- the table of a body with handlers -/
theorem vx_table {p : Program} {x y : MethodName} {S : Spec} {cc bytes : ByteArray} {maxL maxL' : Nat} {ret ret' : Option FieldType} {e : Env} {s s₁ : State} {m : MethodId} {args : Array Value} {below : List Frame} {meth : Method} {c : Code} {hh : List (Nat × Nat × Nat × Nat)}
    (B : BodyLoose p l y S cc maxL ret e s m args below meth c s₁) (h : (Cond.codeWith y bytes maxL' ret' hh).before args s = true) : c.exceptionTable.toList = tableOf hh := by
  obtain ⟨m9, meth9, c9, hn9, h1, h2, -, -, h6, -⟩ := Cond.codeWith_spec h
  cases Option.some.inj (hn9.symm.trans B.named)
  cases Option.some.inj (h1.symm.trans B.method)
  cases Option.some.inj (h2.symm.trans (Stand.of_body B).code)
  rw [← h6, table_eq]
end Bodies
end VXA
/-! ===== END ===== -/
/-! ===== BEGIN a static call of a method with an exception table ===== -/
section VXS
variable {p : Program} {l : Launch} {e : Env} {R : Room} {s : State} {m : MethodId} {args : Array Value} {below : List Frame} {meth : Method} {c : Code} {T : State} {H : Heap} {locs : List Loc} {cells slots : Nat}
abbrev vx_CSW (R : Room) (s : State) (args : Array Value) (own : String) (index : Nat) (y : MethodName) (bytes : ByteArray) (maxL : Nat) (ret : Option FieldType) (hh : List (Nat × Nat × Nat × Nat)) (ws : List Cond) (rm : Room) (mc ms n : Nat) : Prop :=
  (rm.cells = mc ∧ rm.slots = ms ∧ rm.frames + 1 ≤ R.frames ∧ 8 + (maxL + 11) + rm.locals ≤ R.locals ∧ (∀ w ∈ ws, ∀ (a' : Array Value) (U : State), s.WarmedH U.vm → w.before a' U = true) ∧ Cond.codeWith y bytes maxL ret hh ∈ ws) ∧
  (Cond.codeWith y bytes maxL ret hh).before args s = true ∧ (Cond.initialized y.cls).before args s = true ∧ (y.cls ≠ "java/lang/invoke/MethodHandle" ∧ y.cls ≠ "java/lang/invoke/VarHandle") ∧
  (∀ sig, parseMethodDescriptor y.desc = some sig → n = sig.parameters.length) ∧ (Cond.methodLink own index y).before args s = true ∧ (Cond.static y).before args s = true
theorem vx_cwSW {own : String} {index maxL mc ms : Nat} {y : MethodName} {bytes : ByteArray} {ret : Option FieldType} {hh : List (Nat × Nat × Nat × Nat)} {Ts ws ws' : List Cond} {rm : Room} (n : Nat) (ht : ∀ w ∈ Ts, w.before args s = true) (hT : GoodIn Ts (va_wsS own index y ws)) (hw : ws = Cond.codeWith y bytes maxL ret hh :: ws') (hrc : rm.cells = mc) (hrs : rm.slots = ms)
    (hd : y.cls ≠ "java/lang/invoke/MethodHandle" ∧ y.cls ≠ "java/lang/invoke/VarHandle" ∧ (parseMethodDescriptor y.desc).map (fun d => d.parameters.length) = some n) (hR : rm.frames + 1 ≤ R.frames ∧ 8 + (maxL + 11) + rm.locals ≤ R.locals) :
    vx_CSW R s args own index y bytes maxL ret hh ws rm mc ms n := by
  have ok : ∀ w ∈ va_wsS own index y ws, w.before args s = true := fun w h => ht w (hT w h).1
  have hG : GoodIn Ts ws := fun w h => hT w (by unfold va_wsS; exact List.mem_append_right _ h)
  have hc : Cond.codeWith y bytes maxL ret hh ∈ ws := by rw [hw]; exact List.mem_cons_self
  refine ⟨⟨hrc, hrs, hR.1, hR.2, pay_in ht hG, hc⟩, ht _ (hG _ hc).1, ok _ (by simp [va_wsS]), ⟨hd.1, hd.2.1⟩, fun sig h => ?_, ok _ (by simp [va_wsS]), ok _ (by simp [va_wsS])⟩
  have h2 := hd.2.2
  rw [h] at h2
  exact (Option.some.inj h2).symm
theorem vx_callSW (X : Stand p l e R s m args below meth c T locs cells slots) (hexec : p.tables.exec = Jvm.exec) {own : String} {index : Nat} {y : MethodName} {bytes : ByteArray} {maxL : Nat} {ret : Option FieldType} {hh : List (Nat × Nat × Nat × Nat)}
    (hown : s.vm.findClass own = some m.cls) (hlink : (Cond.methodLink own index y).before args s = true) (hstat : (Cond.static y).before args s = true) (hinit : (Cond.initialized y.cls).before args s = true)
    (hcode : (Cond.codeWith y bytes maxL ret hh).before args s = true) (hy : y.cls ≠ "java/lang/invoke/MethodHandle" ∧ y.cls ≠ "java/lang/invoke/VarHandle")
    {W9 : Nat} {Pre : Pt → Array Value → Prop} {Post : Pt → Array Value → Option Value → Pt → Prop} (hK : Back l R p e below s args y 3 W9 Pre Post)
    {g : JFrame} (hg : g.method = m) (hsize : g.locals.size = c.maxLocals) {argsL rest : List Value} (hlen : ∀ sig, parseMethodDescriptor y.desc = some sig → argsL.length = sig.parameters.length)
    (hstack : g.stack = argsL.reverse ++ rest) (hW : 2 * g.monitorRoom + (rest.map fun v => v.category).sum ≤ W9) (hdg : decode c.code g.pc = .ok (.invokestatic index, 3))
    (hpre : ∀ vm₁, s.WarmedH vm₁ → Pre ⟨T.setVm vm₁, locs, cells, slots⟩ argsL.toArray) :
    ∃ (v : Option Value) (vm₁ : Vm) (B : Pt), s.WarmedH vm₁ ∧ Stand p l e R s m args below meth c B.U B.locs B.cells B.slots ∧ Post ⟨T.setVm vm₁, locs, cells, slots⟩ argsL.toArray v B ∧
      ∀ target, Steps p.tables e below (B.U.setTop { g with pc := g.pc + 3, stack := v.toList ++ rest }) target → Steps p.tables e below (T.setTop g) target := by
  obtain ⟨mk, methM, cM, hnamed, hmethM, -, -, -, -, -, -, hsigM⟩ := Cond.codeWith_spec hcode
  have hstatic : methM.isStatic = true := Cond.static_spec hnamed hmethM hstat
  obtain ⟨kP, hkP, -⟩ := className_of_methodNamed hnamed
  have hinitP : kP.init = .initialized := Cond.initialized_spec (findClass_of_methodNamed hnamed) hkP hinit
  obtain ⟨vm₁, X₁, hstep₁⟩ := X.invokestatic hexec hown hlink hnamed hmethM hstatic hkP hinitP hy (g := g) hg (argsL := argsL) (rest := rest) (hlen _ hsigM) hstack hdg
  obtain ⟨v, B, X', hpost, hsteps⟩ := hK m meth c ⟨T.setVm vm₁, locs, cells, slots⟩ { g with stack := rest } (.invokestatic index) mk argsL.toArray X₁ hg hsize hdg hW (X₁.named hnamed) (hpre vm₁ X₁.warmed)
  exact ⟨v, vm₁, B, X₁.warmed, X', hpost, fun target h => hstep₁ _ fun acts => by rw [doInvoke_state]; exact hsteps.trans h⟩
theorem vx_runSW {y : MethodName} {bytes cc : ByteArray} {maxL nL mc ms n index : Nat} {ret : Option FieldType} {hh : List (Nat × Nat × Nat × Nat)} {ws : List Cond} {rm : Room} {Pc : Array Value → State → Prop} {Qc : Array Value → State → Outcome → State → Prop} {free : Addr → Prop} {Ts : List Cond} {own : String} {As rest : List Value} {g : JFrame}
    (S : CallFix p m c cc nL s args Ts own) (hM : Met l y ws rm Pc Qc mc ms free) (cw : vx_CSW R s args own index y bytes maxL ret hh ws rm mc ms n) (hp : PreS s H Pc As)
    (hg : g.method = m) (hn : As.length = n) (hsize : g.locals.size = nL) (hstack : g.stack = As.reverse ++ rest) (hW : 2 * g.monitorRoom + (rest.map fun v => v.category).sum ≤ 8) (hdg : decode cc g.pc = .ok (.invokestatic index, 3)) (hf : cells + mc ≤ R.cells ∧ slots + ms ≤ R.slots) :
    va_Run p l e R s m args below meth c H locs cells slots mc ms g rest (Qc As.toArray) (free) := by
  obtain ⟨⟨hrc, hrs, hfr, hlo, hws, hcw⟩, hcode, hini, hy, hlen, hl, hstt⟩ := cw
  have hK : Back l R p e below s args y 3 8 (PreOf R mc ms Pc) (PostOf Qc mc ms free) := va_backW (hh := hh) (bytes := bytes) (maxL := maxL) (ret := ret) hM hp.1 hrc hrs hfr hlo hws hcw (fun a' U hW => word_at hW (Or.inl (by first | rfl | simp [Cond.onTables, Cond.keeps, Cond.steady])) hini)
  obtain ⟨hx, hb, hml, ho, -⟩ := S
  intro T hT X
  obtain ⟨v, vm₁, ⟨U', l2, c2, s2⟩, hW₁, X', ⟨g', mk, t, L, e1, e2, hq, h1, hL, h2, h3⟩, st⟩ := vx_callSW X hx (hh := hh) (bytes := bytes) (maxL := maxL) (ret := ret) ho hl hstt hini hcode hy hK hg (hsize.trans hml.symm) (argsL := As) (rest := rest) (fun sig h => hn.trans (hlen sig h)) hstack hW (by rw [hb]; exact hdg)
    (fun vm₁ hW₁ => ⟨hf.1, hf.2, hp.2 (T.setVm vm₁) hT hW₁⟩)
  dsimp only [Pt.U, Pt.locs, Pt.cells, Pt.slots] at X' e1 e2 h1 h2 h3 st
  subst h1; subst h2; subst h3
  exact ⟨v, (T.setVm vm₁).calling g' mk As.toArray, t, U', L, hT, X', hL, e1, e2, hq, st⟩
/-- not caught here, past rows that name other classes: it goes on to the caller -/
theorem vx_outP {p : Program} {l : Launch} {e : Env} {R : Room} {s : State} {m : MethodId} {args : Array Value} {below : List Frame} {meth : Method} {c : Code} {H : Heap} {locs : List Loc} {cells slots : Nat} {free : Addr → Prop} {ls : Array Slot} {rest : List Value} {Qc : Array Value → State → Outcome → State → Prop} {XC : String → State → State → Prop}
    {pc : Nat} {own E : String} {ce : Cell} {q : Addr} {mc ms : Nat} (hown : s.vm.findClass own = some m.cls) (hlocks : meth.locks = false)
    (hpass : ∀ z ∈ c.exceptionTable.toList, covers z pc = false ∨ (z.catchType ≠ 0 ∧ ∃ nm : String, (Cond.classLink own z.catchType nm).before args s = true ∧ va_Nc E nm s)) (hcell : H[q]? = some ce) (hv : ce.vm = .none) (hcl : s.vm.findClass E = some ce.cls)
    (hx : ∀ t : State, t.heap = H → s.vm.Alike t.vm → XC E s t) (hf : ∀ z ∈ locs, free z.base) (hc : cells ≤ mc) (hs : slots ≤ ms) :
    vx_W p l e R s m args below meth c H locs cells slots (vx_MQ below Qc XC args s mc ms free) (F0 m pc ls rest) q := by
  intro T hT X
  have hpl : e.platform.magicAccessors = ({} : Platform).magicAccessors := by rw [X.admits.platform]
  obtain ⟨vm', hW', X', st⟩ := X.outThrough hlocks q (g := F0 m pc ls rest) rfl rfl rfl (cell := ce) (by rw [hT]; exact hcell) (by rw [hv]; rfl)
    (by obtain ⟨k9, h9, -⟩ := Vm.findClass_spec hcl; exact ⟨k9, h9⟩) (fun z hz => by
      rcases hpass z hz with h | ⟨hz0, nm, hl1, hn1⟩
      · exact Or.inl h
      · obtain ⟨c6, hc6, hcl6⟩ := Cond.classLink_spec hown hl1 e.platform hpl
        obtain ⟨a8, b8, h1, h2, h3⟩ := hn1
        cases Option.some.inj (h1.symm.trans hcl)
        cases Option.some.inj (h2.symm.trans hc6)
        exact Or.inr ⟨hz0, _, hcl6, h3⟩)
  obtain ⟨g₀, hfr⟩ := X'.frames_eq
  have hcell9 : ((T.setVm vm').setFrames (.throwing q :: below)).heap[q]? = some ce := by
    show T.heap[q]? = some ce
    rw [hT]; exact hcell
  have hend : Ended ((T.setVm vm').setFrames (.throwing q :: below)) below (.threw q) := State.frames_setFrames _ (State.cur_lt_of_frames hfr)
  refine ⟨(T.setVm vm').setFrames (.throwing q :: below), ?_, .threw q, X'.here.running, hend, Or.inr ⟨q, rfl, E, ce, locs, hx _ hT (X'.ends _).1.alike, hcell9, hv, hcl, (X'.ends _).1, (X'.ends _).2.mono hc hs, hf⟩⟩
  rw [X.pushThrowing_eq]
  exact st
/-- a thing of a world lies in the heap -/
theorem vx_lt {D : va_G} {cl : List vw_C} {ws : va_W} {H1 : Heap} (h : va_P D cl ws H1) {k : Nat} {q : Nat × va_E} (hk : ws[k]? = some q) : q.1 < H1.size := (h k q hk).lt
end VXS
/-! ===== END ===== -/
/-! ===== BEGIN methods with a table of their own: called by a name, returning or throwing ===== -/
section VXH
/-! vx_backW, vx_callVX, vx_callSX, vx_callVW, vx_runVW, vx_runVX, vx_runSX, vx_ofWH follow the same proofs as their sisters above (Free/Laws.lean, Shelf42/LK1.lean); vx_outP calls Shelf42/NT130.lean (outThrough). -/
section
variable {l : Launch} {R : Room} {p : Program} {e : Env} {below : List Frame} {s : State} {sargs : Array Value} {y : MethodName} {len W9 : Nat}
theorem vx_backW {ws : List Cond} {rm : Room} {Pc : Array Value → State → Prop} {Qc : Array Value → State → Outcome → State → Prop} {XC : String → State → State → Prop} {mc ms : Nat} {free : Addr → Prop} {bytes : ByteArray} {maxL : Nat} {ret : Option FieldType} {hh : List (Nat × Nat × Nat × Nat)}
    (hM : vx_Met l y ws rm Pc Qc XC mc ms free) (hblind : FrameBlind Pc) (hrc : rm.cells = mc) (hrs : rm.slots = ms)
    (hframes : rm.frames + 1 ≤ R.frames) (hlocals : W9 + (maxL + 11) + rm.locals ≤ R.locals)
    (hws : ∀ w ∈ ws, ∀ a' U, s.WarmedH U.vm → w.before a' U = true) (hcode : Cond.codeWith y bytes maxL ret hh ∈ ws) (hinit : ∀ a' U, s.WarmedH U.vm → (Cond.initialized y.cls).before a' U = true) :
    vx_Back l R p e below s sargs y len W9 (PreOf R mc ms Pc) (PostOf Qc mc ms free) (vx_Post XC mc ms free) := by
  intro m meth c A g ig mk a X hg hsize hdg hW hn hp
  have h1 : (headSpec ws rm).pre.before a A.U = true := atoms_intro fun w hw => hws w hw _ _ X.warmed
  have h2 : (Cond.codeWith y bytes maxL ret hh).before a A.U = true := hws _ hcode _ _ X.warmed
  have h3 : (Cond.initialized y.cls).before a A.U = true := hinit _ _ X.warmed
  have h4 : A.cells + (headSpec ws rm).room.cells ≤ R.cells := by rw [show (headSpec ws rm).room.cells = mc from hrc]; exact hp.1
  have h5 : A.slots + (headSpec ws rm).room.slots ≤ R.slots := by rw [show (headSpec ws rm).room.slots = ms from hrs]; exact hp.2.1
  have hPc : Pc a (A.U.calling g mk a) := hblind _ _ _ _ hp.2.2
  obtain ⟨U, Ls, c0, s0⟩ := A
  dsimp only [Pt.U, Pt.locs, Pt.cells, Pt.slots] at h1 h2 h3 h4 h5 X hn hPc ⊢
  obtain ⟨m9, methY, cY, hn9, hmY, hcY, -, hlY, -⟩ := Cond.codeWith_spec h2
  cases Option.some.inj (hn9.symm.trans hn)
  obtain ⟨kY, hkY, -⟩ := className_of_methodNamed hn
  have hinitY : kY.init = .initialized := Cond.initialized_spec (findClass_of_methodNamed hn) hkY h3
  have h : At U g.method c below := by rw [hg]; exact X.here
  have hlocals9 : W9 + (maxL + 11) + (headSpec ws rm).room.locals ≤ R.locals := hlocals
  have happ : (headSpec ws rm).appliesLoose y e.platform (U.calling g mk a) = true :=
    Spec.appliesLoose_calling (g := g) h hdg hn hkY hinitY
      (X.room_calling (g := g) (R' := (headSpec ws rm).room) hsize hmY hcY hframes (by rw [hlY]; omega) h4 h5) h1
  obtain ⟨mid, hmid⟩ := h.above
  have hfr : (U.setTop g).frames = (.java g :: mid) ++ below := by rw [State.frames_setTop' g h.top, hmid]; rfl
  obtain ⟨o, s₂, hsteps, -, hend, hq⟩ := Steps.callFree hM p X.admits X.cas X.clock (acts := []) hfr happ hPc trivial
  have hq' : vx_Q Qc XC mc ms free a (U.calling g mk a) o s₂ := hq
  rw [State.frames_setTop' g h.top] at hend
  obtain ⟨g₀, hg0⟩ := Option.isSome_iff_exists.mp h.top
  obtain ⟨r, hr⟩ := State.topJava?_eq_some.mp hg0
  have hr' : (({ U with heap := s₂.heap, slotsUsed := s₂.slotsUsed } : State).setVm s₂.vm).frames = .java g₀ :: r := hr
  rcases hq' with ⟨hqc, L, hfe, hL⟩ | ⟨q, rfl, E, ce, L, hx, hce, hcv, hcl, hW₂, hsm, hL⟩
  · obtain ⟨⟨v, rfl⟩, hW₂, e2, q2, q3, q4, q5, q6⟩ := id hfe
    have e3 : s₂ = ({ (U.calling g mk a).setFrames s₂.frames with heap := s₂.heap, slotsUsed := s₂.slotsUsed } : State).setVm s₂.vm := by
      have : s₂ = ({ s₂ with vm := (U.calling g mk a).vm } : State).setVm s₂.vm := rfl
      rw [e2] at this
      exact this
    obtain ⟨c₂, i₂, len₂, hc₂, hd₂, hf₂⟩ := hend
    have hW' : U.WarmedH s₂.vm := hW₂
    have hcc : c₂ = c := by
      have h1 : s₂.code? g.method = U.code? g.method := by
        rw [State.code?_eq, State.code?_eq, hW'.alike.method?]
      exact Option.some.inj (hc₂.symm.trans (h1.trans h.code))
    subst hcc
    have hlen : len₂ = len := by rw [hdg] at hd₂; cases hd₂; rfl
    subst hlen
    have hs₂ : s₂ = (({ U with heap := s₂.heap, slotsUsed := s₂.slotsUsed } : State).setVm s₂.vm).setTop { g with pc := g.pc + len₂, stack := v.toList ++ g.stack } := by
      refine e3.trans ?_
      rw [hf₂, State.calling_eq h.top, State.setFrames_setFrames, State.setTop_of_frames _ hr', hr]
      rfl
    have hsame : U.sameButNew ({ U with heap := s₂.heap, slotsUsed := s₂.slotsUsed } : State) L mc ms := by
      refine ⟨?_, q2, q3, q4, q5, q6⟩
      obtain ⟨t, ht, -⟩ := State.frames_cons hr
      show ({ U with heap := s₂.heap, slotsUsed := s₂.slotsUsed } : State) = { U.setFrames U.frames with heap := s₂.heap, slotsUsed := s₂.slotsUsed }
      rw [State.setFrames_self ht]
    subst hg
    refine Or.inl ⟨v, ⟨(({ U with heap := s₂.heap, slotsUsed := s₂.slotsUsed } : State).setVm s₂.vm), Ls ++ L, c0 + mc, s0 + ms⟩,
      ⟨X.admits, X.cas, X.clock, X.frames, X.room, X.hears, X.method, X.code, (X.here.setHeapUsed s₂.heap s₂.slotsUsed).setVm hW'.alike, X.tail, State.WarmedH.trans X.warmed hW', X.limits, X.bytes, X.same.trans (hsame.setVm s.vm)⟩,
      ⟨g, mk, s₂, L, rfl, rfl, hqc, rfl, hL, rfl, rfl⟩, ?_⟩
    show Steps p.tables e below _ ((({ U with heap := s₂.heap, slotsUsed := s₂.slotsUsed } : State).setVm s₂.vm).setTop { g with pc := g.pc + len₂, stack := v.toList ++ g.stack })
    rw [← hs₂]
    exact hsteps
  · obtain ⟨e2, q2, q3, q4, q5, q6⟩ := id hsm
    have e3 : s₂ = ({ (U.calling g mk a).setFrames s₂.frames with heap := s₂.heap, slotsUsed := s₂.slotsUsed } : State).setVm s₂.vm := by
      have : s₂ = ({ s₂ with vm := (U.calling g mk a).vm } : State).setVm s₂.vm := rfl
      rw [e2] at this
      exact this
    have hf₂ : s₂.frames = .throwing q :: .java g :: U.frames.tail := hend
    have hW' : U.WarmedH s₂.vm := hW₂
    have hs₂ : s₂ = ((({ U with heap := s₂.heap, slotsUsed := s₂.slotsUsed } : State).setVm s₂.vm).setTop g).pushFrame (.throwing q) := by
      refine e3.trans ?_
      rw [hf₂, State.calling_eq h.top, State.setFrames_setFrames, State.pushFrame, State.frames_setTop _ hr', State.setTop_of_frames _ hr', State.setFrames_setFrames, hr]
      rfl
    have hsame : U.sameButNew ({ U with heap := s₂.heap, slotsUsed := s₂.slotsUsed } : State) L mc ms := by
      refine ⟨?_, q2, q3, q4, q5, q6⟩
      obtain ⟨t, ht, -⟩ := State.frames_cons hr
      show ({ U with heap := s₂.heap, slotsUsed := s₂.slotsUsed } : State) = { U.setFrames U.frames with heap := s₂.heap, slotsUsed := s₂.slotsUsed }
      rw [State.setFrames_self ht]
    subst hg
    refine Or.inr ⟨q, ⟨(({ U with heap := s₂.heap, slotsUsed := s₂.slotsUsed } : State).setVm s₂.vm), Ls ++ L, c0 + mc, s0 + ms⟩,
      ⟨X.admits, X.cas, X.clock, X.frames, X.room, X.hears, X.method, X.code, (X.here.setHeapUsed s₂.heap s₂.slotsUsed).setVm hW'.alike, X.tail, State.WarmedH.trans X.warmed hW', X.limits, X.bytes, X.same.trans (hsame.setVm s.vm)⟩,
      ⟨g, mk, s₂, L, E, ce, rfl, rfl, hx, hce, hcv, hcl, rfl, hL, rfl, rfl⟩, ?_⟩
    show Steps p.tables e below _ (((({ U with heap := s₂.heap, slotsUsed := s₂.slotsUsed } : State).setVm s₂.vm).setTop g).pushFrame (.throwing q))
    rw [← hs₂]
    exact hsteps
end
variable {p : Program} {l : Launch} {e : Env} {R : Room} {s : State} {m : MethodId} {args : Array Value} {below : List Frame} {meth : Method} {c : Code} {T : State} {H : Heap} {locs : List Loc} {cells slots : Nat}
theorem vx_callVX (X : Stand p l e R s m args below meth c T locs cells slots) (hexec : p.tables.exec = Jvm.exec) {own C : String} {index : Nat} {y : MethodName} {bytes : ByteArray} {maxL : Nat} {ret : Option FieldType} {hh : List (Nat × Nat × Nat × Nat)}
    (hown : s.vm.findClass own = some m.cls) (hlink : (Cond.methodLink own index y).before args s = true) (hinst : (Cond.instanceMethod y).before args s = true) (hsel : (Cond.selects C y y).before args s = true)
    (hcode : (Cond.codeWith y bytes maxL ret hh).before args s = true) (hy : y.cls ≠ "java/lang/invoke/MethodHandle" ∧ y.cls ≠ "java/lang/invoke/VarHandle")
    {W9 : Nat} {Pre : Pt → Array Value → Prop} {Post : Pt → Array Value → Option Value → Pt → Prop} {PostX : Pt → Array Value → Addr → Pt → Prop} (hK : vx_Back l R p e below s args y 3 W9 Pre Post PostX)
    {b : Addr} {cellB : Cell} (hcell : T.heap[b]? = some cellB) (hobj : cellB.vm.isStatics = false) (hcls : s.vm.findClass C = some cellB.cls)
    {g : JFrame} (hg : g.method = m) (hsize : g.locals.size = c.maxLocals) {argsL rest : List Value} (hlen : ∀ sig, parseMethodDescriptor y.desc = some sig → argsL.length = sig.parameters.length)
    (hstack : g.stack = argsL.reverse ++ .ref b :: rest) (hW : 2 * g.monitorRoom + (rest.map fun v => v.category).sum ≤ W9) (hdg : decode c.code g.pc = .ok (.invokevirtual index, 3))
    (hpre : ∀ vm₁, s.WarmedH vm₁ → Pre ⟨T.setVm vm₁, locs, cells, slots⟩ (Value.ref b :: argsL).toArray) :
    (∃ (v : Option Value) (vm₁ : Vm) (B : Pt), s.WarmedH vm₁ ∧ Stand p l e R s m args below meth c B.U B.locs B.cells B.slots ∧ Post ⟨T.setVm vm₁, locs, cells, slots⟩ (Value.ref b :: argsL).toArray v B ∧
      ∀ target, Steps p.tables e below (B.U.setTop { g with pc := g.pc + 3, stack := v.toList ++ rest }) target → Steps p.tables e below (T.setTop g) target) ∨
    (∃ (q : Addr) (vm₁ : Vm) (B : Pt), s.WarmedH vm₁ ∧ Stand p l e R s m args below meth c B.U B.locs B.cells B.slots ∧ PostX ⟨T.setVm vm₁, locs, cells, slots⟩ (Value.ref b :: argsL).toArray q B ∧
      Steps p.tables e below (T.setTop g) ((B.U.setTop { g with stack := rest }).pushFrame (.throwing q))) := by
  obtain ⟨mk, methM, hnamed, hmethM, hstM, habM⟩ := Cond.instanceMethod_spec hinst
  obtain ⟨m8, methM', cM, hn8, hmethM', -, -, -, -, -, -, hsigM⟩ := Cond.codeWith_spec hcode
  cases Option.some.inj (hn8.symm.trans hnamed)
  cases hmethM.symm.trans hmethM'
  obtain ⟨c2, r2, m2, q1, q2, q3, q4, kP, hkP, hkPi⟩ := Cond.selects_spec hsel
  cases hcls.symm.trans q1
  cases (State.methodFound?_of_named hnamed hy).symm.trans q2
  cases hnamed.symm.trans q3
  have hselP : selectMethod e.platform s.vm cellB.cls mk = .method mk := by rw [Launch.admits_selectMethod X.admits]; exact q4
  obtain ⟨vm₁, X₁, hstep₁⟩ := X.invokevirtual hexec hown hlink hnamed hmethM hstM hkP hkPi hy (a := b) (cell := cellB) hcell
    (fun z h => by rw [h] at hobj; cases hobj) hselP hmethM habM hkP hkPi (g := g) hg (argsL := argsL) (rest := rest) (hlen _ hsigM) hstack hdg
  rcases hK m meth c ⟨T.setVm vm₁, locs, cells, slots⟩ { g with stack := rest } (.invokevirtual index) mk (Value.ref b :: argsL).toArray X₁ hg hsize hdg hW (X₁.named hnamed) (hpre vm₁ X₁.warmed) with ⟨v, B, X', hpost, hsteps⟩ | ⟨q, B, X', hpost, hsteps⟩
  · exact Or.inl ⟨v, vm₁, B, X₁.warmed, X', hpost, fun target h => hstep₁ _ fun acts => by rw [doInvoke_state]; exact hsteps.trans h⟩
  · exact Or.inr ⟨q, vm₁, B, X₁.warmed, X', hpost, hstep₁ _ fun acts => by rw [doInvoke_state]; exact hsteps⟩
theorem vx_callSX (X : Stand p l e R s m args below meth c T locs cells slots) (hexec : p.tables.exec = Jvm.exec) {own : String} {index : Nat} {y : MethodName} {bytes : ByteArray} {maxL : Nat} {ret : Option FieldType} {hh : List (Nat × Nat × Nat × Nat)}
    (hown : s.vm.findClass own = some m.cls) (hlink : (Cond.methodLink own index y).before args s = true) (hstat : (Cond.static y).before args s = true) (hinit : (Cond.initialized y.cls).before args s = true)
    (hcode : (Cond.codeWith y bytes maxL ret hh).before args s = true) (hy : y.cls ≠ "java/lang/invoke/MethodHandle" ∧ y.cls ≠ "java/lang/invoke/VarHandle")
    {W9 : Nat} {Pre : Pt → Array Value → Prop} {Post : Pt → Array Value → Option Value → Pt → Prop} {PostX : Pt → Array Value → Addr → Pt → Prop} (hK : vx_Back l R p e below s args y 3 W9 Pre Post PostX)
    {g : JFrame} (hg : g.method = m) (hsize : g.locals.size = c.maxLocals) {argsL rest : List Value} (hlen : ∀ sig, parseMethodDescriptor y.desc = some sig → argsL.length = sig.parameters.length)
    (hstack : g.stack = argsL.reverse ++ rest) (hW : 2 * g.monitorRoom + (rest.map fun v => v.category).sum ≤ W9) (hdg : decode c.code g.pc = .ok (.invokestatic index, 3))
    (hpre : ∀ vm₁, s.WarmedH vm₁ → Pre ⟨T.setVm vm₁, locs, cells, slots⟩ argsL.toArray) :
    (∃ (v : Option Value) (vm₁ : Vm) (B : Pt), s.WarmedH vm₁ ∧ Stand p l e R s m args below meth c B.U B.locs B.cells B.slots ∧ Post ⟨T.setVm vm₁, locs, cells, slots⟩ argsL.toArray v B ∧
      ∀ target, Steps p.tables e below (B.U.setTop { g with pc := g.pc + 3, stack := v.toList ++ rest }) target → Steps p.tables e below (T.setTop g) target) ∨
    (∃ (q : Addr) (vm₁ : Vm) (B : Pt), s.WarmedH vm₁ ∧ Stand p l e R s m args below meth c B.U B.locs B.cells B.slots ∧ PostX ⟨T.setVm vm₁, locs, cells, slots⟩ argsL.toArray q B ∧
      Steps p.tables e below (T.setTop g) ((B.U.setTop { g with stack := rest }).pushFrame (.throwing q))) := by
  obtain ⟨mk, methM, cM, hnamed, hmethM, -, -, -, -, -, -, hsigM⟩ := Cond.codeWith_spec hcode
  have hstatic : methM.isStatic = true := Cond.static_spec hnamed hmethM hstat
  obtain ⟨kP, hkP, -⟩ := className_of_methodNamed hnamed
  have hinitP : kP.init = .initialized := Cond.initialized_spec (findClass_of_methodNamed hnamed) hkP hinit
  obtain ⟨vm₁, X₁, hstep₁⟩ := X.invokestatic hexec hown hlink hnamed hmethM hstatic hkP hinitP hy (g := g) hg (argsL := argsL) (rest := rest) (hlen _ hsigM) hstack hdg
  rcases hK m meth c ⟨T.setVm vm₁, locs, cells, slots⟩ { g with stack := rest } (.invokestatic index) mk argsL.toArray X₁ hg hsize hdg hW (X₁.named hnamed) (hpre vm₁ X₁.warmed) with ⟨v, B, X', hpost, hsteps⟩ | ⟨q, B, X', hpost, hsteps⟩
  · exact Or.inl ⟨v, vm₁, B, X₁.warmed, X', hpost, fun target h => hstep₁ _ fun acts => by rw [doInvoke_state]; exact hsteps.trans h⟩
  · exact Or.inr ⟨q, vm₁, B, X₁.warmed, X', hpost, hstep₁ _ fun acts => by rw [doInvoke_state]; exact hsteps⟩
theorem vx_callVW (X : Stand p l e R s m args below meth c T locs cells slots) (hexec : p.tables.exec = Jvm.exec) {own C : String} {index : Nat} {y : MethodName} {bytes : ByteArray} {maxL : Nat} {ret : Option FieldType} {hh : List (Nat × Nat × Nat × Nat)}
    (hown : s.vm.findClass own = some m.cls) (hlink : (Cond.methodLink own index y).before args s = true) (hinst : (Cond.instanceMethod y).before args s = true) (hsel : (Cond.selects C y y).before args s = true)
    (hcode : (Cond.codeWith y bytes maxL ret hh).before args s = true) (hy : y.cls ≠ "java/lang/invoke/MethodHandle" ∧ y.cls ≠ "java/lang/invoke/VarHandle")
    {W9 : Nat} {Pre : Pt → Array Value → Prop} {Post : Pt → Array Value → Option Value → Pt → Prop} (hK : Back l R p e below s args y 3 W9 Pre Post)
    {b : Addr} {cellB : Cell} (hcell : T.heap[b]? = some cellB) (hobj : cellB.vm.isStatics = false) (hcls : s.vm.findClass C = some cellB.cls)
    {g : JFrame} (hg : g.method = m) (hsize : g.locals.size = c.maxLocals) {argsL rest : List Value} (hlen : ∀ sig, parseMethodDescriptor y.desc = some sig → argsL.length = sig.parameters.length)
    (hstack : g.stack = argsL.reverse ++ .ref b :: rest) (hW : 2 * g.monitorRoom + (rest.map fun v => v.category).sum ≤ W9) (hdg : decode c.code g.pc = .ok (.invokevirtual index, 3))
    (hpre : ∀ vm₁, s.WarmedH vm₁ → Pre ⟨T.setVm vm₁, locs, cells, slots⟩ (Value.ref b :: argsL).toArray) :
    ∃ (v : Option Value) (vm₁ : Vm) (B : Pt), s.WarmedH vm₁ ∧ Stand p l e R s m args below meth c B.U B.locs B.cells B.slots ∧ Post ⟨T.setVm vm₁, locs, cells, slots⟩ (Value.ref b :: argsL).toArray v B ∧
      ∀ target, Steps p.tables e below (B.U.setTop { g with pc := g.pc + 3, stack := v.toList ++ rest }) target → Steps p.tables e below (T.setTop g) target := by
  obtain ⟨mk, methM, hnamed, hmethM, hstM, habM⟩ := Cond.instanceMethod_spec hinst
  obtain ⟨m8, methM', cM, hn8, hmethM', -, -, -, -, -, -, hsigM⟩ := Cond.codeWith_spec hcode
  cases Option.some.inj (hn8.symm.trans hnamed)
  cases hmethM.symm.trans hmethM'
  obtain ⟨c2, r2, m2, q1, q2, q3, q4, kP, hkP, hkPi⟩ := Cond.selects_spec hsel
  cases hcls.symm.trans q1
  cases (State.methodFound?_of_named hnamed hy).symm.trans q2
  cases hnamed.symm.trans q3
  have hselP : selectMethod e.platform s.vm cellB.cls mk = .method mk := by rw [Launch.admits_selectMethod X.admits]; exact q4
  obtain ⟨vm₁, X₁, hstep₁⟩ := X.invokevirtual hexec hown hlink hnamed hmethM hstM hkP hkPi hy (a := b) (cell := cellB) hcell
    (fun z h => by rw [h] at hobj; cases hobj) hselP hmethM habM hkP hkPi (g := g) hg (argsL := argsL) (rest := rest) (hlen _ hsigM) hstack hdg
  obtain ⟨v, B, X', hpost, hsteps⟩ := hK m meth c ⟨T.setVm vm₁, locs, cells, slots⟩ { g with stack := rest } (.invokevirtual index) mk (Value.ref b :: argsL).toArray X₁ hg hsize hdg hW (X₁.named hnamed) (hpre vm₁ X₁.warmed)
  exact ⟨v, vm₁, B, X₁.warmed, X', hpost, fun target h => hstep₁ _ fun acts => by rw [doInvoke_state]; exact hsteps.trans h⟩
abbrev vx_CVW (R : Room) (s : State) (args : Array Value) (own C : String) (index : Nat) (y : MethodName) (bytes : ByteArray) (maxL : Nat) (ret : Option FieldType) (hh : List (Nat × Nat × Nat × Nat)) (ws : List Cond) (rm : Room) (mc ms n : Nat) : Prop :=
  (rm.cells = mc ∧ rm.slots = ms ∧ rm.frames + 1 ≤ R.frames ∧ 8 + (maxL + 11) + rm.locals ≤ R.locals ∧ (∀ w ∈ ws, ∀ (a' : Array Value) (U : State), s.WarmedH U.vm → w.before a' U = true) ∧ Cond.codeWith y bytes maxL ret hh ∈ ws) ∧
  (Cond.codeWith y bytes maxL ret hh).before args s = true ∧ (Cond.initialized y.cls).before args s = true ∧ (y.cls ≠ "java/lang/invoke/MethodHandle" ∧ y.cls ≠ "java/lang/invoke/VarHandle") ∧
  (∀ sig, parseMethodDescriptor y.desc = some sig → n = sig.parameters.length) ∧ (Cond.methodLink own index y).before args s = true ∧ (Cond.instanceMethod y).before args s = true ∧ (Cond.selects C y y).before args s = true
theorem vx_cwVW {own C : String} {index maxL mc ms : Nat} {y : MethodName} {bytes : ByteArray} {ret : Option FieldType} {hh : List (Nat × Nat × Nat × Nat)} {Ts ws ws' : List Cond} {rm : Room} (n : Nat) (ht : ∀ w ∈ Ts, w.before args s = true) (hT : GoodIn Ts (wsV own index C y ws)) (hw : ws = Cond.codeWith y bytes maxL ret hh :: ws') (hrc : rm.cells = mc) (hrs : rm.slots = ms)
    (hd : y.cls = C ∧ y.cls ≠ "java/lang/invoke/MethodHandle" ∧ y.cls ≠ "java/lang/invoke/VarHandle" ∧ (parseMethodDescriptor y.desc).map (fun d => d.parameters.length) = some n) (hR : rm.frames + 1 ≤ R.frames ∧ 8 + (maxL + 11) + rm.locals ≤ R.locals) :
    vx_CVW R s args own C index y bytes maxL ret hh ws rm mc ms n := by
  obtain ⟨hC, hd⟩ := hd
  subst hC
  have ok : ∀ w ∈ wsV own index y.cls y ws, w.before args s = true := fun w h => ht w (hT w h).1
  have hG : GoodIn Ts ws := fun w h => hT w (by unfold wsV; exact List.mem_append_right _ h)
  have hc : Cond.codeWith y bytes maxL ret hh ∈ ws := by rw [hw]; exact List.mem_cons_self
  refine ⟨⟨hrc, hrs, hR.1, hR.2, pay_in ht hG, hc⟩, ht _ (hG _ hc).1, ok _ (by simp [wsV]), ⟨hd.1, hd.2.1⟩, fun sig h => ?_, ok _ (by simp [wsV]), ok _ (by simp [wsV]), ok _ (by simp [wsV])⟩
  have h2 := hd.2.2
  rw [h] at h2
  exact (Option.some.inj h2).symm
theorem vx_runVW {y : MethodName} {bytes cc : ByteArray} {maxL nL mc ms n index : Nat} {ret : Option FieldType} {hh : List (Nat × Nat × Nat × Nat)} {ws : List Cond} {rm : Room} {Pc : Array Value → State → Prop} {Qc : Array Value → State → Outcome → State → Prop} {free : Addr → Prop} {Ts : List Cond} {own C : String} {b : Addr} {As rest : List Value} {g : JFrame}
    (S : CallFix p m c cc nL s args Ts own) (hM : Met l y ws rm Pc Qc mc ms free) (cw : vx_CVW R s args own C index y bytes maxL ret hh ws rm mc ms n) (hp : PreV s H C b Pc As)
    (hg : g.method = m) (hn : As.length = n) (hsize : g.locals.size = nL) (hstack : g.stack = As.reverse ++ .ref b :: rest) (hW : 2 * g.monitorRoom + (rest.map fun v => v.category).sum ≤ 8) (hdg : decode cc g.pc = .ok (.invokevirtual index, 3)) (hf : cells + mc ≤ R.cells ∧ slots + ms ≤ R.slots) :
    va_Run p l e R s m args below meth c H locs cells slots mc ms g rest (Qc (Value.ref b :: As).toArray) free := by
  obtain ⟨⟨hrc, hrs, hfr, hlo, hws, hcw⟩, hcode, hini, hy, hlen, hl, hin, hse⟩ := cw
  have hK : Back l R p e below s args y 3 8 (PreOf R mc ms Pc) (PostOf Qc mc ms free) := va_backW (hh := hh) (bytes := bytes) (maxL := maxL) (ret := ret) hM hp.1 hrc hrs hfr hlo hws hcw (fun a' U hW => word_at hW (Or.inl (by first | rfl | simp [Cond.onTables, Cond.keeps, Cond.steady])) hini)
  obtain ⟨hx, hb, hml, ho, -⟩ := S
  obtain ⟨-, ⟨cellB, hcB, hoB, hclB⟩, hPc⟩ := hp
  intro T hT X
  obtain ⟨v, vm₁, ⟨U', l2, c2, s2⟩, hW₁, X', ⟨g', mk, t, L, e1, e2, hq, h1, hL, h2, h3⟩, st⟩ := vx_callVW X hx (C := C) (hh := hh) (bytes := bytes) (maxL := maxL) (ret := ret) ho hl hin hse hcode hy hK (by rw [hT]; exact hcB) hoB hclB hg (hsize.trans hml.symm) (argsL := As) (rest := rest) (fun sig h => hn.trans (hlen sig h)) hstack hW (by rw [hb]; exact hdg)
    (fun vm₁ hW₁ => ⟨hf.1, hf.2, hPc (T.setVm vm₁) hT hW₁⟩)
  dsimp only [Pt.U, Pt.locs, Pt.cells, Pt.slots] at X' e1 e2 h1 h2 h3 st
  subst h1; subst h2; subst h3
  exact ⟨v, (T.setVm vm₁).calling g' mk (Value.ref b :: As).toArray, t, U', L, hT, X', hL, e1, e2, hq, st⟩
section
variable {y : MethodName} {bytes cc : ByteArray} {maxL nL mc ms n index : Nat} {ret : Option FieldType} {ws : List Cond} {rm : Room} {Pc : Array Value → State → Prop} {Qc : Array Value → State → Outcome → State → Prop} {XC : String → State → State → Prop} {free : Addr → Prop} {Ts : List Cond} {own C : String} {b : Addr} {As rest : List Value} {g : JFrame}
theorem vx_runVX {hh : List (Nat × Nat × Nat × Nat)} (S : CallFix p m c cc nL s args Ts own) (hM : vx_Met l y ws rm Pc Qc XC mc ms free) (cw : vx_CVW R s args own C index y bytes maxL ret hh ws rm mc ms n) (hp : PreV s H C b Pc As)
    (hg : g.method = m) (hn : As.length = n) (hsize : g.locals.size = nL) (hstack : g.stack = As.reverse ++ .ref b :: rest) (hW : 2 * g.monitorRoom + (rest.map fun v => v.category).sum ≤ 8) (hdg : decode cc g.pc = .ok (.invokevirtual index, 3)) (hf : cells + mc ≤ R.cells ∧ slots + ms ≤ R.slots) :
    vx_Run p l e R s m args below meth c H locs cells slots mc ms g rest (Qc (Value.ref b :: As).toArray) XC free := by
  obtain ⟨⟨hrc, hrs, hfr, hlo, hws, hcw⟩, hcode, hini, hy, hlen, hl, hin, hse⟩ := cw
  have hK : vx_Back l R p e below s args y 3 8 (PreOf R mc ms Pc) (PostOf Qc mc ms free) (vx_Post XC mc ms free) := vx_backW (hh := hh) (bytes := bytes) (maxL := maxL) (ret := ret) hM hp.1 hrc hrs hfr hlo hws hcw (fun a' U hW => word_at hW (Or.inl (by first | rfl | simp [Cond.onTables, Cond.keeps, Cond.steady])) hini)
  obtain ⟨hx, hb, hml, ho, -⟩ := S
  obtain ⟨-, ⟨cellB, hcB, hoB, hclB⟩, hPc⟩ := hp
  intro T hT X
  rcases vx_callVX X hx (C := C) (hh := hh) (bytes := bytes) (maxL := maxL) (ret := ret) ho hl hin hse hcode hy hK (by rw [hT]; exact hcB) hoB hclB hg (hsize.trans hml.symm) (argsL := As) (rest := rest) (fun sig h => hn.trans (hlen sig h)) hstack hW (by rw [hb]; exact hdg)
    (fun vm₁ hW₁ => ⟨hf.1, hf.2, hPc (T.setVm vm₁) hT hW₁⟩) with ⟨v, vm₁, ⟨U', l2, c2, s2⟩, hW₁, X', ⟨g', mk, t, L, e1, e2, hq, h1, hL, h2, h3⟩, st⟩ | ⟨q, vm₁, ⟨U', l2, c2, s2⟩, hW₁, X', ⟨g', mk, t, L, E, ce, e1, e2, hq, hce, hcv, hcl, h1, hL, h2, h3⟩, st⟩
  · dsimp only [Pt.U, Pt.locs, Pt.cells, Pt.slots] at X' e1 e2 h1 h2 h3 st
    subst h1; subst h2; subst h3
    exact Or.inl ⟨v, (T.setVm vm₁).calling g' mk (Value.ref b :: As).toArray, t, U', L, hT, X', hL, e1, e2, hq, st⟩
  · dsimp only [Pt.U, Pt.locs, Pt.cells, Pt.slots] at X' e1 e2 h1 h2 h3 st hcl
    subst h1; subst h2; subst h3
    exact Or.inr ⟨q, (T.setVm vm₁).calling g' mk (Value.ref b :: As).toArray, t, U', L, E, ce, hT, X', hL, e1, e2, hq, hce, hcv, vx_cls hW₁ hcl, st⟩
theorem vx_runSX {hh : List (Nat × Nat × Nat × Nat)} (S : CallFix p m c cc nL s args Ts own) (hM : vx_Met l y ws rm Pc Qc XC mc ms free) (cw : vx_CSW R s args own index y bytes maxL ret hh ws rm mc ms n) (hp : PreS s H Pc As)
    (hg : g.method = m) (hn : As.length = n) (hsize : g.locals.size = nL) (hstack : g.stack = As.reverse ++ rest) (hW : 2 * g.monitorRoom + (rest.map fun v => v.category).sum ≤ 8) (hdg : decode cc g.pc = .ok (.invokestatic index, 3)) (hf : cells + mc ≤ R.cells ∧ slots + ms ≤ R.slots) :
    vx_Run p l e R s m args below meth c H locs cells slots mc ms g rest (Qc As.toArray) XC free := by
  obtain ⟨⟨hrc, hrs, hfr, hlo, hws, hcw⟩, hcode, hini, hy, hlen, hl, hstt⟩ := cw
  have hK : vx_Back l R p e below s args y 3 8 (PreOf R mc ms Pc) (PostOf Qc mc ms free) (vx_Post XC mc ms free) := vx_backW (hh := hh) (bytes := bytes) (maxL := maxL) (ret := ret) hM hp.1 hrc hrs hfr hlo hws hcw (fun a' U hW => word_at hW (Or.inl (by first | rfl | simp [Cond.onTables, Cond.keeps, Cond.steady])) hini)
  obtain ⟨hx, hb, hml, ho, -⟩ := S
  intro T hT X
  rcases vx_callSX X hx (hh := hh) (bytes := bytes) (maxL := maxL) (ret := ret) ho hl hstt hini hcode hy hK hg (hsize.trans hml.symm) (argsL := As) (rest := rest) (fun sig h => hn.trans (hlen sig h)) hstack hW (by rw [hb]; exact hdg)
    (fun vm₁ hW₁ => ⟨hf.1, hf.2, hp.2 (T.setVm vm₁) hT hW₁⟩) with ⟨v, vm₁, ⟨U', l2, c2, s2⟩, hW₁, X', ⟨g', mk, t, L, e1, e2, hq, h1, hL, h2, h3⟩, st⟩ | ⟨q, vm₁, ⟨U', l2, c2, s2⟩, hW₁, X', ⟨g', mk, t, L, E, ce, e1, e2, hq, hce, hcv, hcl, h1, hL, h2, h3⟩, st⟩
  · dsimp only [Pt.U, Pt.locs, Pt.cells, Pt.slots] at X' e1 e2 h1 h2 h3 st
    subst h1; subst h2; subst h3
    exact Or.inl ⟨v, (T.setVm vm₁).calling g' mk As.toArray, t, U', L, hT, X', hL, e1, e2, hq, st⟩
  · dsimp only [Pt.U, Pt.locs, Pt.cells, Pt.slots] at X' e1 e2 h1 h2 h3 st hcl
    subst h1; subst h2; subst h3
    exact Or.inr ⟨q, (T.setVm vm₁).calling g' mk As.toArray, t, U', L, E, ce, hT, X', hL, e1, e2, hq, hce, hcv, vx_cls hW₁ hcl, st⟩
end
end VXH
theorem vx_ofWH {l : Launch} {y : MethodName} {ws ws' : List Cond} {rm : Room} {Pc : Array Value → State → Prop} {Qc : Array Value → State → Outcome → State → Prop} {XC : String → State → State → Prop} {mc ms : Nat} {free : Addr → Prop} {cc : ByteArray} {maxL : Nat} {ret : Option FieldType} {hh : List (Nat × Nat × Nat × Nat)}
    (hy : plainName y.cls = true) (hw : ws = Cond.codeWith y cc maxL ret hh :: ws')
    (body : ∀ p e s m args below meth c s₁, BodyLoose p l y (headSpec ws rm) cc maxL ret e s m args below meth c s₁ → c.maxLocals = maxL → Pc args s →
      W p l e (headSpec ws rm).room s m args below meth c s.heap [] 0 0 (vx_MQ below Qc XC args s mc ms free) (entryFrame m args maxL)) : vx_Met l y ws rm Pc Qc XC mc ms free := by
  refine MetFree.of_bodyS (code := cc) (maxLocals := maxL) (ret := ret) hy ?_ ?_
  · intro args s m h hn
    obtain ⟨m9, meth, c, hn9, h1, h2, h3, h4, -, h5, h6, -⟩ := Cond.codeWith_spec (atoms_spec (ws := ws) h _ (by rw [hw]; exact List.mem_cons_self))
    cases hn.symm.trans hn9
    exact ⟨meth, c, h1, h2, h3, h4, h5, h6⟩
  · intro p e s m args below meth c s₁ B hml hP _
    have hh0 : s₁.heap = s.heap := by rw [B.state]; rfl
    obtain ⟨t, a1, o, b1, b2, b3⟩ := body p e s m args below meth c s₁ B hml hP s₁ hh0 (Stand.of_body B)
    exact ⟨t, o, a1, b1, b2, b3⟩
/-! ===== END ===== -/
end
section
def RX0 : String := "NameBenches$Letters"
def TX0 : u_T := fun k => match k with
  | _ => ("", "", "", false)
def tyX0 : Nat → FieldType := fun k => match k with
  | _ => .int
abbrev wsX00 : List Cond := u_ws RX0 TX0 0
theorem nmX0 : ∀ a, a < 0 → ∀ b, b < 0 → a ≠ b → (TX0 a).2.1 ≠ (TX0 b).2.1 := by decide +kernel
theorem tyX0_ok : ∀ k, k < 0 → parseFieldDescriptor (TX0 k).2.2.1 = some (tyX0 k) := by decide +kernel
abbrev cX0_codes : ByteArray := prog_2_method_2_code
def yX0_codes : MethodName := ⟨RX0, "codes", "(I)I"⟩
abbrev cX0_isCode : ByteArray := prog_2_method_3_code
def yX0_isCode : MethodName := ⟨RX0, "isCode", "(II)Z"⟩
abbrev cX0_at : ByteArray := prog_2_method_4_code
def yX0_at : MethodName := ⟨RX0, "at", "(III)I"⟩
abbrev cX0_dictionaryKey : ByteArray := prog_2_method_5_code
def yX0_dictionaryKey : MethodName := ⟨RX0, "dictionaryKey", "(II)I"⟩
abbrev cX0_isRepeated : ByteArray := prog_2_method_6_code
def yX0_isRepeated : MethodName := ⟨RX0, "isRepeated", "(III)Z"⟩
def RX1 : String := "NameBenches$NameSearch"
def TX1 : u_T := fun k => match k with
  | _ => ("NameBenches$NameSearch", "namesWith", "[I", true)
def tyX1 : Nat → FieldType := fun k => match k with
  | _ => .array .int
abbrev wsX10 : List Cond := u_ws RX1 TX1 1
theorem nmX1 : ∀ a, a < 1 → ∀ b, b < 1 → a ≠ b → (TX1 a).2.1 ≠ (TX1 b).2.1 := by decide +kernel
theorem tyX1_ok : ∀ k, k < 1 → parseFieldDescriptor (TX1 k).2.2.1 = some (tyX1 k) := by decide +kernel
abbrev cX1_init : ByteArray := prog_3_method_1_code
def yX1_init : MethodName := ⟨RX1, "<init>", "()V"⟩
abbrev cX1_bestCode : ByteArray := prog_3_method_2_code
def yX1_bestCode : MethodName := ⟨RX1, "bestCode", "(LNameBenches$Registry;III)I"⟩
abbrev cX1_countNames : ByteArray := prog_3_method_3_code
def yX1_countNames : MethodName := ⟨RX1, "countNames", "(LNameBenches$Names;)V"⟩
abbrev cX1_countLetters : ByteArray := prog_3_method_4_code
def yX1_countLetters : MethodName := ⟨RX1, "countLetters", "(II)V"⟩
abbrev cX1_namesWithLettersOf : ByteArray := prog_3_method_5_code
def yX1_namesWithLettersOf : MethodName := ⟨RX1, "namesWithLettersOf", "(II)I"⟩
def RX2 : String := "NameBenches$Names"
def TX2 : u_T := fun k => match k with
  | 0 => ("NameBenches$Names", "count", "I", false)
  | 1 => ("NameBenches$Names", "many", "[I", true)
  | 2 => ("NameBenches$Names", "code", "[I", true)
  | 3 => ("NameBenches$Names", "giver", "[I", true)
  | 4 => ("NameBenches$Names", "holder", "[I", true)
  | 5 => ("NameBenches$Names", "uses", "[I", true)
  | 6 => ("NameBenches$Names", "latest", "[I", true)
  | 7 => ("NameBenches$Names", "state", "[I", true)
  | _ => ("NameBenches$Names", "stuck", "[Z", true)
def tyX2 : Nat → FieldType := fun k => match k with
  | 0 => .int
  | 1 => .array .int
  | 2 => .array .int
  | 3 => .array .int
  | 4 => .array .int
  | 5 => .array .int
  | 6 => .array .int
  | 7 => .array .int
  | _ => .array .boolean
abbrev wsX20 : List Cond := u_ws RX2 TX2 9
theorem nmX2 : ∀ a, a < 9 → ∀ b, b < 9 → a ≠ b → (TX2 a).2.1 ≠ (TX2 b).2.1 := by decide +kernel
theorem tyX2_ok : ∀ k, k < 9 → parseFieldDescriptor (TX2 k).2.2.1 = some (tyX2 k) := by decide +kernel
abbrev cX2_init : ByteArray := prog_4_method_1_code
def yX2_init : MethodName := ⟨RX2, "<init>", "()V"⟩
abbrev cX2_copyFrom : ByteArray := prog_4_method_2_code
def yX2_copyFrom : MethodName := ⟨RX2, "copyFrom", "(LNameBenches$Names;)V"⟩
abbrev cX2_has : ByteArray := prog_4_method_3_code
def yX2_has : MethodName := ⟨RX2, "has", "(I)Z"⟩
abbrev cX2_isFull : ByteArray := prog_4_method_4_code
def yX2_isFull : MethodName := ⟨RX2, "isFull", "()Z"⟩
abbrev cX2_add : ByteArray := prog_4_method_5_code
def yX2_add : MethodName := ⟨RX2, "add", "(IIIII)V"⟩
abbrev cX2_use : ByteArray := prog_4_method_6_code
def yX2_use : MethodName := ⟨RX2, "use", "(III)V"⟩
abbrev cX2_isAlive : ByteArray := prog_4_method_7_code
def yX2_isAlive : MethodName := ⟨RX2, "isAlive", "(I)Z"⟩
abbrev cX2_isAliveAs : ByteArray := prog_4_method_8_code
def yX2_isAliveAs : MethodName := ⟨RX2, "isAliveAs", "(III)Z"⟩
abbrev cX2_aliveNameOf : ByteArray := prog_4_method_9_code
def yX2_aliveNameOf : MethodName := ⟨RX2, "aliveNameOf", "(III)I"⟩
abbrev cX2_alive : ByteArray := prog_4_method_10_code
def yX2_alive : MethodName := ⟨RX2, "alive", "()I"⟩
abbrev cX2_inState : ByteArray := prog_4_method_11_code
def yX2_inState : MethodName := ⟨RX2, "inState", "(I)I"⟩
abbrev cX2_aliveOf : ByteArray := prog_4_method_12_code
def yX2_aliveOf : MethodName := ⟨RX2, "aliveOf", "(I)I"⟩
abbrev cX2_usesTogether : ByteArray := prog_4_method_13_code
def yX2_usesTogether : MethodName := ⟨RX2, "usesTogether", "()I"⟩
abbrev cX2_givenBy : ByteArray := prog_4_method_14_code
def yX2_givenBy : MethodName := ⟨RX2, "givenBy", "(I)I"⟩
abbrev cX2_stuckGivenBy : ByteArray := prog_4_method_15_code
def yX2_stuckGivenBy : MethodName := ⟨RX2, "stuckGivenBy", "(I)I"⟩
abbrev cX2_sticksBetter : ByteArray := prog_4_method_16_code
def yX2_sticksBetter : MethodName := ⟨RX2, "sticksBetter", "(II)Z"⟩
abbrev cX2_ranked : ByteArray := prog_4_method_17_code
def yX2_ranked : MethodName := ⟨RX2, "ranked", "(I)I"⟩
abbrev cX2_aliveAheadOf : ByteArray := prog_4_method_18_code
def yX2_aliveAheadOf : MethodName := ⟨RX2, "aliveAheadOf", "(I)I"⟩
def RX3 : String := "NameBenches$Past"
def TX3 : u_T := fun k => match k with
  | 0 => ("NameBenches$Past", "ring", "[LNameBenches$Registry;", true)
  | 1 => ("NameBenches$Past", "first", "I", false)
  | _ => ("NameBenches$Past", "count", "I", false)
def tyX3 : Nat → FieldType := fun k => match k with
  | 0 => .array (.object "NameBenches$Registry")
  | 1 => .int
  | _ => .int
abbrev wsX30 : List Cond := u_ws RX3 TX3 3
theorem nmX3 : ∀ a, a < 3 → ∀ b, b < 3 → a ≠ b → (TX3 a).2.1 ≠ (TX3 b).2.1 := by decide +kernel
theorem tyX3_ok : ∀ k, k < 3 → parseFieldDescriptor (TX3 k).2.2.1 = some (tyX3 k) := by decide +kernel
abbrev cX3_init : ByteArray := prog_5_method_1_code
def yX3_init : MethodName := ⟨RX3, "<init>", "()V"⟩
abbrev cX3_forgetAll : ByteArray := prog_5_method_2_code
def yX3_forgetAll : MethodName := ⟨RX3, "forgetAll", "()V"⟩
abbrev cX3_remember : ByteArray := prog_5_method_3_code
def yX3_remember : MethodName := ⟨RX3, "remember", "(LNameBenches$Registry;)V"⟩
abbrev cX3_takeBack : ByteArray := prog_5_method_4_code
def yX3_takeBack : MethodName := ⟨RX3, "takeBack", "(LNameBenches$Registry;)V"⟩
def RX4 : String := "NameBenches$People"
def TX4 : u_T := fun k => match k with
  | 0 => ("NameBenches$People", "count", "I", false)
  | 1 => ("NameBenches$People", "age", "[I", true)
  | 2 => ("NameBenches$People", "family", "[I", true)
  | 3 => ("NameBenches$People", "bench", "[I", true)
  | 4 => ("NameBenches$People", "mistaken", "[I", true)
  | _ => ("NameBenches$People", "lending", "[I", true)
def tyX4 : Nat → FieldType := fun k => match k with
  | 0 => .int
  | 1 => .array .int
  | 2 => .array .int
  | 3 => .array .int
  | 4 => .array .int
  | _ => .array .int
abbrev wsX40 : List Cond := u_ws RX4 TX4 6
theorem nmX4 : ∀ a, a < 6 → ∀ b, b < 6 → a ≠ b → (TX4 a).2.1 ≠ (TX4 b).2.1 := by decide +kernel
theorem tyX4_ok : ∀ k, k < 6 → parseFieldDescriptor (TX4 k).2.2.1 = some (tyX4 k) := by decide +kernel
abbrev cX4_init : ByteArray := prog_6_method_1_code
def yX4_init : MethodName := ⟨RX4, "<init>", "()V"⟩
abbrev cX4_copyFrom : ByteArray := prog_6_method_2_code
def yX4_copyFrom : MethodName := ⟨RX4, "copyFrom", "(LNameBenches$People;)V"⟩
abbrev cX4_has : ByteArray := prog_6_method_3_code
def yX4_has : MethodName := ⟨RX4, "has", "(I)Z"⟩
abbrev cX4_isFull : ByteArray := prog_6_method_4_code
def yX4_isFull : MethodName := ⟨RX4, "isFull", "()Z"⟩
abbrev cX4_add : ByteArray := prog_6_method_5_code
def yX4_add : MethodName := ⟨RX4, "add", "(III)V"⟩
abbrev cX4_growOlder : ByteArray := prog_6_method_6_code
def yX4_growOlder : MethodName := ⟨RX4, "growOlder", "()V"⟩
abbrev cX4_areBrothers : ByteArray := prog_6_method_7_code
def yX4_areBrothers : MethodName := ⟨RX4, "areBrothers", "(II)Z"⟩
abbrev cX4_isYoungerBeside : ByteArray := prog_6_method_8_code
def yX4_isYoungerBeside : MethodName := ⟨RX4, "isYoungerBeside", "(II)Z"⟩
abbrev cX4_brothersOf : ByteArray := prog_6_method_9_code
def yX4_brothersOf : MethodName := ⟨RX4, "brothersOf", "(I)I"⟩
abbrev cX4_firstBrotherOn : ByteArray := prog_6_method_10_code
def yX4_firstBrotherOn : MethodName := ⟨RX4, "firstBrotherOn", "(II)I"⟩
def RX5 : String := "NameBenches$Registry"
def TX5 : u_T := fun k => match k with
  | 0 => ("NameBenches$Registry", "people", "LNameBenches$People;", true)
  | 1 => ("NameBenches$Registry", "names", "LNameBenches$Names;", true)
  | 2 => ("NameBenches$Registry", "settings", "[I", true)
  | 3 => ("NameBenches$Registry", "year", "I", false)
  | 4 => ("NameBenches$Registry", "mixes", "I", false)
  | 5 => ("NameBenches$Registry", "callsOfNobody", "I", false)
  | _ => ("NameBenches$Registry", "refusals", "I", false)
def tyX5 : Nat → FieldType := fun k => match k with
  | 0 => .object "NameBenches$People"
  | 1 => .object "NameBenches$Names"
  | 2 => .array .int
  | 3 => .int
  | 4 => .int
  | 5 => .int
  | _ => .int
abbrev wsX50 : List Cond := u_ws RX5 TX5 7
theorem nmX5 : ∀ a, a < 7 → ∀ b, b < 7 → a ≠ b → (TX5 a).2.1 ≠ (TX5 b).2.1 := by decide +kernel
theorem tyX5_ok : ∀ k, k < 7 → parseFieldDescriptor (TX5 k).2.2.1 = some (tyX5 k) := by decide +kernel
abbrev cX5_init : ByteArray := prog_7_method_1_code
def yX5_init : MethodName := ⟨RX5, "<init>", "()V"⟩
abbrev cX5_empty : ByteArray := prog_7_method_2_code
def yX5_empty : MethodName := ⟨RX5, "empty", "()V"⟩
abbrev cX5_copyFrom : ByteArray := prog_7_method_3_code
def yX5_copyFrom : MethodName := ⟨RX5, "copyFrom", "(LNameBenches$Registry;)V"⟩
abbrev cX5_reasonAgainst : ByteArray := prog_7_method_4_code
def yX5_reasonAgainst : MethodName := ⟨RX5, "reasonAgainst", "(IIII)I"⟩
abbrev cX5_reasonAgainstAnyName : ByteArray := prog_7_method_5_code
def yX5_reasonAgainstAnyName : MethodName := ⟨RX5, "reasonAgainstAnyName", "(II)I"⟩
abbrev cX5_isTaken : ByteArray := prog_7_method_6_code
def yX5_isTaken : MethodName := ⟨RX5, "isTaken", "(IIII)Z"⟩
abbrev cX5_isKeptFrom : ByteArray := prog_7_method_7_code
def yX5_isKeptFrom : MethodName := ⟨RX5, "isKeptFrom", "(II)Z"⟩
abbrev cX5_meantByPeople : ByteArray := prog_7_method_8_code
def yX5_meantByPeople : MethodName := ⟨RX5, "meantByPeople", "(III)I"⟩
abbrev cX5_firstBrotherNamed : ByteArray := prog_7_method_9_code
def yX5_firstBrotherNamed : MethodName := ⟨RX5, "firstBrotherNamed", "(III)I"⟩
abbrev cX5_meantByNames : ByteArray := prog_7_method_10_code
def yX5_meantByNames : MethodName := ⟨RX5, "meantByNames", "(III)I"⟩
abbrev cX5_callFor : ByteArray := prog_7_method_11_code
def yX5_callFor : MethodName := ⟨RX5, "callFor", "(III)I"⟩
abbrev cX5_mixUp : ByteArray := prog_7_method_12_code
def yX5_mixUp : MethodName := ⟨RX5, "mixUp", "(II)V"⟩
abbrev cX5_passYears : ByteArray := prog_7_method_13_code
def yX5_passYears : MethodName := ⟨RX5, "passYears", "(I)I"⟩
abbrev cX5_endNames : ByteArray := prog_7_method_14_code
def yX5_endNames : MethodName := ⟨RX5, "endNames", "()I"⟩
abbrev cX5_oldestFor : ByteArray := prog_7_method_15_code
def yX5_oldestFor : MethodName := ⟨RX5, "oldestFor", "(I)I"⟩
abbrev cX5_outgrow : ByteArray := prog_7_method_16_code
def yX5_outgrow : MethodName := ⟨RX5, "outgrow", "(I)V"⟩
abbrev cX5_heirOf : ByteArray := prog_7_method_17_code
def yX5_heirOf : MethodName := ⟨RX5, "heirOf", "(I)I"⟩
abbrev cX5_yearsLeft : ByteArray := prog_7_method_18_code
def yX5_yearsLeft : MethodName := ⟨RX5, "yearsLeft", "(I)I"⟩
abbrev cX5_triesPerson : ByteArray := prog_7_method_19_code
def yX5_triesPerson : MethodName := ⟨RX5, "triesPerson", "(III)Z"⟩
abbrev cX5_triesSitting : ByteArray := prog_7_method_20_code
def yX5_triesSitting : MethodName := ⟨RX5, "triesSitting", "(II)Z"⟩
abbrev cX5_triesGiving : ByteArray := prog_7_method_21_code
def yX5_triesGiving : MethodName := ⟨RX5, "triesGiving", "(IIII)Z"⟩
abbrev cX5_triesSetting : ByteArray := prog_7_method_22_code
def yX5_triesSetting : MethodName := ⟨RX5, "triesSetting", "(II)Z"⟩
abbrev cX5_obeys : ByteArray := prog_7_method_23_code
def yX5_obeys : MethodName := ⟨RX5, "obeys", "(LNameBenches$Text;)Z"⟩
def RX6 : String := "NameBenches$Script"
def TX6 : u_T := fun k => match k with
  | _ => ("", "", "", false)
def tyX6 : Nat → FieldType := fun k => match k with
  | _ => .int
abbrev wsX60 : List Cond := u_ws RX6 TX6 0
theorem nmX6 : ∀ a, a < 0 → ∀ b, b < 0 → a ≠ b → (TX6 a).2.1 ≠ (TX6 b).2.1 := by decide +kernel
theorem tyX6_ok : ∀ k, k < 0 → parseFieldDescriptor (TX6 k).2.2.1 = some (tyX6 k) := by decide +kernel
abbrev cX6_beyond : ByteArray := prog_8_method_2_code
def yX6_beyond : MethodName := ⟨RX6, "beyond", "(I)J"⟩
abbrev cX6_group : ByteArray := prog_8_method_3_code
def yX6_group : MethodName := ⟨RX6, "group", "(JII)I"⟩
abbrev cX6_succeeds : ByteArray := prog_8_method_4_code
def yX6_succeeds : MethodName := ⟨RX6, "succeeds", "(LNameBenches$Registry;I)Z"⟩
abbrev cX6_hasNames : ByteArray := prog_8_method_5_code
def yX6_hasNames : MethodName := ⟨RX6, "hasNames", "(LNameBenches$Registry;II)Z"⟩
abbrev cX6_means : ByteArray := prog_8_method_6_code
def yX6_means : MethodName := ⟨RX6, "means", "(LNameBenches$Registry;III)Z"⟩
abbrev cX6_isInState : ByteArray := prog_8_method_7_code
def yX6_isInState : MethodName := ⟨RX6, "isInState", "(LNameBenches$Registry;II)Z"⟩
def RX7 : String := "NameBenches$Simulation"
def TX7 : u_T := fun k => match k with
  | _ => ("", "", "", false)
def tyX7 : Nat → FieldType := fun k => match k with
  | _ => .int
abbrev wsX70 : List Cond := u_ws RX7 TX7 0
theorem nmX7 : ∀ a, a < 0 → ∀ b, b < 0 → a ≠ b → (TX7 a).2.1 ≠ (TX7 b).2.1 := by decide +kernel
theorem tyX7_ok : ∀ k, k < 0 → parseFieldDescriptor (TX7 k).2.2.1 = some (tyX7 k) := by decide +kernel
abbrev cX7_takeTurn : ByteArray := prog_9_method_2_code
def yX7_takeTurn : MethodName := ⟨RX7, "takeTurn", "(LNameBenches$Registry;I)V"⟩
def RX8 : String := "NameBenches$Slots"
def TX8 : u_T := fun k => match k with
  | 0 => ("NameBenches$Slots", "kept", "[LNameBenches$Registry;", true)
  | _ => ("NameBenches$Slots", "used", "[Z", true)
def tyX8 : Nat → FieldType := fun k => match k with
  | 0 => .array (.object "NameBenches$Registry")
  | _ => .array .boolean
abbrev wsX80 : List Cond := u_ws RX8 TX8 2
theorem nmX8 : ∀ a, a < 2 → ∀ b, b < 2 → a ≠ b → (TX8 a).2.1 ≠ (TX8 b).2.1 := by decide +kernel
theorem tyX8_ok : ∀ k, k < 2 → parseFieldDescriptor (TX8 k).2.2.1 = some (tyX8 k) := by decide +kernel
abbrev cX8_init : ByteArray := prog_10_method_1_code
def yX8_init : MethodName := ⟨RX8, "<init>", "()V"⟩
abbrev cX8_forgetAll : ByteArray := prog_10_method_2_code
def yX8_forgetAll : MethodName := ⟨RX8, "forgetAll", "()V"⟩
def RX9 : String := "NameBenches$Text"
def TX9 : u_T := fun k => match k with
  | 0 => ("NameBenches$Text", "signs", "[C", true)
  | 1 => ("NameBenches$Text", "length", "I", false)
  | 2 => ("NameBenches$Text", "at", "I", false)
  | 3 => ("NameBenches$Text", "kind", "I", false)
  | 4 => ("NameBenches$Text", "told", "[I", true)
  | _ => ("NameBenches$Text", "toldCount", "I", false)
def tyX9 : Nat → FieldType := fun k => match k with
  | 0 => .array .char
  | 1 => .int
  | 2 => .int
  | 3 => .int
  | 4 => .array .int
  | _ => .int
abbrev wsX90 : List Cond := u_ws RX9 TX9 6
theorem nmX9 : ∀ a, a < 6 → ∀ b, b < 6 → a ≠ b → (TX9 a).2.1 ≠ (TX9 b).2.1 := by decide +kernel
theorem tyX9_ok : ∀ k, k < 6 → parseFieldDescriptor (TX9 k).2.2.1 = some (tyX9 k) := by decide +kernel
abbrev cX9_init : ByteArray := prog_11_method_1_code
def yX9_init : MethodName := ⟨RX9, "<init>", "()V"⟩
abbrev cX9_put : ByteArray := prog_11_method_2_code
def yX9_put : MethodName := ⟨RX9, "put", "(C)V"⟩
abbrev cX9_firstError : ByteArray := prog_11_method_3_code
def yX9_firstError : MethodName := ⟨RX9, "firstError", "()I"⟩
abbrev cX9_readHead : ByteArray := prog_11_method_4_code
def yX9_readHead : MethodName := ⟨RX9, "readHead", "()Z"⟩
abbrev cX9_readCommand : ByteArray := prog_11_method_5_code
def yX9_readCommand : MethodName := ⟨RX9, "readCommand", "()Z"⟩
abbrev cX9_here : ByteArray := prog_11_method_6_code
def yX9_here : MethodName := ⟨RX9, "here", "()I"⟩
abbrev cX9_reads : ByteArray := prog_11_method_7_code
def yX9_reads : MethodName := ⟨RX9, "reads", "(I)Z"⟩
abbrev cX9_readsDigit : ByteArray := prog_11_method_8_code
def yX9_readsDigit : MethodName := ⟨RX9, "readsDigit", "(II)Z"⟩
abbrev cX9_readsPair : ByteArray := prog_11_method_9_code
def yX9_readsPair : MethodName := ⟨RX9, "readsPair", "(I)Z"⟩
abbrev cX9_takeDigit : ByteArray := prog_11_method_10_code
def yX9_takeDigit : MethodName := ⟨RX9, "takeDigit", "(II)I"⟩
abbrev cX9_readsLetters : ByteArray := prog_11_method_11_code
def yX9_readsLetters : MethodName := ⟨RX9, "readsLetters", "()Z"⟩
abbrev cX9_tells : ByteArray := prog_11_method_12_code
def yX9_tells : MethodName := ⟨RX9, "tells", "(I)Z"⟩
def RX10 : String := "NameBenches"
def TX10 : u_T := fun k => match k with
  | 0 => ("NameBenches", "text", "LNameBenches$Text;", true)
  | 1 => ("NameBenches", "now", "LNameBenches$Registry;", true)
  | 2 => ("NameBenches", "trial", "LNameBenches$Registry;", true)
  | 3 => ("NameBenches", "past", "LNameBenches$Past;", true)
  | 4 => ("NameBenches", "slots", "LNameBenches$Slots;", true)
  | _ => ("NameBenches", "search", "LNameBenches$NameSearch;", true)
def tyX10 : Nat → FieldType := fun k => match k with
  | 0 => .object "NameBenches$Text"
  | 1 => .object "NameBenches$Registry"
  | 2 => .object "NameBenches$Registry"
  | 3 => .object "NameBenches$Past"
  | 4 => .object "NameBenches$Slots"
  | _ => .object "NameBenches$NameSearch"
abbrev wsX100 : List Cond := u_ws RX10 TX10 6
theorem nmX10 : ∀ a, a < 6 → ∀ b, b < 6 → a ≠ b → (TX10 a).2.1 ≠ (TX10 b).2.1 := by decide +kernel
theorem tyX10_ok : ∀ k, k < 6 → parseFieldDescriptor (TX10 k).2.2.1 = some (tyX10 k) := by decide +kernel
abbrev cX10_init : ByteArray := prog_1_method_1_code
def yX10_init : MethodName := ⟨RX10, "<init>", "()V"⟩
abbrev cX10_append : ByteArray := prog_1_method_2_code
def yX10_append : MethodName := ⟨RX10, "append", "(I)I"⟩
abbrev cX10_clearText : ByteArray := prog_1_method_3_code
def yX10_clearText : MethodName := ⟨RX10, "clearText", "()I"⟩
abbrev cX10_errorPosition : ByteArray := prog_1_method_4_code
def yX10_errorPosition : MethodName := ⟨RX10, "errorPosition", "()I"⟩
abbrev cX10_load : ByteArray := prog_1_method_5_code
def yX10_load : MethodName := ⟨RX10, "load", "()I"⟩
abbrev cX10_about : ByteArray := prog_1_method_6_code
def yX10_about : MethodName := ⟨RX10, "about", "(I)I"⟩
abbrev cX10_personOf : ByteArray := prog_1_method_7_code
def yX10_personOf : MethodName := ⟨RX10, "personOf", "(II)I"⟩
abbrev cX10_nameOf : ByteArray := prog_1_method_8_code
def yX10_nameOf : MethodName := ⟨RX10, "nameOf", "(II)I"⟩
abbrev cX10_letter : ByteArray := prog_1_method_9_code
def yX10_letter : MethodName := ⟨RX10, "letter", "(II)I"⟩
abbrev cX10_roll : ByteArray := prog_1_method_10_code
def yX10_roll : MethodName := ⟨RX10, "roll", "(I)I"⟩
abbrev cX10_meant : ByteArray := prog_1_method_11_code
def yX10_meant : MethodName := ⟨RX10, "meant", "(IIII)I"⟩
abbrev cX10_person : ByteArray := prog_1_method_12_code
def yX10_person : MethodName := ⟨RX10, "person", "(III)I"⟩
abbrev cX10_sit : ByteArray := prog_1_method_13_code
def yX10_sit : MethodName := ⟨RX10, "sit", "(II)I"⟩
abbrev cX10_give : ByteArray := prog_1_method_14_code
def yX10_give : MethodName := ⟨RX10, "give", "(IIII)I"⟩
abbrev cX10_call : ByteArray := prog_1_method_15_code
def yX10_call : MethodName := ⟨RX10, "call", "(III)I"⟩
abbrev cX10_years : ByteArray := prog_1_method_16_code
def yX10_years : MethodName := ⟨RX10, "years", "(I)I"⟩
abbrev cX10_set : ByteArray := prog_1_method_17_code
def yX10_set : MethodName := ⟨RX10, "set", "(II)I"⟩
abbrev cX10_undo : ByteArray := prog_1_method_18_code
def yX10_undo : MethodName := ⟨RX10, "undo", "()I"⟩
abbrev cX10_why : ByteArray := prog_1_method_19_code
def yX10_why : MethodName := ⟨RX10, "why", "(IIII)I"⟩
abbrev cX10_endsIn : ByteArray := prog_1_method_20_code
def yX10_endsIn : MethodName := ⟨RX10, "endsIn", "(I)I"⟩
abbrev cX10_bestName : ByteArray := prog_1_method_21_code
def yX10_bestName : MethodName := ⟨RX10, "bestName", "(III)I"⟩
abbrev cX10_bestGiver : ByteArray := prog_1_method_22_code
def yX10_bestGiver : MethodName := ⟨RX10, "bestGiver", "()I"⟩
abbrev cX10_mixed : ByteArray := prog_1_method_23_code
def yX10_mixed : MethodName := ⟨RX10, "mixed", "()I"⟩
abbrev cX10_runScript : ByteArray := prog_1_method_24_code
def yX10_runScript : MethodName := ⟨RX10, "runScript", "(IJ)I"⟩
abbrev cX10_simulate : ByteArray := prog_1_method_25_code
def yX10_simulate : MethodName := ⟨RX10, "simulate", "(JI)I"⟩
abbrev cX10_save : ByteArray := prog_1_method_26_code
def yX10_save : MethodName := ⟨RX10, "save", "(I)I"⟩
abbrev cX10_restore : ByteArray := prog_1_method_27_code
def yX10_restore : MethodName := ⟨RX10, "restore", "(I)I"⟩
abbrev cX10_requirePerson : ByteArray := prog_1_method_28_code
def yX10_requirePerson : MethodName := ⟨RX10, "requirePerson", "(I)V"⟩
abbrev cX10_requireName : ByteArray := prog_1_method_29_code
def yX10_requireName : MethodName := ⟨RX10, "requireName", "(I)V"⟩
abbrev cX10_requireBench : ByteArray := prog_1_method_30_code
def yX10_requireBench : MethodName := ⟨RX10, "requireBench", "(I)V"⟩
abbrev cX10_requireCode : ByteArray := prog_1_method_31_code
def yX10_requireCode : MethodName := ⟨RX10, "requireCode", "(II)V"⟩
abbrev cX10_requireSlot : ByteArray := prog_1_method_32_code
def yX10_requireSlot : MethodName := ⟨RX10, "requireSlot", "(I)V"⟩
abbrev cX10_isBench : ByteArray := prog_1_method_33_code
def yX10_isBench : MethodName := ⟨RX10, "isBench", "(I)Z"⟩
abbrev cX10_isFamily : ByteArray := prog_1_method_34_code
def yX10_isFamily : MethodName := ⟨RX10, "isFamily", "(I)Z"⟩
abbrev cX10_isAgeToCome : ByteArray := prog_1_method_35_code
def yX10_isAgeToCome : MethodName := ⟨RX10, "isAgeToCome", "(I)Z"⟩
abbrev cX10_isYearsAtOnce : ByteArray := prog_1_method_36_code
def yX10_isYearsAtOnce : MethodName := ⟨RX10, "isYearsAtOnce", "(I)Z"⟩
abbrev cX10_isSettingWith : ByteArray := prog_1_method_37_code
def yX10_isSettingWith : MethodName := ⟨RX10, "isSettingWith", "(II)Z"⟩
def RX11 : String := "NameBenchesModel"
def TX11 : u_T := fun k => match k with
  | _ => ("", "", "", false)
def tyX11 : Nat → FieldType := fun k => match k with
  | _ => .int
abbrev wsX110 : List Cond := u_ws RX11 TX11 0
theorem nmX11 : ∀ a, a < 0 → ∀ b, b < 0 → a ≠ b → (TX11 a).2.1 ≠ (TX11 b).2.1 := by decide +kernel
theorem tyX11_ok : ∀ k, k < 0 → parseFieldDescriptor (TX11 k).2.2.1 = some (tyX11 k) := by decide +kernel
def RJ9 : String := "java/lang/Math"
def TJ9 : u_T := fun k => match k with
  | _ => ("", "", "", false)
def tyJ9 : Nat → FieldType := fun k => match k with
  | _ => .int
abbrev wsJ90 : List Cond := u_ws RJ9 TJ9 0
theorem nmJ9 : ∀ a, a < 0 → ∀ b, b < 0 → a ≠ b → (TJ9 a).2.1 ≠ (TJ9 b).2.1 := by decide +kernel
theorem tyJ9_ok : ∀ k, k < 0 → parseFieldDescriptor (TJ9 k).2.2.1 = some (tyJ9 k) := by decide +kernel
abbrev cJ9_max_7cf53 : ByteArray := prog_18_method_65_code
def yJ9_max_7cf53 : MethodName := ⟨RJ9, "max", "(II)I"⟩
abbrev cJ9_min_7cf53 : ByteArray := prog_18_method_69_code
def yJ9_min_7cf53 : MethodName := ⟨RJ9, "min", "(II)I"⟩
def RJ0 : String := "java/lang/String"
def TJ0 : u_T := fun k => match k with
  | _ => ("", "", "", false)
def tyJ0 : Nat → FieldType := fun k => match k with
  | _ => .int
abbrev wsJ00 : List Cond := u_ws RJ0 TJ0 0
theorem nmJ0 : ∀ a, a < 0 → ∀ b, b < 0 → a ≠ b → (TJ0 a).2.1 ≠ (TJ0 b).2.1 := by decide +kernel
theorem tyJ0_ok : ∀ k, k < 0 → parseFieldDescriptor (TJ0 k).2.2.1 = some (tyJ0 k) := by decide +kernel
def RJ10 : String := "java/lang/System"
def TJ10 : u_T := fun k => match k with
  | _ => ("", "", "", false)
def tyJ10 : Nat → FieldType := fun k => match k with
  | _ => .int
abbrev wsJ100 : List Cond := u_ws RJ10 TJ10 0
theorem nmJ10 : ∀ a, a < 0 → ∀ b, b < 0 → a ≠ b → (TJ10 a).2.1 ≠ (TJ10 b).2.1 := by decide +kernel
theorem tyJ10_ok : ∀ k, k < 0 → parseFieldDescriptor (TJ10 k).2.2.1 = some (tyJ10 k) := by decide +kernel
def RL : String := "NameBenchesLaw"
abbrev cL_draw : ByteArray := method_2_code
def yL_draw : MethodName := ⟨RL, "draw", "([II)I"⟩
abbrev cL_in : ByteArray := method_3_code
def yL_in : MethodName := ⟨RL, "in", "(JJJ)Z"⟩
abbrev cL_append : ByteArray := method_4_code
def yL_append : MethodName := ⟨RL, "append", "(LNameBenches;I)J"⟩
abbrev cL_load : ByteArray := method_5_code
def yL_load : MethodName := ⟨RL, "load", "(LNameBenches;)J"⟩
abbrev cL_about : ByteArray := method_6_code
def yL_about : MethodName := ⟨RL, "about", "(LNameBenches;I)J"⟩
abbrev cL_personOf : ByteArray := method_7_code
def yL_personOf : MethodName := ⟨RL, "personOf", "(LNameBenches;II)J"⟩
abbrev cL_nameOf : ByteArray := method_8_code
def yL_nameOf : MethodName := ⟨RL, "nameOf", "(LNameBenches;II)J"⟩
abbrev cL_letter : ByteArray := method_9_code
def yL_letter : MethodName := ⟨RL, "letter", "(LNameBenches;II)J"⟩
abbrev cL_roll : ByteArray := method_10_code
def yL_roll : MethodName := ⟨RL, "roll", "(LNameBenches;I)J"⟩
abbrev cL_meant : ByteArray := method_11_code
def yL_meant : MethodName := ⟨RL, "meant", "(LNameBenches;IIII)J"⟩
abbrev cL_person : ByteArray := method_12_code
def yL_person : MethodName := ⟨RL, "person", "(LNameBenches;III)J"⟩
abbrev cL_sit : ByteArray := method_13_code
def yL_sit : MethodName := ⟨RL, "sit", "(LNameBenches;II)J"⟩
abbrev cL_give : ByteArray := method_14_code
def yL_give : MethodName := ⟨RL, "give", "(LNameBenches;IIII)J"⟩
abbrev cL_call : ByteArray := method_15_code
def yL_call : MethodName := ⟨RL, "call", "(LNameBenches;III)J"⟩
abbrev cL_years : ByteArray := method_16_code
def yL_years : MethodName := ⟨RL, "years", "(LNameBenches;I)J"⟩
abbrev cL_set : ByteArray := method_17_code
def yL_set : MethodName := ⟨RL, "set", "(LNameBenches;II)J"⟩
abbrev cL_undo : ByteArray := method_18_code
def yL_undo : MethodName := ⟨RL, "undo", "(LNameBenches;)J"⟩
abbrev cL_why : ByteArray := method_19_code
def yL_why : MethodName := ⟨RL, "why", "(LNameBenches;IIII)J"⟩
abbrev cL_endsIn : ByteArray := method_20_code
def yL_endsIn : MethodName := ⟨RL, "endsIn", "(LNameBenches;I)J"⟩
abbrev cL_bestName : ByteArray := method_21_code
def yL_bestName : MethodName := ⟨RL, "bestName", "(LNameBenches;III)J"⟩
abbrev cL_script : ByteArray := method_22_code
def yL_script : MethodName := ⟨RL, "script", "(LNameBenches;IJ)J"⟩
abbrev cL_simulate : ByteArray := method_23_code
def yL_simulate : MethodName := ⟨RL, "simulate", "(LNameBenches;JI)J"⟩
abbrev cL_save : ByteArray := method_24_code
def yL_save : MethodName := ⟨RL, "save", "(LNameBenches;I)J"⟩
abbrev cL_restore : ByteArray := method_25_code
def yL_restore : MethodName := ⟨RL, "restore", "(LNameBenches;I)J"⟩
abbrev cL_now : ByteArray := method_26_code
def yL_now : MethodName := ⟨RL, "now", "(LNameBenches;)J"⟩
abbrev cL_errors : ByteArray := method_27_code
def yL_errors : MethodName := ⟨RL, "errors", "(LNameBenches;)Z"⟩
abbrev cL_kept : ByteArray := method_28_code
def yL_kept : MethodName := ⟨RL, "kept", "(LNameBenches;)Z"⟩
abbrev cL_follows : ByteArray := method_29_code
def yL_follows : MethodName := ⟨RL, "follows", "(LNameBenches;I)Z"⟩
abbrev cL_alike : ByteArray := method_30_code
def yL_alike : MethodName := ⟨RL, "alike", "(LNameBenches;LNameBenches;I)Z"⟩
abbrev cL_says : ByteArray := method_31_code
def yL_says : MethodName := ⟨RL, "says", "(LNameBenches;IIII)Z"⟩
abbrev cL_told : ByteArray := method_32_code
def yL_told : MethodName := ⟨RL, "told", "(LNameBenches;I)Z"⟩
abbrev cL_act : ByteArray := method_33_code
def yL_act : MethodName := ⟨RL, "act", "(LNameBenches;II)J"⟩
abbrev cL_law : ByteArray := code
def yL_law : MethodName := ⟨RL, "law", "([I)Z"⟩
abbrev vwCl : List vw_C := [(RX1, TX1, 1), (RX2, TX2, 9), (RX3, TX3, 3), (RX4, TX4, 6), (RX5, TX5, 7), (RX8, TX8, 2), (RX9, TX9, 6), (RX10, TX10, 6)]
end
section
theorem dX0_codes_0 : decode cX0_codes 0 = .ok (.iconst 1, 1) := by decide +kernel
theorem dX0_codes_1 : decode cX0_codes 1 = .ok (.istore_n 1, 1) := by decide +kernel
theorem dX0_codes_2 : decode cX0_codes 2 = .ok (.iconst 0, 1) := by decide +kernel
theorem dX0_codes_3 : decode cX0_codes 3 = .ok (.istore_n 2, 1) := by decide +kernel
theorem dX0_codes_4 : decode cX0_codes 4 = .ok (.iload_n 2, 1) := by decide +kernel
theorem dX0_codes_5 : decode cX0_codes 5 = .ok (.iload_n 0, 1) := by decide +kernel
theorem dX0_codes_6 : decode cX0_codes 6 = .ok (.if_icmp .ge 19, 3) := by decide +kernel
theorem dX0_codes_9 : decode cX0_codes 9 = .ok (.iload_n 2, 1) := by decide +kernel
theorem dX0_codes_10 : decode cX0_codes 10 = .ok (.iconst 4, 1) := by decide +kernel
theorem dX0_codes_11 : decode cX0_codes 11 = .ok (.if_icmp .ge 14, 3) := by decide +kernel
theorem dX0_codes_14 : decode cX0_codes 14 = .ok (.iload_n 1, 1) := by decide +kernel
theorem dX0_codes_15 : decode cX0_codes 15 = .ok (.bipush 26, 2) := by decide +kernel
theorem dX0_codes_17 : decode cX0_codes 17 = .ok (.imul, 1) := by decide +kernel
theorem dX0_codes_18 : decode cX0_codes 18 = .ok (.istore_n 1, 1) := by decide +kernel
theorem dX0_codes_19 : decode cX0_codes 19 = .ok (.iinc 2 1, 3) := by decide +kernel
theorem dX0_codes_22 : decode cX0_codes 22 = .ok (.goto (-18), 3) := by decide +kernel
theorem dX0_codes_25 : decode cX0_codes 25 = .ok (.iload_n 1, 1) := by decide +kernel
theorem dX0_codes_26 : decode cX0_codes 26 = .ok (.ireturn, 1) := by decide +kernel
theorem dX0_isCode_0 : decode cX0_isCode 0 = .ok (.iload_n 0, 1) := by decide +kernel
theorem dX0_isCode_1 : decode cX0_isCode 1 = .ok (.iconst 1, 1) := by decide +kernel
theorem dX0_isCode_2 : decode cX0_isCode 2 = .ok (.if_icmp .lt 24, 3) := by decide +kernel
theorem dX0_isCode_5 : decode cX0_isCode 5 = .ok (.iload_n 0, 1) := by decide +kernel
theorem dX0_isCode_6 : decode cX0_isCode 6 = .ok (.iconst 4, 1) := by decide +kernel
theorem dX0_isCode_7 : decode cX0_isCode 7 = .ok (.if_icmp .gt 19, 3) := by decide +kernel
theorem dX0_isCode_10 : decode cX0_isCode 10 = .ok (.iload_n 1, 1) := by decide +kernel
theorem dX0_isCode_11 : decode cX0_isCode 11 = .ok (.ifCond .lt 15, 3) := by decide +kernel
theorem dX0_isCode_14 : decode cX0_isCode 14 = .ok (.iload_n 1, 1) := by decide +kernel
theorem dX0_isCode_15 : decode cX0_isCode 15 = .ok (.iload_n 0, 1) := by decide +kernel
theorem dX0_isCode_16 : decode cX0_isCode 16 = .ok (.invokestatic 9, 3) := by decide +kernel
theorem dX0_isCode_19 : decode cX0_isCode 19 = .ok (.if_icmp .ge 7, 3) := by decide +kernel
theorem dX0_isCode_22 : decode cX0_isCode 22 = .ok (.iconst 1, 1) := by decide +kernel
theorem dX0_isCode_23 : decode cX0_isCode 23 = .ok (.goto 4, 3) := by decide +kernel
theorem dX0_isCode_26 : decode cX0_isCode 26 = .ok (.iconst 0, 1) := by decide +kernel
theorem dX0_isCode_27 : decode cX0_isCode 27 = .ok (.ireturn, 1) := by decide +kernel
theorem dX0_at_0 : decode cX0_at 0 = .ok (.iload_n 1, 1) := by decide +kernel
theorem dX0_at_1 : decode cX0_at 1 = .ok (.istore_n 3, 1) := by decide +kernel
theorem dX0_at_2 : decode cX0_at 2 = .ok (.iload_n 0, 1) := by decide +kernel
theorem dX0_at_3 : decode cX0_at 3 = .ok (.iconst 1, 1) := by decide +kernel
theorem dX0_at_4 : decode cX0_at 4 = .ok (.isub, 1) := by decide +kernel
theorem dX0_at_5 : decode cX0_at 5 = .ok (.istore 4, 2) := by decide +kernel
theorem dX0_at_7 : decode cX0_at 7 = .ok (.iload 4, 2) := by decide +kernel
theorem dX0_at_9 : decode cX0_at 9 = .ok (.iload_n 2, 1) := by decide +kernel
theorem dX0_at_10 : decode cX0_at 10 = .ok (.if_icmp .le 14, 3) := by decide +kernel
theorem dX0_at_13 : decode cX0_at 13 = .ok (.iload_n 3, 1) := by decide +kernel
theorem dX0_at_14 : decode cX0_at 14 = .ok (.bipush 26, 2) := by decide +kernel
theorem dX0_at_16 : decode cX0_at 16 = .ok (.idiv, 1) := by decide +kernel
theorem dX0_at_17 : decode cX0_at 17 = .ok (.istore_n 3, 1) := by decide +kernel
theorem dX0_at_18 : decode cX0_at 18 = .ok (.iinc 4 (-1), 3) := by decide +kernel
theorem dX0_at_21 : decode cX0_at 21 = .ok (.goto (-14), 3) := by decide +kernel
theorem dX0_at_24 : decode cX0_at 24 = .ok (.iload_n 3, 1) := by decide +kernel
theorem dX0_at_25 : decode cX0_at 25 = .ok (.bipush 26, 2) := by decide +kernel
theorem dX0_at_27 : decode cX0_at 27 = .ok (.irem, 1) := by decide +kernel
theorem dX0_at_28 : decode cX0_at 28 = .ok (.ireturn, 1) := by decide +kernel
theorem dX0_dictionaryKey_0 : decode cX0_dictionaryKey 0 = .ok (.iconst 0, 1) := by decide +kernel
theorem dX0_dictionaryKey_1 : decode cX0_dictionaryKey 1 = .ok (.istore_n 2, 1) := by decide +kernel
theorem dX0_dictionaryKey_2 : decode cX0_dictionaryKey 2 = .ok (.iconst 0, 1) := by decide +kernel
theorem dX0_dictionaryKey_3 : decode cX0_dictionaryKey 3 = .ok (.istore_n 3, 1) := by decide +kernel
theorem dX0_dictionaryKey_4 : decode cX0_dictionaryKey 4 = .ok (.iload_n 3, 1) := by decide +kernel
theorem dX0_dictionaryKey_5 : decode cX0_dictionaryKey 5 = .ok (.iconst 4, 1) := by decide +kernel
theorem dX0_dictionaryKey_6 : decode cX0_dictionaryKey 6 = .ok (.if_icmp .ge 32, 3) := by decide +kernel
theorem dX0_dictionaryKey_9 : decode cX0_dictionaryKey 9 = .ok (.iload_n 2, 1) := by decide +kernel
theorem dX0_dictionaryKey_10 : decode cX0_dictionaryKey 10 = .ok (.bipush 27, 2) := by decide +kernel
theorem dX0_dictionaryKey_12 : decode cX0_dictionaryKey 12 = .ok (.imul, 1) := by decide +kernel
theorem dX0_dictionaryKey_13 : decode cX0_dictionaryKey 13 = .ok (.iload_n 3, 1) := by decide +kernel
theorem dX0_dictionaryKey_14 : decode cX0_dictionaryKey 14 = .ok (.iload_n 0, 1) := by decide +kernel
theorem dX0_dictionaryKey_15 : decode cX0_dictionaryKey 15 = .ok (.if_icmp .ge 14, 3) := by decide +kernel
theorem dX0_dictionaryKey_18 : decode cX0_dictionaryKey 18 = .ok (.iload_n 0, 1) := by decide +kernel
theorem dX0_dictionaryKey_19 : decode cX0_dictionaryKey 19 = .ok (.iload_n 1, 1) := by decide +kernel
theorem dX0_dictionaryKey_20 : decode cX0_dictionaryKey 20 = .ok (.iload_n 3, 1) := by decide +kernel
theorem dX0_dictionaryKey_21 : decode cX0_dictionaryKey 21 = .ok (.invokestatic 15, 3) := by decide +kernel
theorem dX0_dictionaryKey_24 : decode cX0_dictionaryKey 24 = .ok (.iconst 1, 1) := by decide +kernel
theorem dX0_dictionaryKey_25 : decode cX0_dictionaryKey 25 = .ok (.iadd, 1) := by decide +kernel
theorem dX0_dictionaryKey_26 : decode cX0_dictionaryKey 26 = .ok (.goto 4, 3) := by decide +kernel
theorem dX0_dictionaryKey_29 : decode cX0_dictionaryKey 29 = .ok (.iconst 0, 1) := by decide +kernel
theorem dX0_dictionaryKey_30 : decode cX0_dictionaryKey 30 = .ok (.iadd, 1) := by decide +kernel
theorem dX0_dictionaryKey_31 : decode cX0_dictionaryKey 31 = .ok (.istore_n 2, 1) := by decide +kernel
theorem dX0_dictionaryKey_32 : decode cX0_dictionaryKey 32 = .ok (.iinc 3 1, 3) := by decide +kernel
theorem dX0_dictionaryKey_35 : decode cX0_dictionaryKey 35 = .ok (.goto (-31), 3) := by decide +kernel
theorem dX0_dictionaryKey_38 : decode cX0_dictionaryKey 38 = .ok (.iload_n 2, 1) := by decide +kernel
theorem dX0_dictionaryKey_39 : decode cX0_dictionaryKey 39 = .ok (.ireturn, 1) := by decide +kernel
theorem dX0_isRepeated_0 : decode cX0_isRepeated 0 = .ok (.iconst 0, 1) := by decide +kernel
theorem dX0_isRepeated_1 : decode cX0_isRepeated 1 = .ok (.istore_n 3, 1) := by decide +kernel
theorem dX0_isRepeated_2 : decode cX0_isRepeated 2 = .ok (.iload_n 3, 1) := by decide +kernel
theorem dX0_isRepeated_3 : decode cX0_isRepeated 3 = .ok (.iload_n 2, 1) := by decide +kernel
theorem dX0_isRepeated_4 : decode cX0_isRepeated 4 = .ok (.if_icmp .ge 26, 3) := by decide +kernel
theorem dX0_isRepeated_7 : decode cX0_isRepeated 7 = .ok (.iload_n 0, 1) := by decide +kernel
theorem dX0_isRepeated_8 : decode cX0_isRepeated 8 = .ok (.iload_n 1, 1) := by decide +kernel
theorem dX0_isRepeated_9 : decode cX0_isRepeated 9 = .ok (.iload_n 3, 1) := by decide +kernel
theorem dX0_isRepeated_10 : decode cX0_isRepeated 10 = .ok (.invokestatic 15, 3) := by decide +kernel
theorem dX0_isRepeated_13 : decode cX0_isRepeated 13 = .ok (.iload_n 0, 1) := by decide +kernel
theorem dX0_isRepeated_14 : decode cX0_isRepeated 14 = .ok (.iload_n 1, 1) := by decide +kernel
theorem dX0_isRepeated_15 : decode cX0_isRepeated 15 = .ok (.iload_n 2, 1) := by decide +kernel
theorem dX0_isRepeated_16 : decode cX0_isRepeated 16 = .ok (.invokestatic 15, 3) := by decide +kernel
theorem dX0_isRepeated_19 : decode cX0_isRepeated 19 = .ok (.if_icmp .ne 5, 3) := by decide +kernel
theorem dX0_isRepeated_22 : decode cX0_isRepeated 22 = .ok (.iconst 1, 1) := by decide +kernel
theorem dX0_isRepeated_23 : decode cX0_isRepeated 23 = .ok (.ireturn, 1) := by decide +kernel
theorem dX0_isRepeated_24 : decode cX0_isRepeated 24 = .ok (.iinc 3 1, 3) := by decide +kernel
theorem dX0_isRepeated_27 : decode cX0_isRepeated 27 = .ok (.goto (-25), 3) := by decide +kernel
theorem dX0_isRepeated_30 : decode cX0_isRepeated 30 = .ok (.iconst 0, 1) := by decide +kernel
theorem dX0_isRepeated_31 : decode cX0_isRepeated 31 = .ok (.ireturn, 1) := by decide +kernel
theorem dX1_init_0 : decode cX1_init 0 = .ok (.aload_n 0, 1) := by decide +kernel
theorem dX1_init_1 : decode cX1_init 1 = .ok (.invokespecial 3, 3) := by decide +kernel
theorem dX1_init_4 : decode cX1_init 4 = .ok (.aload_n 0, 1) := by decide +kernel
theorem dX1_init_5 : decode cX1_init 5 = .ok (.bipush 26, 2) := by decide +kernel
theorem dX1_init_7 : decode cX1_init 7 = .ok (.newarray .int, 2) := by decide +kernel
theorem dX1_init_9 : decode cX1_init 9 = .ok (.putfield 9, 3) := by decide +kernel
theorem dX1_init_12 : decode cX1_init 12 = .ok (.return_, 1) := by decide +kernel
theorem dX1_bestCode_0 : decode cX1_bestCode 0 = .ok (.aload_n 1, 1) := by decide +kernel
theorem dX1_bestCode_1 : decode cX1_bestCode 1 = .ok (.iload_n 2, 1) := by decide +kernel
theorem dX1_bestCode_2 : decode cX1_bestCode 2 = .ok (.iload_n 3, 1) := by decide +kernel
theorem dX1_bestCode_3 : decode cX1_bestCode 3 = .ok (.invokevirtual 15, 3) := by decide +kernel
theorem dX1_bestCode_6 : decode cX1_bestCode 6 = .ok (.ifCond .ne 13, 3) := by decide +kernel
theorem dX1_bestCode_9 : decode cX1_bestCode 9 = .ok (.aload_n 1, 1) := by decide +kernel
theorem dX1_bestCode_10 : decode cX1_bestCode 10 = .ok (.getfield 21, 3) := by decide +kernel
theorem dX1_bestCode_13 : decode cX1_bestCode 13 = .ok (.invokevirtual 25, 3) := by decide +kernel
theorem dX1_bestCode_16 : decode cX1_bestCode 16 = .ok (.ifCond .eq 5, 3) := by decide +kernel
theorem dX1_bestCode_19 : decode cX1_bestCode 19 = .ok (.iconst (-1), 1) := by decide +kernel
theorem dX1_bestCode_20 : decode cX1_bestCode 20 = .ok (.ireturn, 1) := by decide +kernel
theorem dX1_bestCode_21 : decode cX1_bestCode 21 = .ok (.aload_n 1, 1) := by decide +kernel
theorem dX1_bestCode_22 : decode cX1_bestCode 22 = .ok (.getfield 31, 3) := by decide +kernel
theorem dX1_bestCode_25 : decode cX1_bestCode 25 = .ok (.getfield 35, 3) := by decide +kernel
theorem dX1_bestCode_28 : decode cX1_bestCode 28 = .ok (.iload_n 3, 1) := by decide +kernel
theorem dX1_bestCode_29 : decode cX1_bestCode 29 = .ok (.iaload, 1) := by decide +kernel
theorem dX1_bestCode_30 : decode cX1_bestCode 30 = .ok (.istore 5, 2) := by decide +kernel
theorem dX1_bestCode_32 : decode cX1_bestCode 32 = .ok (.aload_n 0, 1) := by decide +kernel
theorem dX1_bestCode_33 : decode cX1_bestCode 33 = .ok (.aload_n 1, 1) := by decide +kernel
theorem dX1_bestCode_34 : decode cX1_bestCode 34 = .ok (.getfield 21, 3) := by decide +kernel
theorem dX1_bestCode_37 : decode cX1_bestCode 37 = .ok (.invokevirtual 40, 3) := by decide +kernel
theorem dX1_bestCode_40 : decode cX1_bestCode 40 = .ok (.iconst (-1), 1) := by decide +kernel
theorem dX1_bestCode_41 : decode cX1_bestCode 41 = .ok (.istore 6, 2) := by decide +kernel
theorem dX1_bestCode_43 : decode cX1_bestCode 43 = .ok (.iconst 0, 1) := by decide +kernel
theorem dX1_bestCode_44 : decode cX1_bestCode 44 = .ok (.istore 7, 2) := by decide +kernel
theorem dX1_bestCode_46 : decode cX1_bestCode 46 = .ok (.iconst 0, 1) := by decide +kernel
theorem dX1_bestCode_47 : decode cX1_bestCode 47 = .ok (.istore 8, 2) := by decide +kernel
theorem dX1_bestCode_49 : decode cX1_bestCode 49 = .ok (.iload 8, 2) := by decide +kernel
theorem dX1_bestCode_51 : decode cX1_bestCode 51 = .ok (.iload 4, 2) := by decide +kernel
theorem dX1_bestCode_53 : decode cX1_bestCode 53 = .ok (.invokestatic 44, 3) := by decide +kernel
theorem dX1_bestCode_56 : decode cX1_bestCode 56 = .ok (.if_icmp .ge 54, 3) := by decide +kernel
theorem dX1_bestCode_59 : decode cX1_bestCode 59 = .ok (.aload_n 0, 1) := by decide +kernel
theorem dX1_bestCode_60 : decode cX1_bestCode 60 = .ok (.iload 4, 2) := by decide +kernel
theorem dX1_bestCode_62 : decode cX1_bestCode 62 = .ok (.iload 8, 2) := by decide +kernel
theorem dX1_bestCode_64 : decode cX1_bestCode 64 = .ok (.invokevirtual 50, 3) := by decide +kernel
theorem dX1_bestCode_67 : decode cX1_bestCode 67 = .ok (.istore 9, 2) := by decide +kernel
theorem dX1_bestCode_69 : decode cX1_bestCode 69 = .ok (.iload 6, 2) := by decide +kernel
theorem dX1_bestCode_71 : decode cX1_bestCode 71 = .ok (.iconst (-1), 1) := by decide +kernel
theorem dX1_bestCode_72 : decode cX1_bestCode 72 = .ok (.if_icmp .eq 10, 3) := by decide +kernel
theorem dX1_bestCode_75 : decode cX1_bestCode 75 = .ok (.iload 9, 2) := by decide +kernel
theorem dX1_bestCode_77 : decode cX1_bestCode 77 = .ok (.iload 7, 2) := by decide +kernel
theorem dX1_bestCode_79 : decode cX1_bestCode 79 = .ok (.if_icmp .ge 25, 3) := by decide +kernel
theorem dX1_bestCode_82 : decode cX1_bestCode 82 = .ok (.aload_n 1, 1) := by decide +kernel
theorem dX1_bestCode_83 : decode cX1_bestCode 83 = .ok (.iload 5, 2) := by decide +kernel
theorem dX1_bestCode_85 : decode cX1_bestCode 85 = .ok (.iload 4, 2) := by decide +kernel
theorem dX1_bestCode_87 : decode cX1_bestCode 87 = .ok (.iload 8, 2) := by decide +kernel
theorem dX1_bestCode_89 : decode cX1_bestCode 89 = .ok (.iconst (-1), 1) := by decide +kernel
theorem dX1_bestCode_90 : decode cX1_bestCode 90 = .ok (.invokevirtual 53, 3) := by decide +kernel
theorem dX1_bestCode_93 : decode cX1_bestCode 93 = .ok (.ifCond .ne 11, 3) := by decide +kernel
theorem dX1_bestCode_96 : decode cX1_bestCode 96 = .ok (.iload 8, 2) := by decide +kernel
theorem dX1_bestCode_98 : decode cX1_bestCode 98 = .ok (.istore 6, 2) := by decide +kernel
theorem dX1_bestCode_100 : decode cX1_bestCode 100 = .ok (.iload 9, 2) := by decide +kernel
theorem dX1_bestCode_102 : decode cX1_bestCode 102 = .ok (.istore 7, 2) := by decide +kernel
theorem dX1_bestCode_104 : decode cX1_bestCode 104 = .ok (.iinc 8 1, 3) := by decide +kernel
theorem dX1_bestCode_107 : decode cX1_bestCode 107 = .ok (.goto (-58), 3) := by decide +kernel
theorem dX1_bestCode_110 : decode cX1_bestCode 110 = .ok (.iload 6, 2) := by decide +kernel
theorem dX1_bestCode_112 : decode cX1_bestCode 112 = .ok (.ireturn, 1) := by decide +kernel
theorem dX1_countNames_0 : decode cX1_countNames 0 = .ok (.iconst 0, 1) := by decide +kernel
theorem dX1_countNames_1 : decode cX1_countNames 1 = .ok (.istore_n 2, 1) := by decide +kernel
theorem dX1_countNames_2 : decode cX1_countNames 2 = .ok (.iload_n 2, 1) := by decide +kernel
theorem dX1_countNames_3 : decode cX1_countNames 3 = .ok (.bipush 26, 2) := by decide +kernel
theorem dX1_countNames_5 : decode cX1_countNames 5 = .ok (.if_icmp .ge 16, 3) := by decide +kernel
theorem dX1_countNames_8 : decode cX1_countNames 8 = .ok (.aload_n 0, 1) := by decide +kernel
theorem dX1_countNames_9 : decode cX1_countNames 9 = .ok (.getfield 9, 3) := by decide +kernel
theorem dX1_countNames_12 : decode cX1_countNames 12 = .ok (.iload_n 2, 1) := by decide +kernel
theorem dX1_countNames_13 : decode cX1_countNames 13 = .ok (.iconst 0, 1) := by decide +kernel
theorem dX1_countNames_14 : decode cX1_countNames 14 = .ok (.iastore, 1) := by decide +kernel
theorem dX1_countNames_15 : decode cX1_countNames 15 = .ok (.iinc 2 1, 3) := by decide +kernel
theorem dX1_countNames_18 : decode cX1_countNames 18 = .ok (.goto (-16), 3) := by decide +kernel
theorem dX1_countNames_21 : decode cX1_countNames 21 = .ok (.iconst 0, 1) := by decide +kernel
theorem dX1_countNames_22 : decode cX1_countNames 22 = .ok (.istore_n 2, 1) := by decide +kernel
theorem dX1_countNames_23 : decode cX1_countNames 23 = .ok (.iload_n 2, 1) := by decide +kernel
theorem dX1_countNames_24 : decode cX1_countNames 24 = .ok (.aload_n 1, 1) := by decide +kernel
theorem dX1_countNames_25 : decode cX1_countNames 25 = .ok (.getfield 57, 3) := by decide +kernel
theorem dX1_countNames_28 : decode cX1_countNames 28 = .ok (.if_icmp .ge 33, 3) := by decide +kernel
theorem dX1_countNames_31 : decode cX1_countNames 31 = .ok (.aload_n 1, 1) := by decide +kernel
theorem dX1_countNames_32 : decode cX1_countNames 32 = .ok (.iload_n 2, 1) := by decide +kernel
theorem dX1_countNames_33 : decode cX1_countNames 33 = .ok (.invokevirtual 61, 3) := by decide +kernel
theorem dX1_countNames_36 : decode cX1_countNames 36 = .ok (.ifCond .eq 19, 3) := by decide +kernel
theorem dX1_countNames_39 : decode cX1_countNames 39 = .ok (.aload_n 0, 1) := by decide +kernel
theorem dX1_countNames_40 : decode cX1_countNames 40 = .ok (.aload_n 1, 1) := by decide +kernel
theorem dX1_countNames_41 : decode cX1_countNames 41 = .ok (.getfield 65, 3) := by decide +kernel
theorem dX1_countNames_44 : decode cX1_countNames 44 = .ok (.iload_n 2, 1) := by decide +kernel
theorem dX1_countNames_45 : decode cX1_countNames 45 = .ok (.iaload, 1) := by decide +kernel
theorem dX1_countNames_46 : decode cX1_countNames 46 = .ok (.aload_n 1, 1) := by decide +kernel
theorem dX1_countNames_47 : decode cX1_countNames 47 = .ok (.getfield 68, 3) := by decide +kernel
theorem dX1_countNames_50 : decode cX1_countNames 50 = .ok (.iload_n 2, 1) := by decide +kernel
theorem dX1_countNames_51 : decode cX1_countNames 51 = .ok (.iaload, 1) := by decide +kernel
theorem dX1_countNames_52 : decode cX1_countNames 52 = .ok (.invokevirtual 71, 3) := by decide +kernel
theorem dX1_countNames_55 : decode cX1_countNames 55 = .ok (.iinc 2 1, 3) := by decide +kernel
theorem dX1_countNames_58 : decode cX1_countNames 58 = .ok (.goto (-35), 3) := by decide +kernel
theorem dX1_countNames_61 : decode cX1_countNames 61 = .ok (.return_, 1) := by decide +kernel
theorem dX1_countLetters_0 : decode cX1_countLetters 0 = .ok (.iconst 0, 1) := by decide +kernel
theorem dX1_countLetters_1 : decode cX1_countLetters 1 = .ok (.istore_n 3, 1) := by decide +kernel
theorem dX1_countLetters_2 : decode cX1_countLetters 2 = .ok (.iload_n 3, 1) := by decide +kernel
theorem dX1_countLetters_3 : decode cX1_countLetters 3 = .ok (.iload_n 1, 1) := by decide +kernel
theorem dX1_countLetters_4 : decode cX1_countLetters 4 = .ok (.if_icmp .ge 33, 3) := by decide +kernel
theorem dX1_countLetters_7 : decode cX1_countLetters 7 = .ok (.iload_n 1, 1) := by decide +kernel
theorem dX1_countLetters_8 : decode cX1_countLetters 8 = .ok (.iload_n 2, 1) := by decide +kernel
theorem dX1_countLetters_9 : decode cX1_countLetters 9 = .ok (.iload_n 3, 1) := by decide +kernel
theorem dX1_countLetters_10 : decode cX1_countLetters 10 = .ok (.invokestatic 75, 3) := by decide +kernel
theorem dX1_countLetters_13 : decode cX1_countLetters 13 = .ok (.ifCond .ne 18, 3) := by decide +kernel
theorem dX1_countLetters_16 : decode cX1_countLetters 16 = .ok (.aload_n 0, 1) := by decide +kernel
theorem dX1_countLetters_17 : decode cX1_countLetters 17 = .ok (.getfield 9, 3) := by decide +kernel
theorem dX1_countLetters_20 : decode cX1_countLetters 20 = .ok (.iload_n 1, 1) := by decide +kernel
theorem dX1_countLetters_21 : decode cX1_countLetters 21 = .ok (.iload_n 2, 1) := by decide +kernel
theorem dX1_countLetters_22 : decode cX1_countLetters 22 = .ok (.iload_n 3, 1) := by decide +kernel
theorem dX1_countLetters_23 : decode cX1_countLetters 23 = .ok (.invokestatic 79, 3) := by decide +kernel
theorem dX1_countLetters_26 : decode cX1_countLetters 26 = .ok (.dup2, 1) := by decide +kernel
theorem dX1_countLetters_27 : decode cX1_countLetters 27 = .ok (.iaload, 1) := by decide +kernel
theorem dX1_countLetters_28 : decode cX1_countLetters 28 = .ok (.iconst 1, 1) := by decide +kernel
theorem dX1_countLetters_29 : decode cX1_countLetters 29 = .ok (.iadd, 1) := by decide +kernel
theorem dX1_countLetters_30 : decode cX1_countLetters 30 = .ok (.iastore, 1) := by decide +kernel
theorem dX1_countLetters_31 : decode cX1_countLetters 31 = .ok (.iinc 3 1, 3) := by decide +kernel
theorem dX1_countLetters_34 : decode cX1_countLetters 34 = .ok (.goto (-32), 3) := by decide +kernel
theorem dX1_countLetters_37 : decode cX1_countLetters 37 = .ok (.return_, 1) := by decide +kernel
theorem dX1_namesWithLettersOf_0 : decode cX1_namesWithLettersOf 0 = .ok (.iconst 0, 1) := by decide +kernel
theorem dX1_namesWithLettersOf_1 : decode cX1_namesWithLettersOf 1 = .ok (.istore_n 3, 1) := by decide +kernel
theorem dX1_namesWithLettersOf_2 : decode cX1_namesWithLettersOf 2 = .ok (.iconst 0, 1) := by decide +kernel
theorem dX1_namesWithLettersOf_3 : decode cX1_namesWithLettersOf 3 = .ok (.istore 4, 2) := by decide +kernel
theorem dX1_namesWithLettersOf_5 : decode cX1_namesWithLettersOf 5 = .ok (.iload 4, 2) := by decide +kernel
theorem dX1_namesWithLettersOf_7 : decode cX1_namesWithLettersOf 7 = .ok (.iload_n 1, 1) := by decide +kernel
theorem dX1_namesWithLettersOf_8 : decode cX1_namesWithLettersOf 8 = .ok (.if_icmp .ge 24, 3) := by decide +kernel
theorem dX1_namesWithLettersOf_11 : decode cX1_namesWithLettersOf 11 = .ok (.iload_n 3, 1) := by decide +kernel
theorem dX1_namesWithLettersOf_12 : decode cX1_namesWithLettersOf 12 = .ok (.aload_n 0, 1) := by decide +kernel
theorem dX1_namesWithLettersOf_13 : decode cX1_namesWithLettersOf 13 = .ok (.getfield 9, 3) := by decide +kernel
theorem dX1_namesWithLettersOf_16 : decode cX1_namesWithLettersOf 16 = .ok (.iload_n 1, 1) := by decide +kernel
theorem dX1_namesWithLettersOf_17 : decode cX1_namesWithLettersOf 17 = .ok (.iload_n 2, 1) := by decide +kernel
theorem dX1_namesWithLettersOf_18 : decode cX1_namesWithLettersOf 18 = .ok (.iload 4, 2) := by decide +kernel
theorem dX1_namesWithLettersOf_20 : decode cX1_namesWithLettersOf 20 = .ok (.invokestatic 79, 3) := by decide +kernel
theorem dX1_namesWithLettersOf_23 : decode cX1_namesWithLettersOf 23 = .ok (.iaload, 1) := by decide +kernel
theorem dX1_namesWithLettersOf_24 : decode cX1_namesWithLettersOf 24 = .ok (.iadd, 1) := by decide +kernel
theorem dX1_namesWithLettersOf_25 : decode cX1_namesWithLettersOf 25 = .ok (.istore_n 3, 1) := by decide +kernel
theorem dX1_namesWithLettersOf_26 : decode cX1_namesWithLettersOf 26 = .ok (.iinc 4 1, 3) := by decide +kernel
theorem dX1_namesWithLettersOf_29 : decode cX1_namesWithLettersOf 29 = .ok (.goto (-24), 3) := by decide +kernel
theorem dX1_namesWithLettersOf_32 : decode cX1_namesWithLettersOf 32 = .ok (.iload_n 3, 1) := by decide +kernel
theorem dX1_namesWithLettersOf_33 : decode cX1_namesWithLettersOf 33 = .ok (.ireturn, 1) := by decide +kernel
theorem dX2_init_0 : decode cX2_init 0 = .ok (.aload_n 0, 1) := by decide +kernel
theorem dX2_init_1 : decode cX2_init 1 = .ok (.invokespecial 3, 3) := by decide +kernel
theorem dX2_init_4 : decode cX2_init 4 = .ok (.aload_n 0, 1) := by decide +kernel
theorem dX2_init_5 : decode cX2_init 5 = .ok (.iconst 0, 1) := by decide +kernel
theorem dX2_init_6 : decode cX2_init 6 = .ok (.putfield 9, 3) := by decide +kernel
theorem dX2_init_9 : decode cX2_init 9 = .ok (.aload_n 0, 1) := by decide +kernel
theorem dX2_init_10 : decode cX2_init 10 = .ok (.bipush 40, 2) := by decide +kernel
theorem dX2_init_12 : decode cX2_init 12 = .ok (.newarray .int, 2) := by decide +kernel
theorem dX2_init_14 : decode cX2_init 14 = .ok (.putfield 15, 3) := by decide +kernel
theorem dX2_init_17 : decode cX2_init 17 = .ok (.aload_n 0, 1) := by decide +kernel
theorem dX2_init_18 : decode cX2_init 18 = .ok (.bipush 40, 2) := by decide +kernel
theorem dX2_init_20 : decode cX2_init 20 = .ok (.newarray .int, 2) := by decide +kernel
theorem dX2_init_22 : decode cX2_init 22 = .ok (.putfield 19, 3) := by decide +kernel
theorem dX2_init_25 : decode cX2_init 25 = .ok (.aload_n 0, 1) := by decide +kernel
theorem dX2_init_26 : decode cX2_init 26 = .ok (.bipush 40, 2) := by decide +kernel
theorem dX2_init_28 : decode cX2_init 28 = .ok (.newarray .int, 2) := by decide +kernel
theorem dX2_init_30 : decode cX2_init 30 = .ok (.putfield 22, 3) := by decide +kernel
theorem dX2_init_33 : decode cX2_init 33 = .ok (.aload_n 0, 1) := by decide +kernel
theorem dX2_init_34 : decode cX2_init 34 = .ok (.bipush 40, 2) := by decide +kernel
theorem dX2_init_36 : decode cX2_init 36 = .ok (.newarray .int, 2) := by decide +kernel
theorem dX2_init_38 : decode cX2_init 38 = .ok (.putfield 25, 3) := by decide +kernel
theorem dX2_init_41 : decode cX2_init 41 = .ok (.aload_n 0, 1) := by decide +kernel
theorem dX2_init_42 : decode cX2_init 42 = .ok (.bipush 40, 2) := by decide +kernel
theorem dX2_init_44 : decode cX2_init 44 = .ok (.newarray .int, 2) := by decide +kernel
theorem dX2_init_46 : decode cX2_init 46 = .ok (.putfield 28, 3) := by decide +kernel
theorem dX2_init_49 : decode cX2_init 49 = .ok (.aload_n 0, 1) := by decide +kernel
theorem dX2_init_50 : decode cX2_init 50 = .ok (.bipush 40, 2) := by decide +kernel
theorem dX2_init_52 : decode cX2_init 52 = .ok (.newarray .int, 2) := by decide +kernel
theorem dX2_init_54 : decode cX2_init 54 = .ok (.putfield 31, 3) := by decide +kernel
theorem dX2_init_57 : decode cX2_init 57 = .ok (.aload_n 0, 1) := by decide +kernel
theorem dX2_init_58 : decode cX2_init 58 = .ok (.bipush 40, 2) := by decide +kernel
theorem dX2_init_60 : decode cX2_init 60 = .ok (.newarray .int, 2) := by decide +kernel
theorem dX2_init_62 : decode cX2_init 62 = .ok (.putfield 34, 3) := by decide +kernel
theorem dX2_init_65 : decode cX2_init 65 = .ok (.aload_n 0, 1) := by decide +kernel
theorem dX2_init_66 : decode cX2_init 66 = .ok (.bipush 40, 2) := by decide +kernel
theorem dX2_init_68 : decode cX2_init 68 = .ok (.newarray .boolean, 2) := by decide +kernel
theorem dX2_init_70 : decode cX2_init 70 = .ok (.putfield 37, 3) := by decide +kernel
theorem dX2_init_73 : decode cX2_init 73 = .ok (.return_, 1) := by decide +kernel
theorem dX2_copyFrom_0 : decode cX2_copyFrom 0 = .ok (.aload_n 0, 1) := by decide +kernel
theorem dX2_copyFrom_1 : decode cX2_copyFrom 1 = .ok (.aload_n 1, 1) := by decide +kernel
theorem dX2_copyFrom_2 : decode cX2_copyFrom 2 = .ok (.getfield 9, 3) := by decide +kernel
theorem dX2_copyFrom_5 : decode cX2_copyFrom 5 = .ok (.putfield 9, 3) := by decide +kernel
theorem dX2_copyFrom_8 : decode cX2_copyFrom 8 = .ok (.aload_n 1, 1) := by decide +kernel
theorem dX2_copyFrom_9 : decode cX2_copyFrom 9 = .ok (.getfield 15, 3) := by decide +kernel
theorem dX2_copyFrom_12 : decode cX2_copyFrom 12 = .ok (.iconst 0, 1) := by decide +kernel
theorem dX2_copyFrom_13 : decode cX2_copyFrom 13 = .ok (.aload_n 0, 1) := by decide +kernel
theorem dX2_copyFrom_14 : decode cX2_copyFrom 14 = .ok (.getfield 15, 3) := by decide +kernel
theorem dX2_copyFrom_17 : decode cX2_copyFrom 17 = .ok (.iconst 0, 1) := by decide +kernel
theorem dX2_copyFrom_18 : decode cX2_copyFrom 18 = .ok (.bipush 40, 2) := by decide +kernel
theorem dX2_copyFrom_20 : decode cX2_copyFrom 20 = .ok (.invokestatic 41, 3) := by decide +kernel
theorem dX2_copyFrom_23 : decode cX2_copyFrom 23 = .ok (.aload_n 1, 1) := by decide +kernel
theorem dX2_copyFrom_24 : decode cX2_copyFrom 24 = .ok (.getfield 19, 3) := by decide +kernel
theorem dX2_copyFrom_27 : decode cX2_copyFrom 27 = .ok (.iconst 0, 1) := by decide +kernel
theorem dX2_copyFrom_28 : decode cX2_copyFrom 28 = .ok (.aload_n 0, 1) := by decide +kernel
theorem dX2_copyFrom_29 : decode cX2_copyFrom 29 = .ok (.getfield 19, 3) := by decide +kernel
theorem dX2_copyFrom_32 : decode cX2_copyFrom 32 = .ok (.iconst 0, 1) := by decide +kernel
theorem dX2_copyFrom_33 : decode cX2_copyFrom 33 = .ok (.bipush 40, 2) := by decide +kernel
theorem dX2_copyFrom_35 : decode cX2_copyFrom 35 = .ok (.invokestatic 41, 3) := by decide +kernel
theorem dX2_copyFrom_38 : decode cX2_copyFrom 38 = .ok (.aload_n 1, 1) := by decide +kernel
theorem dX2_copyFrom_39 : decode cX2_copyFrom 39 = .ok (.getfield 22, 3) := by decide +kernel
theorem dX2_copyFrom_42 : decode cX2_copyFrom 42 = .ok (.iconst 0, 1) := by decide +kernel
theorem dX2_copyFrom_43 : decode cX2_copyFrom 43 = .ok (.aload_n 0, 1) := by decide +kernel
theorem dX2_copyFrom_44 : decode cX2_copyFrom 44 = .ok (.getfield 22, 3) := by decide +kernel
theorem dX2_copyFrom_47 : decode cX2_copyFrom 47 = .ok (.iconst 0, 1) := by decide +kernel
theorem dX2_copyFrom_48 : decode cX2_copyFrom 48 = .ok (.bipush 40, 2) := by decide +kernel
theorem dX2_copyFrom_50 : decode cX2_copyFrom 50 = .ok (.invokestatic 41, 3) := by decide +kernel
theorem dX2_copyFrom_53 : decode cX2_copyFrom 53 = .ok (.aload_n 1, 1) := by decide +kernel
theorem dX2_copyFrom_54 : decode cX2_copyFrom 54 = .ok (.getfield 25, 3) := by decide +kernel
theorem dX2_copyFrom_57 : decode cX2_copyFrom 57 = .ok (.iconst 0, 1) := by decide +kernel
theorem dX2_copyFrom_58 : decode cX2_copyFrom 58 = .ok (.aload_n 0, 1) := by decide +kernel
theorem dX2_copyFrom_59 : decode cX2_copyFrom 59 = .ok (.getfield 25, 3) := by decide +kernel
theorem dX2_copyFrom_62 : decode cX2_copyFrom 62 = .ok (.iconst 0, 1) := by decide +kernel
theorem dX2_copyFrom_63 : decode cX2_copyFrom 63 = .ok (.bipush 40, 2) := by decide +kernel
theorem dX2_copyFrom_65 : decode cX2_copyFrom 65 = .ok (.invokestatic 41, 3) := by decide +kernel
theorem dX2_copyFrom_68 : decode cX2_copyFrom 68 = .ok (.aload_n 1, 1) := by decide +kernel
theorem dX2_copyFrom_69 : decode cX2_copyFrom 69 = .ok (.getfield 28, 3) := by decide +kernel
theorem dX2_copyFrom_72 : decode cX2_copyFrom 72 = .ok (.iconst 0, 1) := by decide +kernel
theorem dX2_copyFrom_73 : decode cX2_copyFrom 73 = .ok (.aload_n 0, 1) := by decide +kernel
theorem dX2_copyFrom_74 : decode cX2_copyFrom 74 = .ok (.getfield 28, 3) := by decide +kernel
theorem dX2_copyFrom_77 : decode cX2_copyFrom 77 = .ok (.iconst 0, 1) := by decide +kernel
theorem dX2_copyFrom_78 : decode cX2_copyFrom 78 = .ok (.bipush 40, 2) := by decide +kernel
theorem dX2_copyFrom_80 : decode cX2_copyFrom 80 = .ok (.invokestatic 41, 3) := by decide +kernel
theorem dX2_copyFrom_83 : decode cX2_copyFrom 83 = .ok (.aload_n 1, 1) := by decide +kernel
theorem dX2_copyFrom_84 : decode cX2_copyFrom 84 = .ok (.getfield 31, 3) := by decide +kernel
theorem dX2_copyFrom_87 : decode cX2_copyFrom 87 = .ok (.iconst 0, 1) := by decide +kernel
theorem dX2_copyFrom_88 : decode cX2_copyFrom 88 = .ok (.aload_n 0, 1) := by decide +kernel
theorem dX2_copyFrom_89 : decode cX2_copyFrom 89 = .ok (.getfield 31, 3) := by decide +kernel
theorem dX2_copyFrom_92 : decode cX2_copyFrom 92 = .ok (.iconst 0, 1) := by decide +kernel
theorem dX2_copyFrom_93 : decode cX2_copyFrom 93 = .ok (.bipush 40, 2) := by decide +kernel
theorem dX2_copyFrom_95 : decode cX2_copyFrom 95 = .ok (.invokestatic 41, 3) := by decide +kernel
theorem dX2_copyFrom_98 : decode cX2_copyFrom 98 = .ok (.aload_n 1, 1) := by decide +kernel
theorem dX2_copyFrom_99 : decode cX2_copyFrom 99 = .ok (.getfield 34, 3) := by decide +kernel
theorem dX2_copyFrom_102 : decode cX2_copyFrom 102 = .ok (.iconst 0, 1) := by decide +kernel
theorem dX2_copyFrom_103 : decode cX2_copyFrom 103 = .ok (.aload_n 0, 1) := by decide +kernel
theorem dX2_copyFrom_104 : decode cX2_copyFrom 104 = .ok (.getfield 34, 3) := by decide +kernel
theorem dX2_copyFrom_107 : decode cX2_copyFrom 107 = .ok (.iconst 0, 1) := by decide +kernel
theorem dX2_copyFrom_108 : decode cX2_copyFrom 108 = .ok (.bipush 40, 2) := by decide +kernel
theorem dX2_copyFrom_110 : decode cX2_copyFrom 110 = .ok (.invokestatic 41, 3) := by decide +kernel
theorem dX2_copyFrom_113 : decode cX2_copyFrom 113 = .ok (.aload_n 1, 1) := by decide +kernel
theorem dX2_copyFrom_114 : decode cX2_copyFrom 114 = .ok (.getfield 37, 3) := by decide +kernel
theorem dX2_copyFrom_117 : decode cX2_copyFrom 117 = .ok (.iconst 0, 1) := by decide +kernel
theorem dX2_copyFrom_118 : decode cX2_copyFrom 118 = .ok (.aload_n 0, 1) := by decide +kernel
theorem dX2_copyFrom_119 : decode cX2_copyFrom 119 = .ok (.getfield 37, 3) := by decide +kernel
theorem dX2_copyFrom_122 : decode cX2_copyFrom 122 = .ok (.iconst 0, 1) := by decide +kernel
theorem dX2_copyFrom_123 : decode cX2_copyFrom 123 = .ok (.bipush 40, 2) := by decide +kernel
theorem dX2_copyFrom_125 : decode cX2_copyFrom 125 = .ok (.invokestatic 41, 3) := by decide +kernel
theorem dX2_copyFrom_128 : decode cX2_copyFrom 128 = .ok (.return_, 1) := by decide +kernel
theorem dX2_has_0 : decode cX2_has 0 = .ok (.iload_n 1, 1) := by decide +kernel
theorem dX2_has_1 : decode cX2_has 1 = .ok (.ifCond .lt 15, 3) := by decide +kernel
theorem dX2_has_4 : decode cX2_has 4 = .ok (.iload_n 1, 1) := by decide +kernel
theorem dX2_has_5 : decode cX2_has 5 = .ok (.aload_n 0, 1) := by decide +kernel
theorem dX2_has_6 : decode cX2_has 6 = .ok (.getfield 9, 3) := by decide +kernel
theorem dX2_has_9 : decode cX2_has 9 = .ok (.if_icmp .ge 7, 3) := by decide +kernel
theorem dX2_has_12 : decode cX2_has 12 = .ok (.iconst 1, 1) := by decide +kernel
theorem dX2_has_13 : decode cX2_has 13 = .ok (.goto 4, 3) := by decide +kernel
theorem dX2_has_16 : decode cX2_has 16 = .ok (.iconst 0, 1) := by decide +kernel
theorem dX2_has_17 : decode cX2_has 17 = .ok (.ireturn, 1) := by decide +kernel
theorem dX2_isFull_0 : decode cX2_isFull 0 = .ok (.aload_n 0, 1) := by decide +kernel
theorem dX2_isFull_1 : decode cX2_isFull 1 = .ok (.getfield 9, 3) := by decide +kernel
theorem dX2_isFull_4 : decode cX2_isFull 4 = .ok (.bipush 40, 2) := by decide +kernel
theorem dX2_isFull_6 : decode cX2_isFull 6 = .ok (.if_icmp .lt 7, 3) := by decide +kernel
theorem dX2_isFull_9 : decode cX2_isFull 9 = .ok (.iconst 1, 1) := by decide +kernel
theorem dX2_isFull_10 : decode cX2_isFull 10 = .ok (.goto 4, 3) := by decide +kernel
theorem dX2_isFull_13 : decode cX2_isFull 13 = .ok (.iconst 0, 1) := by decide +kernel
theorem dX2_isFull_14 : decode cX2_isFull 14 = .ok (.ireturn, 1) := by decide +kernel
theorem dX2_add_0 : decode cX2_add 0 = .ok (.aload_n 0, 1) := by decide +kernel
theorem dX2_add_1 : decode cX2_add 1 = .ok (.invokevirtual 47, 3) := by decide +kernel
theorem dX2_add_4 : decode cX2_add 4 = .ok (.ifCond .eq 4, 3) := by decide +kernel
theorem dX2_add_7 : decode cX2_add 7 = .ok (.return_, 1) := by decide +kernel
theorem dX2_add_8 : decode cX2_add 8 = .ok (.aload_n 0, 1) := by decide +kernel
theorem dX2_add_9 : decode cX2_add 9 = .ok (.getfield 15, 3) := by decide +kernel
theorem dX2_add_12 : decode cX2_add 12 = .ok (.aload_n 0, 1) := by decide +kernel
theorem dX2_add_13 : decode cX2_add 13 = .ok (.getfield 9, 3) := by decide +kernel
theorem dX2_add_16 : decode cX2_add 16 = .ok (.iload_n 3, 1) := by decide +kernel
theorem dX2_add_17 : decode cX2_add 17 = .ok (.iastore, 1) := by decide +kernel
theorem dX2_add_18 : decode cX2_add 18 = .ok (.aload_n 0, 1) := by decide +kernel
theorem dX2_add_19 : decode cX2_add 19 = .ok (.getfield 19, 3) := by decide +kernel
theorem dX2_add_22 : decode cX2_add 22 = .ok (.aload_n 0, 1) := by decide +kernel
theorem dX2_add_23 : decode cX2_add 23 = .ok (.getfield 9, 3) := by decide +kernel
theorem dX2_add_26 : decode cX2_add 26 = .ok (.iload 4, 2) := by decide +kernel
theorem dX2_add_28 : decode cX2_add 28 = .ok (.iastore, 1) := by decide +kernel
theorem dX2_add_29 : decode cX2_add 29 = .ok (.aload_n 0, 1) := by decide +kernel
theorem dX2_add_30 : decode cX2_add 30 = .ok (.getfield 22, 3) := by decide +kernel
theorem dX2_add_33 : decode cX2_add 33 = .ok (.aload_n 0, 1) := by decide +kernel
theorem dX2_add_34 : decode cX2_add 34 = .ok (.getfield 9, 3) := by decide +kernel
theorem dX2_add_37 : decode cX2_add 37 = .ok (.iload_n 1, 1) := by decide +kernel
theorem dX2_add_38 : decode cX2_add 38 = .ok (.iastore, 1) := by decide +kernel
theorem dX2_add_39 : decode cX2_add 39 = .ok (.aload_n 0, 1) := by decide +kernel
theorem dX2_add_40 : decode cX2_add 40 = .ok (.getfield 25, 3) := by decide +kernel
theorem dX2_add_43 : decode cX2_add 43 = .ok (.aload_n 0, 1) := by decide +kernel
theorem dX2_add_44 : decode cX2_add 44 = .ok (.getfield 9, 3) := by decide +kernel
theorem dX2_add_47 : decode cX2_add 47 = .ok (.iload_n 2, 1) := by decide +kernel
theorem dX2_add_48 : decode cX2_add 48 = .ok (.iastore, 1) := by decide +kernel
theorem dX2_add_49 : decode cX2_add 49 = .ok (.aload_n 0, 1) := by decide +kernel
theorem dX2_add_50 : decode cX2_add 50 = .ok (.getfield 28, 3) := by decide +kernel
theorem dX2_add_53 : decode cX2_add 53 = .ok (.aload_n 0, 1) := by decide +kernel
theorem dX2_add_54 : decode cX2_add 54 = .ok (.getfield 9, 3) := by decide +kernel
theorem dX2_add_57 : decode cX2_add 57 = .ok (.iconst 0, 1) := by decide +kernel
theorem dX2_add_58 : decode cX2_add 58 = .ok (.iastore, 1) := by decide +kernel
theorem dX2_add_59 : decode cX2_add 59 = .ok (.aload_n 0, 1) := by decide +kernel
theorem dX2_add_60 : decode cX2_add 60 = .ok (.getfield 31, 3) := by decide +kernel
theorem dX2_add_63 : decode cX2_add 63 = .ok (.aload_n 0, 1) := by decide +kernel
theorem dX2_add_64 : decode cX2_add 64 = .ok (.getfield 9, 3) := by decide +kernel
theorem dX2_add_67 : decode cX2_add 67 = .ok (.iload 5, 2) := by decide +kernel
theorem dX2_add_69 : decode cX2_add 69 = .ok (.iastore, 1) := by decide +kernel
theorem dX2_add_70 : decode cX2_add 70 = .ok (.aload_n 0, 1) := by decide +kernel
theorem dX2_add_71 : decode cX2_add 71 = .ok (.getfield 34, 3) := by decide +kernel
theorem dX2_add_74 : decode cX2_add 74 = .ok (.aload_n 0, 1) := by decide +kernel
theorem dX2_add_75 : decode cX2_add 75 = .ok (.getfield 9, 3) := by decide +kernel
theorem dX2_add_78 : decode cX2_add 78 = .ok (.iconst 0, 1) := by decide +kernel
theorem dX2_add_79 : decode cX2_add 79 = .ok (.iastore, 1) := by decide +kernel
theorem dX2_add_80 : decode cX2_add 80 = .ok (.aload_n 0, 1) := by decide +kernel
theorem dX2_add_81 : decode cX2_add 81 = .ok (.getfield 37, 3) := by decide +kernel
theorem dX2_add_84 : decode cX2_add 84 = .ok (.aload_n 0, 1) := by decide +kernel
theorem dX2_add_85 : decode cX2_add 85 = .ok (.getfield 9, 3) := by decide +kernel
theorem dX2_add_88 : decode cX2_add 88 = .ok (.iconst 0, 1) := by decide +kernel
theorem dX2_add_89 : decode cX2_add 89 = .ok (.bastore, 1) := by decide +kernel
theorem dX2_add_90 : decode cX2_add 90 = .ok (.aload_n 0, 1) := by decide +kernel
theorem dX2_add_91 : decode cX2_add 91 = .ok (.dup, 1) := by decide +kernel
theorem dX2_add_92 : decode cX2_add 92 = .ok (.getfield 9, 3) := by decide +kernel
theorem dX2_add_95 : decode cX2_add 95 = .ok (.iconst 1, 1) := by decide +kernel
theorem dX2_add_96 : decode cX2_add 96 = .ok (.iadd, 1) := by decide +kernel
theorem dX2_add_97 : decode cX2_add 97 = .ok (.putfield 9, 3) := by decide +kernel
theorem dX2_add_100 : decode cX2_add 100 = .ok (.return_, 1) := by decide +kernel
theorem dX2_use_0 : decode cX2_use 0 = .ok (.aload_n 0, 1) := by decide +kernel
theorem dX2_use_1 : decode cX2_use 1 = .ok (.getfield 28, 3) := by decide +kernel
theorem dX2_use_4 : decode cX2_use 4 = .ok (.iload_n 1, 1) := by decide +kernel
theorem dX2_use_5 : decode cX2_use 5 = .ok (.dup2, 1) := by decide +kernel
theorem dX2_use_6 : decode cX2_use 6 = .ok (.iaload, 1) := by decide +kernel
theorem dX2_use_7 : decode cX2_use 7 = .ok (.iconst 1, 1) := by decide +kernel
theorem dX2_use_8 : decode cX2_use 8 = .ok (.iadd, 1) := by decide +kernel
theorem dX2_use_9 : decode cX2_use 9 = .ok (.iastore, 1) := by decide +kernel
theorem dX2_use_10 : decode cX2_use 10 = .ok (.aload_n 0, 1) := by decide +kernel
theorem dX2_use_11 : decode cX2_use 11 = .ok (.getfield 31, 3) := by decide +kernel
theorem dX2_use_14 : decode cX2_use 14 = .ok (.iload_n 1, 1) := by decide +kernel
theorem dX2_use_15 : decode cX2_use 15 = .ok (.iload_n 2, 1) := by decide +kernel
theorem dX2_use_16 : decode cX2_use 16 = .ok (.iastore, 1) := by decide +kernel
theorem dX2_use_17 : decode cX2_use 17 = .ok (.aload_n 0, 1) := by decide +kernel
theorem dX2_use_18 : decode cX2_use 18 = .ok (.getfield 34, 3) := by decide +kernel
theorem dX2_use_21 : decode cX2_use 21 = .ok (.iload_n 1, 1) := by decide +kernel
theorem dX2_use_22 : decode cX2_use 22 = .ok (.iaload, 1) := by decide +kernel
theorem dX2_use_23 : decode cX2_use 23 = .ok (.ifCond .ne 27, 3) := by decide +kernel
theorem dX2_use_26 : decode cX2_use 26 = .ok (.aload_n 0, 1) := by decide +kernel
theorem dX2_use_27 : decode cX2_use 27 = .ok (.getfield 28, 3) := by decide +kernel
theorem dX2_use_30 : decode cX2_use 30 = .ok (.iload_n 1, 1) := by decide +kernel
theorem dX2_use_31 : decode cX2_use 31 = .ok (.iaload, 1) := by decide +kernel
theorem dX2_use_32 : decode cX2_use 32 = .ok (.iload_n 3, 1) := by decide +kernel
theorem dX2_use_33 : decode cX2_use 33 = .ok (.if_icmp .lt 17, 3) := by decide +kernel
theorem dX2_use_36 : decode cX2_use 36 = .ok (.aload_n 0, 1) := by decide +kernel
theorem dX2_use_37 : decode cX2_use 37 = .ok (.getfield 34, 3) := by decide +kernel
theorem dX2_use_40 : decode cX2_use 40 = .ok (.iload_n 1, 1) := by decide +kernel
theorem dX2_use_41 : decode cX2_use 41 = .ok (.iconst 1, 1) := by decide +kernel
theorem dX2_use_42 : decode cX2_use 42 = .ok (.iastore, 1) := by decide +kernel
theorem dX2_use_43 : decode cX2_use 43 = .ok (.aload_n 0, 1) := by decide +kernel
theorem dX2_use_44 : decode cX2_use 44 = .ok (.getfield 37, 3) := by decide +kernel
theorem dX2_use_47 : decode cX2_use 47 = .ok (.iload_n 1, 1) := by decide +kernel
theorem dX2_use_48 : decode cX2_use 48 = .ok (.iconst 1, 1) := by decide +kernel
theorem dX2_use_49 : decode cX2_use 49 = .ok (.bastore, 1) := by decide +kernel
theorem dX2_use_50 : decode cX2_use 50 = .ok (.return_, 1) := by decide +kernel
theorem dX2_isAlive_0 : decode cX2_isAlive 0 = .ok (.aload_n 0, 1) := by decide +kernel
theorem dX2_isAlive_1 : decode cX2_isAlive 1 = .ok (.getfield 34, 3) := by decide +kernel
theorem dX2_isAlive_4 : decode cX2_isAlive 4 = .ok (.iload_n 1, 1) := by decide +kernel
theorem dX2_isAlive_5 : decode cX2_isAlive 5 = .ok (.iaload, 1) := by decide +kernel
theorem dX2_isAlive_6 : decode cX2_isAlive 6 = .ok (.iconst 1, 1) := by decide +kernel
theorem dX2_isAlive_7 : decode cX2_isAlive 7 = .ok (.if_icmp .gt 7, 3) := by decide +kernel
theorem dX2_isAlive_10 : decode cX2_isAlive 10 = .ok (.iconst 1, 1) := by decide +kernel
theorem dX2_isAlive_11 : decode cX2_isAlive 11 = .ok (.goto 4, 3) := by decide +kernel
theorem dX2_isAlive_14 : decode cX2_isAlive 14 = .ok (.iconst 0, 1) := by decide +kernel
theorem dX2_isAlive_15 : decode cX2_isAlive 15 = .ok (.ireturn, 1) := by decide +kernel
theorem dX2_isAliveAs_0 : decode cX2_isAliveAs 0 = .ok (.aload_n 0, 1) := by decide +kernel
theorem dX2_isAliveAs_1 : decode cX2_isAliveAs 1 = .ok (.getfield 34, 3) := by decide +kernel
theorem dX2_isAliveAs_4 : decode cX2_isAliveAs 4 = .ok (.iload_n 1, 1) := by decide +kernel
theorem dX2_isAliveAs_5 : decode cX2_isAliveAs 5 = .ok (.iaload, 1) := by decide +kernel
theorem dX2_isAliveAs_6 : decode cX2_isAliveAs 6 = .ok (.iconst 1, 1) := by decide +kernel
theorem dX2_isAliveAs_7 : decode cX2_isAliveAs 7 = .ok (.if_icmp .gt 27, 3) := by decide +kernel
theorem dX2_isAliveAs_10 : decode cX2_isAliveAs 10 = .ok (.aload_n 0, 1) := by decide +kernel
theorem dX2_isAliveAs_11 : decode cX2_isAliveAs 11 = .ok (.getfield 15, 3) := by decide +kernel
theorem dX2_isAliveAs_14 : decode cX2_isAliveAs 14 = .ok (.iload_n 1, 1) := by decide +kernel
theorem dX2_isAliveAs_15 : decode cX2_isAliveAs 15 = .ok (.iaload, 1) := by decide +kernel
theorem dX2_isAliveAs_16 : decode cX2_isAliveAs 16 = .ok (.iload_n 2, 1) := by decide +kernel
theorem dX2_isAliveAs_17 : decode cX2_isAliveAs 17 = .ok (.if_icmp .ne 17, 3) := by decide +kernel
theorem dX2_isAliveAs_20 : decode cX2_isAliveAs 20 = .ok (.aload_n 0, 1) := by decide +kernel
theorem dX2_isAliveAs_21 : decode cX2_isAliveAs 21 = .ok (.getfield 19, 3) := by decide +kernel
theorem dX2_isAliveAs_24 : decode cX2_isAliveAs 24 = .ok (.iload_n 1, 1) := by decide +kernel
theorem dX2_isAliveAs_25 : decode cX2_isAliveAs 25 = .ok (.iaload, 1) := by decide +kernel
theorem dX2_isAliveAs_26 : decode cX2_isAliveAs 26 = .ok (.iload_n 3, 1) := by decide +kernel
theorem dX2_isAliveAs_27 : decode cX2_isAliveAs 27 = .ok (.if_icmp .ne 7, 3) := by decide +kernel
theorem dX2_isAliveAs_30 : decode cX2_isAliveAs 30 = .ok (.iconst 1, 1) := by decide +kernel
theorem dX2_isAliveAs_31 : decode cX2_isAliveAs 31 = .ok (.goto 4, 3) := by decide +kernel
theorem dX2_isAliveAs_34 : decode cX2_isAliveAs 34 = .ok (.iconst 0, 1) := by decide +kernel
theorem dX2_isAliveAs_35 : decode cX2_isAliveAs 35 = .ok (.ireturn, 1) := by decide +kernel
theorem dX2_aliveNameOf_0 : decode cX2_aliveNameOf 0 = .ok (.iconst 0, 1) := by decide +kernel
theorem dX2_aliveNameOf_1 : decode cX2_aliveNameOf 1 = .ok (.istore 4, 2) := by decide +kernel
theorem dX2_aliveNameOf_3 : decode cX2_aliveNameOf 3 = .ok (.iload 4, 2) := by decide +kernel
theorem dX2_aliveNameOf_5 : decode cX2_aliveNameOf 5 = .ok (.aload_n 0, 1) := by decide +kernel
theorem dX2_aliveNameOf_6 : decode cX2_aliveNameOf 6 = .ok (.getfield 9, 3) := by decide +kernel
theorem dX2_aliveNameOf_9 : decode cX2_aliveNameOf 9 = .ok (.if_icmp .ge 34, 3) := by decide +kernel
theorem dX2_aliveNameOf_12 : decode cX2_aliveNameOf 12 = .ok (.aload_n 0, 1) := by decide +kernel
theorem dX2_aliveNameOf_13 : decode cX2_aliveNameOf 13 = .ok (.getfield 25, 3) := by decide +kernel
theorem dX2_aliveNameOf_16 : decode cX2_aliveNameOf 16 = .ok (.iload 4, 2) := by decide +kernel
theorem dX2_aliveNameOf_18 : decode cX2_aliveNameOf 18 = .ok (.iaload, 1) := by decide +kernel
theorem dX2_aliveNameOf_19 : decode cX2_aliveNameOf 19 = .ok (.iload_n 1, 1) := by decide +kernel
theorem dX2_aliveNameOf_20 : decode cX2_aliveNameOf 20 = .ok (.if_icmp .ne 17, 3) := by decide +kernel
theorem dX2_aliveNameOf_23 : decode cX2_aliveNameOf 23 = .ok (.aload_n 0, 1) := by decide +kernel
theorem dX2_aliveNameOf_24 : decode cX2_aliveNameOf 24 = .ok (.iload 4, 2) := by decide +kernel
theorem dX2_aliveNameOf_26 : decode cX2_aliveNameOf 26 = .ok (.iload_n 2, 1) := by decide +kernel
theorem dX2_aliveNameOf_27 : decode cX2_aliveNameOf 27 = .ok (.iload_n 3, 1) := by decide +kernel
theorem dX2_aliveNameOf_28 : decode cX2_aliveNameOf 28 = .ok (.invokevirtual 51, 3) := by decide +kernel
theorem dX2_aliveNameOf_31 : decode cX2_aliveNameOf 31 = .ok (.ifCond .eq 6, 3) := by decide +kernel
theorem dX2_aliveNameOf_34 : decode cX2_aliveNameOf 34 = .ok (.iload 4, 2) := by decide +kernel
theorem dX2_aliveNameOf_36 : decode cX2_aliveNameOf 36 = .ok (.ireturn, 1) := by decide +kernel
theorem dX2_aliveNameOf_37 : decode cX2_aliveNameOf 37 = .ok (.iinc 4 1, 3) := by decide +kernel
theorem dX2_aliveNameOf_40 : decode cX2_aliveNameOf 40 = .ok (.goto (-37), 3) := by decide +kernel
theorem dX2_aliveNameOf_43 : decode cX2_aliveNameOf 43 = .ok (.iconst (-1), 1) := by decide +kernel
theorem dX2_aliveNameOf_44 : decode cX2_aliveNameOf 44 = .ok (.ireturn, 1) := by decide +kernel
theorem dX2_alive_0 : decode cX2_alive 0 = .ok (.aload_n 0, 1) := by decide +kernel
theorem dX2_alive_1 : decode cX2_alive 1 = .ok (.iconst 0, 1) := by decide +kernel
theorem dX2_alive_2 : decode cX2_alive 2 = .ok (.invokevirtual 55, 3) := by decide +kernel
theorem dX2_alive_5 : decode cX2_alive 5 = .ok (.aload_n 0, 1) := by decide +kernel
theorem dX2_alive_6 : decode cX2_alive 6 = .ok (.iconst 1, 1) := by decide +kernel
theorem dX2_alive_7 : decode cX2_alive 7 = .ok (.invokevirtual 55, 3) := by decide +kernel
theorem dX2_alive_10 : decode cX2_alive 10 = .ok (.iadd, 1) := by decide +kernel
theorem dX2_alive_11 : decode cX2_alive 11 = .ok (.ireturn, 1) := by decide +kernel
theorem dX2_inState_0 : decode cX2_inState 0 = .ok (.iconst 0, 1) := by decide +kernel
theorem dX2_inState_1 : decode cX2_inState 1 = .ok (.istore_n 2, 1) := by decide +kernel
theorem dX2_inState_2 : decode cX2_inState 2 = .ok (.iconst 0, 1) := by decide +kernel
theorem dX2_inState_3 : decode cX2_inState 3 = .ok (.istore_n 3, 1) := by decide +kernel
theorem dX2_inState_4 : decode cX2_inState 4 = .ok (.iload_n 3, 1) := by decide +kernel
theorem dX2_inState_5 : decode cX2_inState 5 = .ok (.aload_n 0, 1) := by decide +kernel
theorem dX2_inState_6 : decode cX2_inState 6 = .ok (.getfield 9, 3) := by decide +kernel
theorem dX2_inState_9 : decode cX2_inState 9 = .ok (.if_icmp .ge 22, 3) := by decide +kernel
theorem dX2_inState_12 : decode cX2_inState 12 = .ok (.aload_n 0, 1) := by decide +kernel
theorem dX2_inState_13 : decode cX2_inState 13 = .ok (.getfield 34, 3) := by decide +kernel
theorem dX2_inState_16 : decode cX2_inState 16 = .ok (.iload_n 3, 1) := by decide +kernel
theorem dX2_inState_17 : decode cX2_inState 17 = .ok (.iaload, 1) := by decide +kernel
theorem dX2_inState_18 : decode cX2_inState 18 = .ok (.iload_n 1, 1) := by decide +kernel
theorem dX2_inState_19 : decode cX2_inState 19 = .ok (.if_icmp .ne 6, 3) := by decide +kernel
theorem dX2_inState_22 : decode cX2_inState 22 = .ok (.iinc 2 1, 3) := by decide +kernel
theorem dX2_inState_25 : decode cX2_inState 25 = .ok (.iinc 3 1, 3) := by decide +kernel
theorem dX2_inState_28 : decode cX2_inState 28 = .ok (.goto (-24), 3) := by decide +kernel
theorem dX2_inState_31 : decode cX2_inState 31 = .ok (.iload_n 2, 1) := by decide +kernel
theorem dX2_inState_32 : decode cX2_inState 32 = .ok (.ireturn, 1) := by decide +kernel
theorem dX2_aliveOf_0 : decode cX2_aliveOf 0 = .ok (.iconst 0, 1) := by decide +kernel
theorem dX2_aliveOf_1 : decode cX2_aliveOf 1 = .ok (.istore_n 2, 1) := by decide +kernel
theorem dX2_aliveOf_2 : decode cX2_aliveOf 2 = .ok (.iconst 0, 1) := by decide +kernel
theorem dX2_aliveOf_3 : decode cX2_aliveOf 3 = .ok (.istore_n 3, 1) := by decide +kernel
theorem dX2_aliveOf_4 : decode cX2_aliveOf 4 = .ok (.iload_n 3, 1) := by decide +kernel
theorem dX2_aliveOf_5 : decode cX2_aliveOf 5 = .ok (.aload_n 0, 1) := by decide +kernel
theorem dX2_aliveOf_6 : decode cX2_aliveOf 6 = .ok (.getfield 9, 3) := by decide +kernel
theorem dX2_aliveOf_9 : decode cX2_aliveOf 9 = .ok (.if_icmp .ge 32, 3) := by decide +kernel
theorem dX2_aliveOf_12 : decode cX2_aliveOf 12 = .ok (.aload_n 0, 1) := by decide +kernel
theorem dX2_aliveOf_13 : decode cX2_aliveOf 13 = .ok (.getfield 25, 3) := by decide +kernel
theorem dX2_aliveOf_16 : decode cX2_aliveOf 16 = .ok (.iload_n 3, 1) := by decide +kernel
theorem dX2_aliveOf_17 : decode cX2_aliveOf 17 = .ok (.iaload, 1) := by decide +kernel
theorem dX2_aliveOf_18 : decode cX2_aliveOf 18 = .ok (.iload_n 1, 1) := by decide +kernel
theorem dX2_aliveOf_19 : decode cX2_aliveOf 19 = .ok (.if_icmp .ne 16, 3) := by decide +kernel
theorem dX2_aliveOf_22 : decode cX2_aliveOf 22 = .ok (.aload_n 0, 1) := by decide +kernel
theorem dX2_aliveOf_23 : decode cX2_aliveOf 23 = .ok (.getfield 34, 3) := by decide +kernel
theorem dX2_aliveOf_26 : decode cX2_aliveOf 26 = .ok (.iload_n 3, 1) := by decide +kernel
theorem dX2_aliveOf_27 : decode cX2_aliveOf 27 = .ok (.iaload, 1) := by decide +kernel
theorem dX2_aliveOf_28 : decode cX2_aliveOf 28 = .ok (.iconst 1, 1) := by decide +kernel
theorem dX2_aliveOf_29 : decode cX2_aliveOf 29 = .ok (.if_icmp .gt 6, 3) := by decide +kernel
theorem dX2_aliveOf_32 : decode cX2_aliveOf 32 = .ok (.iinc 2 1, 3) := by decide +kernel
theorem dX2_aliveOf_35 : decode cX2_aliveOf 35 = .ok (.iinc 3 1, 3) := by decide +kernel
theorem dX2_aliveOf_38 : decode cX2_aliveOf 38 = .ok (.goto (-34), 3) := by decide +kernel
theorem dX2_aliveOf_41 : decode cX2_aliveOf 41 = .ok (.iload_n 2, 1) := by decide +kernel
theorem dX2_aliveOf_42 : decode cX2_aliveOf 42 = .ok (.ireturn, 1) := by decide +kernel
theorem dX2_usesTogether_0 : decode cX2_usesTogether 0 = .ok (.iconst 0, 1) := by decide +kernel
theorem dX2_usesTogether_1 : decode cX2_usesTogether 1 = .ok (.istore_n 1, 1) := by decide +kernel
theorem dX2_usesTogether_2 : decode cX2_usesTogether 2 = .ok (.iconst 0, 1) := by decide +kernel
theorem dX2_usesTogether_3 : decode cX2_usesTogether 3 = .ok (.istore_n 2, 1) := by decide +kernel
theorem dX2_usesTogether_4 : decode cX2_usesTogether 4 = .ok (.iload_n 2, 1) := by decide +kernel
theorem dX2_usesTogether_5 : decode cX2_usesTogether 5 = .ok (.aload_n 0, 1) := by decide +kernel
theorem dX2_usesTogether_6 : decode cX2_usesTogether 6 = .ok (.getfield 9, 3) := by decide +kernel
theorem dX2_usesTogether_9 : decode cX2_usesTogether 9 = .ok (.if_icmp .ge 18, 3) := by decide +kernel
theorem dX2_usesTogether_12 : decode cX2_usesTogether 12 = .ok (.iload_n 1, 1) := by decide +kernel
theorem dX2_usesTogether_13 : decode cX2_usesTogether 13 = .ok (.aload_n 0, 1) := by decide +kernel
theorem dX2_usesTogether_14 : decode cX2_usesTogether 14 = .ok (.getfield 28, 3) := by decide +kernel
theorem dX2_usesTogether_17 : decode cX2_usesTogether 17 = .ok (.iload_n 2, 1) := by decide +kernel
theorem dX2_usesTogether_18 : decode cX2_usesTogether 18 = .ok (.iaload, 1) := by decide +kernel
theorem dX2_usesTogether_19 : decode cX2_usesTogether 19 = .ok (.iadd, 1) := by decide +kernel
theorem dX2_usesTogether_20 : decode cX2_usesTogether 20 = .ok (.istore_n 1, 1) := by decide +kernel
theorem dX2_usesTogether_21 : decode cX2_usesTogether 21 = .ok (.iinc 2 1, 3) := by decide +kernel
theorem dX2_usesTogether_24 : decode cX2_usesTogether 24 = .ok (.goto (-20), 3) := by decide +kernel
theorem dX2_usesTogether_27 : decode cX2_usesTogether 27 = .ok (.iload_n 1, 1) := by decide +kernel
theorem dX2_usesTogether_28 : decode cX2_usesTogether 28 = .ok (.ireturn, 1) := by decide +kernel
theorem dX2_givenBy_0 : decode cX2_givenBy 0 = .ok (.iconst 0, 1) := by decide +kernel
theorem dX2_givenBy_1 : decode cX2_givenBy 1 = .ok (.istore_n 2, 1) := by decide +kernel
theorem dX2_givenBy_2 : decode cX2_givenBy 2 = .ok (.iconst 0, 1) := by decide +kernel
theorem dX2_givenBy_3 : decode cX2_givenBy 3 = .ok (.istore_n 3, 1) := by decide +kernel
theorem dX2_givenBy_4 : decode cX2_givenBy 4 = .ok (.iload_n 3, 1) := by decide +kernel
theorem dX2_givenBy_5 : decode cX2_givenBy 5 = .ok (.aload_n 0, 1) := by decide +kernel
theorem dX2_givenBy_6 : decode cX2_givenBy 6 = .ok (.getfield 9, 3) := by decide +kernel
theorem dX2_givenBy_9 : decode cX2_givenBy 9 = .ok (.if_icmp .ge 22, 3) := by decide +kernel
theorem dX2_givenBy_12 : decode cX2_givenBy 12 = .ok (.aload_n 0, 1) := by decide +kernel
theorem dX2_givenBy_13 : decode cX2_givenBy 13 = .ok (.getfield 22, 3) := by decide +kernel
theorem dX2_givenBy_16 : decode cX2_givenBy 16 = .ok (.iload_n 3, 1) := by decide +kernel
theorem dX2_givenBy_17 : decode cX2_givenBy 17 = .ok (.iaload, 1) := by decide +kernel
theorem dX2_givenBy_18 : decode cX2_givenBy 18 = .ok (.iload_n 1, 1) := by decide +kernel
theorem dX2_givenBy_19 : decode cX2_givenBy 19 = .ok (.if_icmp .ne 6, 3) := by decide +kernel
theorem dX2_givenBy_22 : decode cX2_givenBy 22 = .ok (.iinc 2 1, 3) := by decide +kernel
theorem dX2_givenBy_25 : decode cX2_givenBy 25 = .ok (.iinc 3 1, 3) := by decide +kernel
theorem dX2_givenBy_28 : decode cX2_givenBy 28 = .ok (.goto (-24), 3) := by decide +kernel
theorem dX2_givenBy_31 : decode cX2_givenBy 31 = .ok (.iload_n 2, 1) := by decide +kernel
theorem dX2_givenBy_32 : decode cX2_givenBy 32 = .ok (.ireturn, 1) := by decide +kernel
theorem dX2_stuckGivenBy_0 : decode cX2_stuckGivenBy 0 = .ok (.iconst 0, 1) := by decide +kernel
theorem dX2_stuckGivenBy_1 : decode cX2_stuckGivenBy 1 = .ok (.istore_n 2, 1) := by decide +kernel
theorem dX2_stuckGivenBy_2 : decode cX2_stuckGivenBy 2 = .ok (.iconst 0, 1) := by decide +kernel
theorem dX2_stuckGivenBy_3 : decode cX2_stuckGivenBy 3 = .ok (.istore_n 3, 1) := by decide +kernel
theorem dX2_stuckGivenBy_4 : decode cX2_stuckGivenBy 4 = .ok (.iload_n 3, 1) := by decide +kernel
theorem dX2_stuckGivenBy_5 : decode cX2_stuckGivenBy 5 = .ok (.aload_n 0, 1) := by decide +kernel
theorem dX2_stuckGivenBy_6 : decode cX2_stuckGivenBy 6 = .ok (.getfield 9, 3) := by decide +kernel
theorem dX2_stuckGivenBy_9 : decode cX2_stuckGivenBy 9 = .ok (.if_icmp .ge 31, 3) := by decide +kernel
theorem dX2_stuckGivenBy_12 : decode cX2_stuckGivenBy 12 = .ok (.aload_n 0, 1) := by decide +kernel
theorem dX2_stuckGivenBy_13 : decode cX2_stuckGivenBy 13 = .ok (.getfield 22, 3) := by decide +kernel
theorem dX2_stuckGivenBy_16 : decode cX2_stuckGivenBy 16 = .ok (.iload_n 3, 1) := by decide +kernel
theorem dX2_stuckGivenBy_17 : decode cX2_stuckGivenBy 17 = .ok (.iaload, 1) := by decide +kernel
theorem dX2_stuckGivenBy_18 : decode cX2_stuckGivenBy 18 = .ok (.iload_n 1, 1) := by decide +kernel
theorem dX2_stuckGivenBy_19 : decode cX2_stuckGivenBy 19 = .ok (.if_icmp .ne 15, 3) := by decide +kernel
theorem dX2_stuckGivenBy_22 : decode cX2_stuckGivenBy 22 = .ok (.aload_n 0, 1) := by decide +kernel
theorem dX2_stuckGivenBy_23 : decode cX2_stuckGivenBy 23 = .ok (.getfield 37, 3) := by decide +kernel
theorem dX2_stuckGivenBy_26 : decode cX2_stuckGivenBy 26 = .ok (.iload_n 3, 1) := by decide +kernel
theorem dX2_stuckGivenBy_27 : decode cX2_stuckGivenBy 27 = .ok (.baload, 1) := by decide +kernel
theorem dX2_stuckGivenBy_28 : decode cX2_stuckGivenBy 28 = .ok (.ifCond .eq 6, 3) := by decide +kernel
theorem dX2_stuckGivenBy_31 : decode cX2_stuckGivenBy 31 = .ok (.iinc 2 1, 3) := by decide +kernel
theorem dX2_stuckGivenBy_34 : decode cX2_stuckGivenBy 34 = .ok (.iinc 3 1, 3) := by decide +kernel
theorem dX2_stuckGivenBy_37 : decode cX2_stuckGivenBy 37 = .ok (.goto (-33), 3) := by decide +kernel
theorem dX2_stuckGivenBy_40 : decode cX2_stuckGivenBy 40 = .ok (.iload_n 2, 1) := by decide +kernel
theorem dX2_stuckGivenBy_41 : decode cX2_stuckGivenBy 41 = .ok (.ireturn, 1) := by decide +kernel
theorem dX2_sticksBetter_0 : decode cX2_sticksBetter 0 = .ok (.aload_n 0, 1) := by decide +kernel
theorem dX2_sticksBetter_1 : decode cX2_sticksBetter 1 = .ok (.iload_n 1, 1) := by decide +kernel
theorem dX2_sticksBetter_2 : decode cX2_sticksBetter 2 = .ok (.invokevirtual 59, 3) := by decide +kernel
theorem dX2_sticksBetter_5 : decode cX2_sticksBetter 5 = .ok (.aload_n 0, 1) := by decide +kernel
theorem dX2_sticksBetter_6 : decode cX2_sticksBetter 6 = .ok (.iload_n 2, 1) := by decide +kernel
theorem dX2_sticksBetter_7 : decode cX2_sticksBetter 7 = .ok (.invokevirtual 62, 3) := by decide +kernel
theorem dX2_sticksBetter_10 : decode cX2_sticksBetter 10 = .ok (.imul, 1) := by decide +kernel
theorem dX2_sticksBetter_11 : decode cX2_sticksBetter 11 = .ok (.istore_n 3, 1) := by decide +kernel
theorem dX2_sticksBetter_12 : decode cX2_sticksBetter 12 = .ok (.aload_n 0, 1) := by decide +kernel
theorem dX2_sticksBetter_13 : decode cX2_sticksBetter 13 = .ok (.iload_n 2, 1) := by decide +kernel
theorem dX2_sticksBetter_14 : decode cX2_sticksBetter 14 = .ok (.invokevirtual 59, 3) := by decide +kernel
theorem dX2_sticksBetter_17 : decode cX2_sticksBetter 17 = .ok (.aload_n 0, 1) := by decide +kernel
theorem dX2_sticksBetter_18 : decode cX2_sticksBetter 18 = .ok (.iload_n 1, 1) := by decide +kernel
theorem dX2_sticksBetter_19 : decode cX2_sticksBetter 19 = .ok (.invokevirtual 62, 3) := by decide +kernel
theorem dX2_sticksBetter_22 : decode cX2_sticksBetter 22 = .ok (.imul, 1) := by decide +kernel
theorem dX2_sticksBetter_23 : decode cX2_sticksBetter 23 = .ok (.istore 4, 2) := by decide +kernel
theorem dX2_sticksBetter_25 : decode cX2_sticksBetter 25 = .ok (.iload_n 3, 1) := by decide +kernel
theorem dX2_sticksBetter_26 : decode cX2_sticksBetter 26 = .ok (.iload 4, 2) := by decide +kernel
theorem dX2_sticksBetter_28 : decode cX2_sticksBetter 28 = .ok (.if_icmp .gt 22, 3) := by decide +kernel
theorem dX2_sticksBetter_31 : decode cX2_sticksBetter 31 = .ok (.iload_n 3, 1) := by decide +kernel
theorem dX2_sticksBetter_32 : decode cX2_sticksBetter 32 = .ok (.iload 4, 2) := by decide +kernel
theorem dX2_sticksBetter_34 : decode cX2_sticksBetter 34 = .ok (.if_icmp .ne 20, 3) := by decide +kernel
theorem dX2_sticksBetter_37 : decode cX2_sticksBetter 37 = .ok (.aload_n 0, 1) := by decide +kernel
theorem dX2_sticksBetter_38 : decode cX2_sticksBetter 38 = .ok (.iload_n 1, 1) := by decide +kernel
theorem dX2_sticksBetter_39 : decode cX2_sticksBetter 39 = .ok (.invokevirtual 62, 3) := by decide +kernel
theorem dX2_sticksBetter_42 : decode cX2_sticksBetter 42 = .ok (.aload_n 0, 1) := by decide +kernel
theorem dX2_sticksBetter_43 : decode cX2_sticksBetter 43 = .ok (.iload_n 2, 1) := by decide +kernel
theorem dX2_sticksBetter_44 : decode cX2_sticksBetter 44 = .ok (.invokevirtual 62, 3) := by decide +kernel
theorem dX2_sticksBetter_47 : decode cX2_sticksBetter 47 = .ok (.if_icmp .le 7, 3) := by decide +kernel
theorem dX2_sticksBetter_50 : decode cX2_sticksBetter 50 = .ok (.iconst 1, 1) := by decide +kernel
theorem dX2_sticksBetter_51 : decode cX2_sticksBetter 51 = .ok (.goto 4, 3) := by decide +kernel
theorem dX2_sticksBetter_54 : decode cX2_sticksBetter 54 = .ok (.iconst 0, 1) := by decide +kernel
theorem dX2_sticksBetter_55 : decode cX2_sticksBetter 55 = .ok (.ireturn, 1) := by decide +kernel
theorem dX2_ranked_0 : decode cX2_ranked 0 = .ok (.iconst 0, 1) := by decide +kernel
theorem dX2_ranked_1 : decode cX2_ranked 1 = .ok (.istore_n 2, 1) := by decide +kernel
theorem dX2_ranked_2 : decode cX2_ranked 2 = .ok (.iload_n 2, 1) := by decide +kernel
theorem dX2_ranked_3 : decode cX2_ranked 3 = .ok (.aload_n 0, 1) := by decide +kernel
theorem dX2_ranked_4 : decode cX2_ranked 4 = .ok (.getfield 9, 3) := by decide +kernel
theorem dX2_ranked_7 : decode cX2_ranked 7 = .ok (.if_icmp .ge 28, 3) := by decide +kernel
theorem dX2_ranked_10 : decode cX2_ranked 10 = .ok (.aload_n 0, 1) := by decide +kernel
theorem dX2_ranked_11 : decode cX2_ranked 11 = .ok (.iload_n 2, 1) := by decide +kernel
theorem dX2_ranked_12 : decode cX2_ranked 12 = .ok (.invokevirtual 65, 3) := by decide +kernel
theorem dX2_ranked_15 : decode cX2_ranked 15 = .ok (.ifCond .eq 14, 3) := by decide +kernel
theorem dX2_ranked_18 : decode cX2_ranked 18 = .ok (.aload_n 0, 1) := by decide +kernel
theorem dX2_ranked_19 : decode cX2_ranked 19 = .ok (.iload_n 2, 1) := by decide +kernel
theorem dX2_ranked_20 : decode cX2_ranked 20 = .ok (.invokevirtual 69, 3) := by decide +kernel
theorem dX2_ranked_23 : decode cX2_ranked 23 = .ok (.iload_n 1, 1) := by decide +kernel
theorem dX2_ranked_24 : decode cX2_ranked 24 = .ok (.if_icmp .ne 5, 3) := by decide +kernel
theorem dX2_ranked_27 : decode cX2_ranked 27 = .ok (.iload_n 2, 1) := by decide +kernel
theorem dX2_ranked_28 : decode cX2_ranked 28 = .ok (.ireturn, 1) := by decide +kernel
theorem dX2_ranked_29 : decode cX2_ranked 29 = .ok (.iinc 2 1, 3) := by decide +kernel
theorem dX2_ranked_32 : decode cX2_ranked 32 = .ok (.goto (-30), 3) := by decide +kernel
theorem dX2_ranked_35 : decode cX2_ranked 35 = .ok (.iconst (-1), 1) := by decide +kernel
theorem dX2_ranked_36 : decode cX2_ranked 36 = .ok (.ireturn, 1) := by decide +kernel
theorem dX2_aliveAheadOf_0 : decode cX2_aliveAheadOf 0 = .ok (.aload_n 0, 1) := by decide +kernel
theorem dX2_aliveAheadOf_1 : decode cX2_aliveAheadOf 1 = .ok (.getfield 15, 3) := by decide +kernel
theorem dX2_aliveAheadOf_4 : decode cX2_aliveAheadOf 4 = .ok (.iload_n 1, 1) := by decide +kernel
theorem dX2_aliveAheadOf_5 : decode cX2_aliveAheadOf 5 = .ok (.iaload, 1) := by decide +kernel
theorem dX2_aliveAheadOf_6 : decode cX2_aliveAheadOf 6 = .ok (.aload_n 0, 1) := by decide +kernel
theorem dX2_aliveAheadOf_7 : decode cX2_aliveAheadOf 7 = .ok (.getfield 19, 3) := by decide +kernel
theorem dX2_aliveAheadOf_10 : decode cX2_aliveAheadOf 10 = .ok (.iload_n 1, 1) := by decide +kernel
theorem dX2_aliveAheadOf_11 : decode cX2_aliveAheadOf 11 = .ok (.iaload, 1) := by decide +kernel
theorem dX2_aliveAheadOf_12 : decode cX2_aliveAheadOf 12 = .ok (.invokestatic 72, 3) := by decide +kernel
theorem dX2_aliveAheadOf_15 : decode cX2_aliveAheadOf 15 = .ok (.istore_n 2, 1) := by decide +kernel
theorem dX2_aliveAheadOf_16 : decode cX2_aliveAheadOf 16 = .ok (.iconst 0, 1) := by decide +kernel
theorem dX2_aliveAheadOf_17 : decode cX2_aliveAheadOf 17 = .ok (.istore_n 3, 1) := by decide +kernel
theorem dX2_aliveAheadOf_18 : decode cX2_aliveAheadOf 18 = .ok (.iconst 0, 1) := by decide +kernel
theorem dX2_aliveAheadOf_19 : decode cX2_aliveAheadOf 19 = .ok (.istore 4, 2) := by decide +kernel
theorem dX2_aliveAheadOf_21 : decode cX2_aliveAheadOf 21 = .ok (.iload 4, 2) := by decide +kernel
theorem dX2_aliveAheadOf_23 : decode cX2_aliveAheadOf 23 = .ok (.aload_n 0, 1) := by decide +kernel
theorem dX2_aliveAheadOf_24 : decode cX2_aliveAheadOf 24 = .ok (.getfield 9, 3) := by decide +kernel
theorem dX2_aliveAheadOf_27 : decode cX2_aliveAheadOf 27 = .ok (.if_icmp .ge 58, 3) := by decide +kernel
theorem dX2_aliveAheadOf_30 : decode cX2_aliveAheadOf 30 = .ok (.aload_n 0, 1) := by decide +kernel
theorem dX2_aliveAheadOf_31 : decode cX2_aliveAheadOf 31 = .ok (.iload 4, 2) := by decide +kernel
theorem dX2_aliveAheadOf_33 : decode cX2_aliveAheadOf 33 = .ok (.invokevirtual 65, 3) := by decide +kernel
theorem dX2_aliveAheadOf_36 : decode cX2_aliveAheadOf 36 = .ok (.ifCond .eq 43, 3) := by decide +kernel
theorem dX2_aliveAheadOf_39 : decode cX2_aliveAheadOf 39 = .ok (.aload_n 0, 1) := by decide +kernel
theorem dX2_aliveAheadOf_40 : decode cX2_aliveAheadOf 40 = .ok (.getfield 15, 3) := by decide +kernel
theorem dX2_aliveAheadOf_43 : decode cX2_aliveAheadOf 43 = .ok (.iload 4, 2) := by decide +kernel
theorem dX2_aliveAheadOf_45 : decode cX2_aliveAheadOf 45 = .ok (.iaload, 1) := by decide +kernel
theorem dX2_aliveAheadOf_46 : decode cX2_aliveAheadOf 46 = .ok (.aload_n 0, 1) := by decide +kernel
theorem dX2_aliveAheadOf_47 : decode cX2_aliveAheadOf 47 = .ok (.getfield 19, 3) := by decide +kernel
theorem dX2_aliveAheadOf_50 : decode cX2_aliveAheadOf 50 = .ok (.iload 4, 2) := by decide +kernel
theorem dX2_aliveAheadOf_52 : decode cX2_aliveAheadOf 52 = .ok (.iaload, 1) := by decide +kernel
theorem dX2_aliveAheadOf_53 : decode cX2_aliveAheadOf 53 = .ok (.invokestatic 72, 3) := by decide +kernel
theorem dX2_aliveAheadOf_56 : decode cX2_aliveAheadOf 56 = .ok (.istore 5, 2) := by decide +kernel
theorem dX2_aliveAheadOf_58 : decode cX2_aliveAheadOf 58 = .ok (.iload 5, 2) := by decide +kernel
theorem dX2_aliveAheadOf_60 : decode cX2_aliveAheadOf 60 = .ok (.iload_n 2, 1) := by decide +kernel
theorem dX2_aliveAheadOf_61 : decode cX2_aliveAheadOf 61 = .ok (.if_icmp .lt 15, 3) := by decide +kernel
theorem dX2_aliveAheadOf_64 : decode cX2_aliveAheadOf 64 = .ok (.iload 5, 2) := by decide +kernel
theorem dX2_aliveAheadOf_66 : decode cX2_aliveAheadOf 66 = .ok (.iload_n 2, 1) := by decide +kernel
theorem dX2_aliveAheadOf_67 : decode cX2_aliveAheadOf 67 = .ok (.if_icmp .ne 12, 3) := by decide +kernel
theorem dX2_aliveAheadOf_70 : decode cX2_aliveAheadOf 70 = .ok (.iload 4, 2) := by decide +kernel
theorem dX2_aliveAheadOf_72 : decode cX2_aliveAheadOf 72 = .ok (.iload_n 1, 1) := by decide +kernel
theorem dX2_aliveAheadOf_73 : decode cX2_aliveAheadOf 73 = .ok (.if_icmp .ge 6, 3) := by decide +kernel
theorem dX2_aliveAheadOf_76 : decode cX2_aliveAheadOf 76 = .ok (.iinc 3 1, 3) := by decide +kernel
theorem dX2_aliveAheadOf_79 : decode cX2_aliveAheadOf 79 = .ok (.iinc 4 1, 3) := by decide +kernel
theorem dX2_aliveAheadOf_82 : decode cX2_aliveAheadOf 82 = .ok (.goto (-61), 3) := by decide +kernel
theorem dX2_aliveAheadOf_85 : decode cX2_aliveAheadOf 85 = .ok (.iload_n 3, 1) := by decide +kernel
theorem dX2_aliveAheadOf_86 : decode cX2_aliveAheadOf 86 = .ok (.ireturn, 1) := by decide +kernel
theorem dX3_init_0 : decode cX3_init 0 = .ok (.aload_n 0, 1) := by decide +kernel
theorem dX3_init_1 : decode cX3_init 1 = .ok (.invokespecial 3, 3) := by decide +kernel
theorem dX3_init_4 : decode cX3_init 4 = .ok (.aload_n 0, 1) := by decide +kernel
theorem dX3_init_5 : decode cX3_init 5 = .ok (.bipush 14, 2) := by decide +kernel
theorem dX3_init_7 : decode cX3_init 7 = .ok (.anewarray 9, 3) := by decide +kernel
theorem dX3_init_10 : decode cX3_init 10 = .ok (.putfield 11, 3) := by decide +kernel
theorem dX3_init_13 : decode cX3_init 13 = .ok (.aload_n 0, 1) := by decide +kernel
theorem dX3_init_14 : decode cX3_init 14 = .ok (.iconst 0, 1) := by decide +kernel
theorem dX3_init_15 : decode cX3_init 15 = .ok (.putfield 17, 3) := by decide +kernel
theorem dX3_init_18 : decode cX3_init 18 = .ok (.aload_n 0, 1) := by decide +kernel
theorem dX3_init_19 : decode cX3_init 19 = .ok (.iconst 0, 1) := by decide +kernel
theorem dX3_init_20 : decode cX3_init 20 = .ok (.putfield 21, 3) := by decide +kernel
theorem dX3_init_23 : decode cX3_init 23 = .ok (.iconst 0, 1) := by decide +kernel
theorem dX3_init_24 : decode cX3_init 24 = .ok (.istore_n 1, 1) := by decide +kernel
theorem dX3_init_25 : decode cX3_init 25 = .ok (.iload_n 1, 1) := by decide +kernel
theorem dX3_init_26 : decode cX3_init 26 = .ok (.bipush 14, 2) := by decide +kernel
theorem dX3_init_28 : decode cX3_init 28 = .ok (.if_icmp .ge 22, 3) := by decide +kernel
theorem dX3_init_31 : decode cX3_init 31 = .ok (.aload_n 0, 1) := by decide +kernel
theorem dX3_init_32 : decode cX3_init 32 = .ok (.getfield 11, 3) := by decide +kernel
theorem dX3_init_35 : decode cX3_init 35 = .ok (.iload_n 1, 1) := by decide +kernel
theorem dX3_init_36 : decode cX3_init 36 = .ok (.new 9, 3) := by decide +kernel
theorem dX3_init_39 : decode cX3_init 39 = .ok (.dup, 1) := by decide +kernel
theorem dX3_init_40 : decode cX3_init 40 = .ok (.invokespecial 24, 3) := by decide +kernel
theorem dX3_init_43 : decode cX3_init 43 = .ok (.aastore, 1) := by decide +kernel
theorem dX3_init_44 : decode cX3_init 44 = .ok (.iinc 1 1, 3) := by decide +kernel
theorem dX3_init_47 : decode cX3_init 47 = .ok (.goto (-22), 3) := by decide +kernel
theorem dX3_init_50 : decode cX3_init 50 = .ok (.return_, 1) := by decide +kernel
theorem dX3_forgetAll_0 : decode cX3_forgetAll 0 = .ok (.aload_n 0, 1) := by decide +kernel
theorem dX3_forgetAll_1 : decode cX3_forgetAll 1 = .ok (.iconst 0, 1) := by decide +kernel
theorem dX3_forgetAll_2 : decode cX3_forgetAll 2 = .ok (.putfield 21, 3) := by decide +kernel
theorem dX3_forgetAll_5 : decode cX3_forgetAll 5 = .ok (.return_, 1) := by decide +kernel
theorem dX3_remember_0 : decode cX3_remember 0 = .ok (.aload_n 0, 1) := by decide +kernel
theorem dX3_remember_1 : decode cX3_remember 1 = .ok (.getfield 11, 3) := by decide +kernel
theorem dX3_remember_4 : decode cX3_remember 4 = .ok (.aload_n 0, 1) := by decide +kernel
theorem dX3_remember_5 : decode cX3_remember 5 = .ok (.getfield 17, 3) := by decide +kernel
theorem dX3_remember_8 : decode cX3_remember 8 = .ok (.aload_n 0, 1) := by decide +kernel
theorem dX3_remember_9 : decode cX3_remember 9 = .ok (.getfield 21, 3) := by decide +kernel
theorem dX3_remember_12 : decode cX3_remember 12 = .ok (.iadd, 1) := by decide +kernel
theorem dX3_remember_13 : decode cX3_remember 13 = .ok (.bipush 14, 2) := by decide +kernel
theorem dX3_remember_15 : decode cX3_remember 15 = .ok (.irem, 1) := by decide +kernel
theorem dX3_remember_16 : decode cX3_remember 16 = .ok (.aaload, 1) := by decide +kernel
theorem dX3_remember_17 : decode cX3_remember 17 = .ok (.aload_n 1, 1) := by decide +kernel
theorem dX3_remember_18 : decode cX3_remember 18 = .ok (.invokevirtual 25, 3) := by decide +kernel
theorem dX3_remember_21 : decode cX3_remember 21 = .ok (.aload_n 0, 1) := by decide +kernel
theorem dX3_remember_22 : decode cX3_remember 22 = .ok (.getfield 21, 3) := by decide +kernel
theorem dX3_remember_25 : decode cX3_remember 25 = .ok (.bipush 14, 2) := by decide +kernel
theorem dX3_remember_27 : decode cX3_remember 27 = .ok (.if_icmp .ge 16, 3) := by decide +kernel
theorem dX3_remember_30 : decode cX3_remember 30 = .ok (.aload_n 0, 1) := by decide +kernel
theorem dX3_remember_31 : decode cX3_remember 31 = .ok (.dup, 1) := by decide +kernel
theorem dX3_remember_32 : decode cX3_remember 32 = .ok (.getfield 21, 3) := by decide +kernel
theorem dX3_remember_35 : decode cX3_remember 35 = .ok (.iconst 1, 1) := by decide +kernel
theorem dX3_remember_36 : decode cX3_remember 36 = .ok (.iadd, 1) := by decide +kernel
theorem dX3_remember_37 : decode cX3_remember 37 = .ok (.putfield 21, 3) := by decide +kernel
theorem dX3_remember_40 : decode cX3_remember 40 = .ok (.goto 16, 3) := by decide +kernel
theorem dX3_remember_43 : decode cX3_remember 43 = .ok (.aload_n 0, 1) := by decide +kernel
theorem dX3_remember_44 : decode cX3_remember 44 = .ok (.aload_n 0, 1) := by decide +kernel
theorem dX3_remember_45 : decode cX3_remember 45 = .ok (.getfield 17, 3) := by decide +kernel
theorem dX3_remember_48 : decode cX3_remember 48 = .ok (.iconst 1, 1) := by decide +kernel
theorem dX3_remember_49 : decode cX3_remember 49 = .ok (.iadd, 1) := by decide +kernel
theorem dX3_remember_50 : decode cX3_remember 50 = .ok (.bipush 14, 2) := by decide +kernel
theorem dX3_remember_52 : decode cX3_remember 52 = .ok (.irem, 1) := by decide +kernel
theorem dX3_remember_53 : decode cX3_remember 53 = .ok (.putfield 17, 3) := by decide +kernel
theorem dX3_remember_56 : decode cX3_remember 56 = .ok (.return_, 1) := by decide +kernel
theorem dX3_takeBack_0 : decode cX3_takeBack 0 = .ok (.aload_n 0, 1) := by decide +kernel
theorem dX3_takeBack_1 : decode cX3_takeBack 1 = .ok (.getfield 21, 3) := by decide +kernel
theorem dX3_takeBack_4 : decode cX3_takeBack 4 = .ok (.ifCond .le 34, 3) := by decide +kernel
theorem dX3_takeBack_7 : decode cX3_takeBack 7 = .ok (.aload_n 0, 1) := by decide +kernel
theorem dX3_takeBack_8 : decode cX3_takeBack 8 = .ok (.dup, 1) := by decide +kernel
theorem dX3_takeBack_9 : decode cX3_takeBack 9 = .ok (.getfield 21, 3) := by decide +kernel
theorem dX3_takeBack_12 : decode cX3_takeBack 12 = .ok (.iconst 1, 1) := by decide +kernel
theorem dX3_takeBack_13 : decode cX3_takeBack 13 = .ok (.isub, 1) := by decide +kernel
theorem dX3_takeBack_14 : decode cX3_takeBack 14 = .ok (.putfield 21, 3) := by decide +kernel
theorem dX3_takeBack_17 : decode cX3_takeBack 17 = .ok (.aload_n 1, 1) := by decide +kernel
theorem dX3_takeBack_18 : decode cX3_takeBack 18 = .ok (.aload_n 0, 1) := by decide +kernel
theorem dX3_takeBack_19 : decode cX3_takeBack 19 = .ok (.getfield 11, 3) := by decide +kernel
theorem dX3_takeBack_22 : decode cX3_takeBack 22 = .ok (.aload_n 0, 1) := by decide +kernel
theorem dX3_takeBack_23 : decode cX3_takeBack 23 = .ok (.getfield 17, 3) := by decide +kernel
theorem dX3_takeBack_26 : decode cX3_takeBack 26 = .ok (.aload_n 0, 1) := by decide +kernel
theorem dX3_takeBack_27 : decode cX3_takeBack 27 = .ok (.getfield 21, 3) := by decide +kernel
theorem dX3_takeBack_30 : decode cX3_takeBack 30 = .ok (.iadd, 1) := by decide +kernel
theorem dX3_takeBack_31 : decode cX3_takeBack 31 = .ok (.bipush 14, 2) := by decide +kernel
theorem dX3_takeBack_33 : decode cX3_takeBack 33 = .ok (.irem, 1) := by decide +kernel
theorem dX3_takeBack_34 : decode cX3_takeBack 34 = .ok (.aaload, 1) := by decide +kernel
theorem dX3_takeBack_35 : decode cX3_takeBack 35 = .ok (.invokevirtual 25, 3) := by decide +kernel
theorem dX3_takeBack_38 : decode cX3_takeBack 38 = .ok (.return_, 1) := by decide +kernel
theorem dX4_init_0 : decode cX4_init 0 = .ok (.aload_n 0, 1) := by decide +kernel
theorem dX4_init_1 : decode cX4_init 1 = .ok (.invokespecial 3, 3) := by decide +kernel
theorem dX4_init_4 : decode cX4_init 4 = .ok (.aload_n 0, 1) := by decide +kernel
theorem dX4_init_5 : decode cX4_init 5 = .ok (.iconst 0, 1) := by decide +kernel
theorem dX4_init_6 : decode cX4_init 6 = .ok (.putfield 9, 3) := by decide +kernel
theorem dX4_init_9 : decode cX4_init 9 = .ok (.aload_n 0, 1) := by decide +kernel
theorem dX4_init_10 : decode cX4_init 10 = .ok (.bipush 12, 2) := by decide +kernel
theorem dX4_init_12 : decode cX4_init 12 = .ok (.newarray .int, 2) := by decide +kernel
theorem dX4_init_14 : decode cX4_init 14 = .ok (.putfield 15, 3) := by decide +kernel
theorem dX4_init_17 : decode cX4_init 17 = .ok (.aload_n 0, 1) := by decide +kernel
theorem dX4_init_18 : decode cX4_init 18 = .ok (.bipush 12, 2) := by decide +kernel
theorem dX4_init_20 : decode cX4_init 20 = .ok (.newarray .int, 2) := by decide +kernel
theorem dX4_init_22 : decode cX4_init 22 = .ok (.putfield 19, 3) := by decide +kernel
theorem dX4_init_25 : decode cX4_init 25 = .ok (.aload_n 0, 1) := by decide +kernel
theorem dX4_init_26 : decode cX4_init 26 = .ok (.bipush 12, 2) := by decide +kernel
theorem dX4_init_28 : decode cX4_init 28 = .ok (.newarray .int, 2) := by decide +kernel
theorem dX4_init_30 : decode cX4_init 30 = .ok (.putfield 22, 3) := by decide +kernel
theorem dX4_init_33 : decode cX4_init 33 = .ok (.aload_n 0, 1) := by decide +kernel
theorem dX4_init_34 : decode cX4_init 34 = .ok (.bipush 12, 2) := by decide +kernel
theorem dX4_init_36 : decode cX4_init 36 = .ok (.newarray .int, 2) := by decide +kernel
theorem dX4_init_38 : decode cX4_init 38 = .ok (.putfield 25, 3) := by decide +kernel
theorem dX4_init_41 : decode cX4_init 41 = .ok (.aload_n 0, 1) := by decide +kernel
theorem dX4_init_42 : decode cX4_init 42 = .ok (.bipush 12, 2) := by decide +kernel
theorem dX4_init_44 : decode cX4_init 44 = .ok (.newarray .int, 2) := by decide +kernel
theorem dX4_init_46 : decode cX4_init 46 = .ok (.putfield 28, 3) := by decide +kernel
theorem dX4_init_49 : decode cX4_init 49 = .ok (.return_, 1) := by decide +kernel
theorem dX4_copyFrom_0 : decode cX4_copyFrom 0 = .ok (.aload_n 0, 1) := by decide +kernel
theorem dX4_copyFrom_1 : decode cX4_copyFrom 1 = .ok (.aload_n 1, 1) := by decide +kernel
theorem dX4_copyFrom_2 : decode cX4_copyFrom 2 = .ok (.getfield 9, 3) := by decide +kernel
theorem dX4_copyFrom_5 : decode cX4_copyFrom 5 = .ok (.putfield 9, 3) := by decide +kernel
theorem dX4_copyFrom_8 : decode cX4_copyFrom 8 = .ok (.aload_n 1, 1) := by decide +kernel
theorem dX4_copyFrom_9 : decode cX4_copyFrom 9 = .ok (.getfield 15, 3) := by decide +kernel
theorem dX4_copyFrom_12 : decode cX4_copyFrom 12 = .ok (.iconst 0, 1) := by decide +kernel
theorem dX4_copyFrom_13 : decode cX4_copyFrom 13 = .ok (.aload_n 0, 1) := by decide +kernel
theorem dX4_copyFrom_14 : decode cX4_copyFrom 14 = .ok (.getfield 15, 3) := by decide +kernel
theorem dX4_copyFrom_17 : decode cX4_copyFrom 17 = .ok (.iconst 0, 1) := by decide +kernel
theorem dX4_copyFrom_18 : decode cX4_copyFrom 18 = .ok (.bipush 12, 2) := by decide +kernel
theorem dX4_copyFrom_20 : decode cX4_copyFrom 20 = .ok (.invokestatic 31, 3) := by decide +kernel
theorem dX4_copyFrom_23 : decode cX4_copyFrom 23 = .ok (.aload_n 1, 1) := by decide +kernel
theorem dX4_copyFrom_24 : decode cX4_copyFrom 24 = .ok (.getfield 19, 3) := by decide +kernel
theorem dX4_copyFrom_27 : decode cX4_copyFrom 27 = .ok (.iconst 0, 1) := by decide +kernel
theorem dX4_copyFrom_28 : decode cX4_copyFrom 28 = .ok (.aload_n 0, 1) := by decide +kernel
theorem dX4_copyFrom_29 : decode cX4_copyFrom 29 = .ok (.getfield 19, 3) := by decide +kernel
theorem dX4_copyFrom_32 : decode cX4_copyFrom 32 = .ok (.iconst 0, 1) := by decide +kernel
theorem dX4_copyFrom_33 : decode cX4_copyFrom 33 = .ok (.bipush 12, 2) := by decide +kernel
theorem dX4_copyFrom_35 : decode cX4_copyFrom 35 = .ok (.invokestatic 31, 3) := by decide +kernel
theorem dX4_copyFrom_38 : decode cX4_copyFrom 38 = .ok (.aload_n 1, 1) := by decide +kernel
theorem dX4_copyFrom_39 : decode cX4_copyFrom 39 = .ok (.getfield 22, 3) := by decide +kernel
theorem dX4_copyFrom_42 : decode cX4_copyFrom 42 = .ok (.iconst 0, 1) := by decide +kernel
theorem dX4_copyFrom_43 : decode cX4_copyFrom 43 = .ok (.aload_n 0, 1) := by decide +kernel
theorem dX4_copyFrom_44 : decode cX4_copyFrom 44 = .ok (.getfield 22, 3) := by decide +kernel
theorem dX4_copyFrom_47 : decode cX4_copyFrom 47 = .ok (.iconst 0, 1) := by decide +kernel
theorem dX4_copyFrom_48 : decode cX4_copyFrom 48 = .ok (.bipush 12, 2) := by decide +kernel
theorem dX4_copyFrom_50 : decode cX4_copyFrom 50 = .ok (.invokestatic 31, 3) := by decide +kernel
theorem dX4_copyFrom_53 : decode cX4_copyFrom 53 = .ok (.aload_n 1, 1) := by decide +kernel
theorem dX4_copyFrom_54 : decode cX4_copyFrom 54 = .ok (.getfield 25, 3) := by decide +kernel
theorem dX4_copyFrom_57 : decode cX4_copyFrom 57 = .ok (.iconst 0, 1) := by decide +kernel
theorem dX4_copyFrom_58 : decode cX4_copyFrom 58 = .ok (.aload_n 0, 1) := by decide +kernel
theorem dX4_copyFrom_59 : decode cX4_copyFrom 59 = .ok (.getfield 25, 3) := by decide +kernel
theorem dX4_copyFrom_62 : decode cX4_copyFrom 62 = .ok (.iconst 0, 1) := by decide +kernel
theorem dX4_copyFrom_63 : decode cX4_copyFrom 63 = .ok (.bipush 12, 2) := by decide +kernel
theorem dX4_copyFrom_65 : decode cX4_copyFrom 65 = .ok (.invokestatic 31, 3) := by decide +kernel
theorem dX4_copyFrom_68 : decode cX4_copyFrom 68 = .ok (.aload_n 1, 1) := by decide +kernel
theorem dX4_copyFrom_69 : decode cX4_copyFrom 69 = .ok (.getfield 28, 3) := by decide +kernel
theorem dX4_copyFrom_72 : decode cX4_copyFrom 72 = .ok (.iconst 0, 1) := by decide +kernel
theorem dX4_copyFrom_73 : decode cX4_copyFrom 73 = .ok (.aload_n 0, 1) := by decide +kernel
theorem dX4_copyFrom_74 : decode cX4_copyFrom 74 = .ok (.getfield 28, 3) := by decide +kernel
theorem dX4_copyFrom_77 : decode cX4_copyFrom 77 = .ok (.iconst 0, 1) := by decide +kernel
theorem dX4_copyFrom_78 : decode cX4_copyFrom 78 = .ok (.bipush 12, 2) := by decide +kernel
theorem dX4_copyFrom_80 : decode cX4_copyFrom 80 = .ok (.invokestatic 31, 3) := by decide +kernel
theorem dX4_copyFrom_83 : decode cX4_copyFrom 83 = .ok (.return_, 1) := by decide +kernel
theorem dX4_has_0 : decode cX4_has 0 = .ok (.iload_n 1, 1) := by decide +kernel
theorem dX4_has_1 : decode cX4_has 1 = .ok (.ifCond .lt 15, 3) := by decide +kernel
theorem dX4_has_4 : decode cX4_has 4 = .ok (.iload_n 1, 1) := by decide +kernel
theorem dX4_has_5 : decode cX4_has 5 = .ok (.aload_n 0, 1) := by decide +kernel
theorem dX4_has_6 : decode cX4_has 6 = .ok (.getfield 9, 3) := by decide +kernel
theorem dX4_has_9 : decode cX4_has 9 = .ok (.if_icmp .ge 7, 3) := by decide +kernel
theorem dX4_has_12 : decode cX4_has 12 = .ok (.iconst 1, 1) := by decide +kernel
theorem dX4_has_13 : decode cX4_has 13 = .ok (.goto 4, 3) := by decide +kernel
theorem dX4_has_16 : decode cX4_has 16 = .ok (.iconst 0, 1) := by decide +kernel
theorem dX4_has_17 : decode cX4_has 17 = .ok (.ireturn, 1) := by decide +kernel
theorem dX4_isFull_0 : decode cX4_isFull 0 = .ok (.aload_n 0, 1) := by decide +kernel
theorem dX4_isFull_1 : decode cX4_isFull 1 = .ok (.getfield 9, 3) := by decide +kernel
theorem dX4_isFull_4 : decode cX4_isFull 4 = .ok (.bipush 12, 2) := by decide +kernel
theorem dX4_isFull_6 : decode cX4_isFull 6 = .ok (.if_icmp .lt 7, 3) := by decide +kernel
theorem dX4_isFull_9 : decode cX4_isFull 9 = .ok (.iconst 1, 1) := by decide +kernel
theorem dX4_isFull_10 : decode cX4_isFull 10 = .ok (.goto 4, 3) := by decide +kernel
theorem dX4_isFull_13 : decode cX4_isFull 13 = .ok (.iconst 0, 1) := by decide +kernel
theorem dX4_isFull_14 : decode cX4_isFull 14 = .ok (.ireturn, 1) := by decide +kernel
theorem dX4_add_0 : decode cX4_add 0 = .ok (.aload_n 0, 1) := by decide +kernel
theorem dX4_add_1 : decode cX4_add 1 = .ok (.invokevirtual 37, 3) := by decide +kernel
theorem dX4_add_4 : decode cX4_add 4 = .ok (.ifCond .eq 4, 3) := by decide +kernel
theorem dX4_add_7 : decode cX4_add 7 = .ok (.return_, 1) := by decide +kernel
theorem dX4_add_8 : decode cX4_add 8 = .ok (.aload_n 0, 1) := by decide +kernel
theorem dX4_add_9 : decode cX4_add 9 = .ok (.getfield 15, 3) := by decide +kernel
theorem dX4_add_12 : decode cX4_add 12 = .ok (.aload_n 0, 1) := by decide +kernel
theorem dX4_add_13 : decode cX4_add 13 = .ok (.getfield 9, 3) := by decide +kernel
theorem dX4_add_16 : decode cX4_add 16 = .ok (.iload_n 1, 1) := by decide +kernel
theorem dX4_add_17 : decode cX4_add 17 = .ok (.iastore, 1) := by decide +kernel
theorem dX4_add_18 : decode cX4_add 18 = .ok (.aload_n 0, 1) := by decide +kernel
theorem dX4_add_19 : decode cX4_add 19 = .ok (.getfield 19, 3) := by decide +kernel
theorem dX4_add_22 : decode cX4_add 22 = .ok (.aload_n 0, 1) := by decide +kernel
theorem dX4_add_23 : decode cX4_add 23 = .ok (.getfield 9, 3) := by decide +kernel
theorem dX4_add_26 : decode cX4_add 26 = .ok (.iload_n 2, 1) := by decide +kernel
theorem dX4_add_27 : decode cX4_add 27 = .ok (.iastore, 1) := by decide +kernel
theorem dX4_add_28 : decode cX4_add 28 = .ok (.aload_n 0, 1) := by decide +kernel
theorem dX4_add_29 : decode cX4_add 29 = .ok (.getfield 22, 3) := by decide +kernel
theorem dX4_add_32 : decode cX4_add 32 = .ok (.aload_n 0, 1) := by decide +kernel
theorem dX4_add_33 : decode cX4_add 33 = .ok (.getfield 9, 3) := by decide +kernel
theorem dX4_add_36 : decode cX4_add 36 = .ok (.iload_n 3, 1) := by decide +kernel
theorem dX4_add_37 : decode cX4_add 37 = .ok (.iastore, 1) := by decide +kernel
theorem dX4_add_38 : decode cX4_add 38 = .ok (.aload_n 0, 1) := by decide +kernel
theorem dX4_add_39 : decode cX4_add 39 = .ok (.getfield 25, 3) := by decide +kernel
theorem dX4_add_42 : decode cX4_add 42 = .ok (.aload_n 0, 1) := by decide +kernel
theorem dX4_add_43 : decode cX4_add 43 = .ok (.getfield 9, 3) := by decide +kernel
theorem dX4_add_46 : decode cX4_add 46 = .ok (.iconst 0, 1) := by decide +kernel
theorem dX4_add_47 : decode cX4_add 47 = .ok (.iastore, 1) := by decide +kernel
theorem dX4_add_48 : decode cX4_add 48 = .ok (.aload_n 0, 1) := by decide +kernel
theorem dX4_add_49 : decode cX4_add 49 = .ok (.getfield 28, 3) := by decide +kernel
theorem dX4_add_52 : decode cX4_add 52 = .ok (.aload_n 0, 1) := by decide +kernel
theorem dX4_add_53 : decode cX4_add 53 = .ok (.getfield 9, 3) := by decide +kernel
theorem dX4_add_56 : decode cX4_add 56 = .ok (.iconst 0, 1) := by decide +kernel
theorem dX4_add_57 : decode cX4_add 57 = .ok (.iastore, 1) := by decide +kernel
theorem dX4_add_58 : decode cX4_add 58 = .ok (.aload_n 0, 1) := by decide +kernel
theorem dX4_add_59 : decode cX4_add 59 = .ok (.dup, 1) := by decide +kernel
theorem dX4_add_60 : decode cX4_add 60 = .ok (.getfield 9, 3) := by decide +kernel
theorem dX4_add_63 : decode cX4_add 63 = .ok (.iconst 1, 1) := by decide +kernel
theorem dX4_add_64 : decode cX4_add 64 = .ok (.iadd, 1) := by decide +kernel
theorem dX4_add_65 : decode cX4_add 65 = .ok (.putfield 9, 3) := by decide +kernel
theorem dX4_add_68 : decode cX4_add 68 = .ok (.return_, 1) := by decide +kernel
theorem dX4_growOlder_0 : decode cX4_growOlder 0 = .ok (.iconst 0, 1) := by decide +kernel
theorem dX4_growOlder_1 : decode cX4_growOlder 1 = .ok (.istore_n 1, 1) := by decide +kernel
theorem dX4_growOlder_2 : decode cX4_growOlder 2 = .ok (.iload_n 1, 1) := by decide +kernel
theorem dX4_growOlder_3 : decode cX4_growOlder 3 = .ok (.aload_n 0, 1) := by decide +kernel
theorem dX4_growOlder_4 : decode cX4_growOlder 4 = .ok (.getfield 9, 3) := by decide +kernel
theorem dX4_growOlder_7 : decode cX4_growOlder 7 = .ok (.if_icmp .ge 19, 3) := by decide +kernel
theorem dX4_growOlder_10 : decode cX4_growOlder 10 = .ok (.aload_n 0, 1) := by decide +kernel
theorem dX4_growOlder_11 : decode cX4_growOlder 11 = .ok (.getfield 15, 3) := by decide +kernel
theorem dX4_growOlder_14 : decode cX4_growOlder 14 = .ok (.iload_n 1, 1) := by decide +kernel
theorem dX4_growOlder_15 : decode cX4_growOlder 15 = .ok (.dup2, 1) := by decide +kernel
theorem dX4_growOlder_16 : decode cX4_growOlder 16 = .ok (.iaload, 1) := by decide +kernel
theorem dX4_growOlder_17 : decode cX4_growOlder 17 = .ok (.iconst 1, 1) := by decide +kernel
theorem dX4_growOlder_18 : decode cX4_growOlder 18 = .ok (.iadd, 1) := by decide +kernel
theorem dX4_growOlder_19 : decode cX4_growOlder 19 = .ok (.iastore, 1) := by decide +kernel
theorem dX4_growOlder_20 : decode cX4_growOlder 20 = .ok (.iinc 1 1, 3) := by decide +kernel
theorem dX4_growOlder_23 : decode cX4_growOlder 23 = .ok (.goto (-21), 3) := by decide +kernel
theorem dX4_growOlder_26 : decode cX4_growOlder 26 = .ok (.return_, 1) := by decide +kernel
theorem dX4_areBrothers_0 : decode cX4_areBrothers 0 = .ok (.iload_n 1, 1) := by decide +kernel
theorem dX4_areBrothers_1 : decode cX4_areBrothers 1 = .ok (.iload_n 2, 1) := by decide +kernel
theorem dX4_areBrothers_2 : decode cX4_areBrothers 2 = .ok (.if_icmp .eq 22, 3) := by decide +kernel
theorem dX4_areBrothers_5 : decode cX4_areBrothers 5 = .ok (.aload_n 0, 1) := by decide +kernel
theorem dX4_areBrothers_6 : decode cX4_areBrothers 6 = .ok (.getfield 19, 3) := by decide +kernel
theorem dX4_areBrothers_9 : decode cX4_areBrothers 9 = .ok (.iload_n 1, 1) := by decide +kernel
theorem dX4_areBrothers_10 : decode cX4_areBrothers 10 = .ok (.iaload, 1) := by decide +kernel
theorem dX4_areBrothers_11 : decode cX4_areBrothers 11 = .ok (.aload_n 0, 1) := by decide +kernel
theorem dX4_areBrothers_12 : decode cX4_areBrothers 12 = .ok (.getfield 19, 3) := by decide +kernel
theorem dX4_areBrothers_15 : decode cX4_areBrothers 15 = .ok (.iload_n 2, 1) := by decide +kernel
theorem dX4_areBrothers_16 : decode cX4_areBrothers 16 = .ok (.iaload, 1) := by decide +kernel
theorem dX4_areBrothers_17 : decode cX4_areBrothers 17 = .ok (.if_icmp .ne 7, 3) := by decide +kernel
theorem dX4_areBrothers_20 : decode cX4_areBrothers 20 = .ok (.iconst 1, 1) := by decide +kernel
theorem dX4_areBrothers_21 : decode cX4_areBrothers 21 = .ok (.goto 4, 3) := by decide +kernel
theorem dX4_areBrothers_24 : decode cX4_areBrothers 24 = .ok (.iconst 0, 1) := by decide +kernel
theorem dX4_areBrothers_25 : decode cX4_areBrothers 25 = .ok (.ireturn, 1) := by decide +kernel
theorem dX4_isYoungerBeside_0 : decode cX4_isYoungerBeside 0 = .ok (.aload_n 0, 1) := by decide +kernel
theorem dX4_isYoungerBeside_1 : decode cX4_isYoungerBeside 1 = .ok (.getfield 19, 3) := by decide +kernel
theorem dX4_isYoungerBeside_4 : decode cX4_isYoungerBeside 4 = .ok (.iload_n 1, 1) := by decide +kernel
theorem dX4_isYoungerBeside_5 : decode cX4_isYoungerBeside 5 = .ok (.iaload, 1) := by decide +kernel
theorem dX4_isYoungerBeside_6 : decode cX4_isYoungerBeside 6 = .ok (.aload_n 0, 1) := by decide +kernel
theorem dX4_isYoungerBeside_7 : decode cX4_isYoungerBeside 7 = .ok (.getfield 19, 3) := by decide +kernel
theorem dX4_isYoungerBeside_10 : decode cX4_isYoungerBeside 10 = .ok (.iload_n 2, 1) := by decide +kernel
theorem dX4_isYoungerBeside_11 : decode cX4_isYoungerBeside 11 = .ok (.iaload, 1) := by decide +kernel
theorem dX4_isYoungerBeside_12 : decode cX4_isYoungerBeside 12 = .ok (.if_icmp .ne 37, 3) := by decide +kernel
theorem dX4_isYoungerBeside_15 : decode cX4_isYoungerBeside 15 = .ok (.aload_n 0, 1) := by decide +kernel
theorem dX4_isYoungerBeside_16 : decode cX4_isYoungerBeside 16 = .ok (.getfield 15, 3) := by decide +kernel
theorem dX4_isYoungerBeside_19 : decode cX4_isYoungerBeside 19 = .ok (.iload_n 1, 1) := by decide +kernel
theorem dX4_isYoungerBeside_20 : decode cX4_isYoungerBeside 20 = .ok (.iaload, 1) := by decide +kernel
theorem dX4_isYoungerBeside_21 : decode cX4_isYoungerBeside 21 = .ok (.aload_n 0, 1) := by decide +kernel
theorem dX4_isYoungerBeside_22 : decode cX4_isYoungerBeside 22 = .ok (.getfield 15, 3) := by decide +kernel
theorem dX4_isYoungerBeside_25 : decode cX4_isYoungerBeside 25 = .ok (.iload_n 2, 1) := by decide +kernel
theorem dX4_isYoungerBeside_26 : decode cX4_isYoungerBeside 26 = .ok (.iaload, 1) := by decide +kernel
theorem dX4_isYoungerBeside_27 : decode cX4_isYoungerBeside 27 = .ok (.if_icmp .ge 22, 3) := by decide +kernel
theorem dX4_isYoungerBeside_30 : decode cX4_isYoungerBeside 30 = .ok (.aload_n 0, 1) := by decide +kernel
theorem dX4_isYoungerBeside_31 : decode cX4_isYoungerBeside 31 = .ok (.getfield 22, 3) := by decide +kernel
theorem dX4_isYoungerBeside_34 : decode cX4_isYoungerBeside 34 = .ok (.iload_n 1, 1) := by decide +kernel
theorem dX4_isYoungerBeside_35 : decode cX4_isYoungerBeside 35 = .ok (.iaload, 1) := by decide +kernel
theorem dX4_isYoungerBeside_36 : decode cX4_isYoungerBeside 36 = .ok (.aload_n 0, 1) := by decide +kernel
theorem dX4_isYoungerBeside_37 : decode cX4_isYoungerBeside 37 = .ok (.getfield 22, 3) := by decide +kernel
theorem dX4_isYoungerBeside_40 : decode cX4_isYoungerBeside 40 = .ok (.iload_n 2, 1) := by decide +kernel
theorem dX4_isYoungerBeside_41 : decode cX4_isYoungerBeside 41 = .ok (.iaload, 1) := by decide +kernel
theorem dX4_isYoungerBeside_42 : decode cX4_isYoungerBeside 42 = .ok (.if_icmp .ne 7, 3) := by decide +kernel
theorem dX4_isYoungerBeside_45 : decode cX4_isYoungerBeside 45 = .ok (.iconst 1, 1) := by decide +kernel
theorem dX4_isYoungerBeside_46 : decode cX4_isYoungerBeside 46 = .ok (.goto 4, 3) := by decide +kernel
theorem dX4_isYoungerBeside_49 : decode cX4_isYoungerBeside 49 = .ok (.iconst 0, 1) := by decide +kernel
theorem dX4_isYoungerBeside_50 : decode cX4_isYoungerBeside 50 = .ok (.ireturn, 1) := by decide +kernel
theorem dX4_brothersOf_0 : decode cX4_brothersOf 0 = .ok (.iconst 0, 1) := by decide +kernel
theorem dX4_brothersOf_1 : decode cX4_brothersOf 1 = .ok (.istore_n 2, 1) := by decide +kernel
theorem dX4_brothersOf_2 : decode cX4_brothersOf 2 = .ok (.iconst 0, 1) := by decide +kernel
theorem dX4_brothersOf_3 : decode cX4_brothersOf 3 = .ok (.istore_n 3, 1) := by decide +kernel
theorem dX4_brothersOf_4 : decode cX4_brothersOf 4 = .ok (.iload_n 3, 1) := by decide +kernel
theorem dX4_brothersOf_5 : decode cX4_brothersOf 5 = .ok (.aload_n 0, 1) := by decide +kernel
theorem dX4_brothersOf_6 : decode cX4_brothersOf 6 = .ok (.getfield 9, 3) := by decide +kernel
theorem dX4_brothersOf_9 : decode cX4_brothersOf 9 = .ok (.if_icmp .ge 21, 3) := by decide +kernel
theorem dX4_brothersOf_12 : decode cX4_brothersOf 12 = .ok (.aload_n 0, 1) := by decide +kernel
theorem dX4_brothersOf_13 : decode cX4_brothersOf 13 = .ok (.iload_n 1, 1) := by decide +kernel
theorem dX4_brothersOf_14 : decode cX4_brothersOf 14 = .ok (.iload_n 3, 1) := by decide +kernel
theorem dX4_brothersOf_15 : decode cX4_brothersOf 15 = .ok (.invokevirtual 41, 3) := by decide +kernel
theorem dX4_brothersOf_18 : decode cX4_brothersOf 18 = .ok (.ifCond .eq 6, 3) := by decide +kernel
theorem dX4_brothersOf_21 : decode cX4_brothersOf 21 = .ok (.iinc 2 1, 3) := by decide +kernel
theorem dX4_brothersOf_24 : decode cX4_brothersOf 24 = .ok (.iinc 3 1, 3) := by decide +kernel
theorem dX4_brothersOf_27 : decode cX4_brothersOf 27 = .ok (.goto (-23), 3) := by decide +kernel
theorem dX4_brothersOf_30 : decode cX4_brothersOf 30 = .ok (.iload_n 2, 1) := by decide +kernel
theorem dX4_brothersOf_31 : decode cX4_brothersOf 31 = .ok (.ireturn, 1) := by decide +kernel
theorem dX4_firstBrotherOn_0 : decode cX4_firstBrotherOn 0 = .ok (.iconst 0, 1) := by decide +kernel
theorem dX4_firstBrotherOn_1 : decode cX4_firstBrotherOn 1 = .ok (.istore_n 3, 1) := by decide +kernel
theorem dX4_firstBrotherOn_2 : decode cX4_firstBrotherOn 2 = .ok (.iload_n 3, 1) := by decide +kernel
theorem dX4_firstBrotherOn_3 : decode cX4_firstBrotherOn 3 = .ok (.aload_n 0, 1) := by decide +kernel
theorem dX4_firstBrotherOn_4 : decode cX4_firstBrotherOn 4 = .ok (.getfield 9, 3) := by decide +kernel
theorem dX4_firstBrotherOn_7 : decode cX4_firstBrotherOn 7 = .ok (.if_icmp .ge 30, 3) := by decide +kernel
theorem dX4_firstBrotherOn_10 : decode cX4_firstBrotherOn 10 = .ok (.aload_n 0, 1) := by decide +kernel
theorem dX4_firstBrotherOn_11 : decode cX4_firstBrotherOn 11 = .ok (.getfield 22, 3) := by decide +kernel
theorem dX4_firstBrotherOn_14 : decode cX4_firstBrotherOn 14 = .ok (.iload_n 3, 1) := by decide +kernel
theorem dX4_firstBrotherOn_15 : decode cX4_firstBrotherOn 15 = .ok (.iaload, 1) := by decide +kernel
theorem dX4_firstBrotherOn_16 : decode cX4_firstBrotherOn 16 = .ok (.iload_n 1, 1) := by decide +kernel
theorem dX4_firstBrotherOn_17 : decode cX4_firstBrotherOn 17 = .ok (.if_icmp .ne 14, 3) := by decide +kernel
theorem dX4_firstBrotherOn_20 : decode cX4_firstBrotherOn 20 = .ok (.aload_n 0, 1) := by decide +kernel
theorem dX4_firstBrotherOn_21 : decode cX4_firstBrotherOn 21 = .ok (.iload_n 2, 1) := by decide +kernel
theorem dX4_firstBrotherOn_22 : decode cX4_firstBrotherOn 22 = .ok (.iload_n 3, 1) := by decide +kernel
theorem dX4_firstBrotherOn_23 : decode cX4_firstBrotherOn 23 = .ok (.invokevirtual 41, 3) := by decide +kernel
theorem dX4_firstBrotherOn_26 : decode cX4_firstBrotherOn 26 = .ok (.ifCond .eq 5, 3) := by decide +kernel
theorem dX4_firstBrotherOn_29 : decode cX4_firstBrotherOn 29 = .ok (.iload_n 3, 1) := by decide +kernel
theorem dX4_firstBrotherOn_30 : decode cX4_firstBrotherOn 30 = .ok (.ireturn, 1) := by decide +kernel
theorem dX4_firstBrotherOn_31 : decode cX4_firstBrotherOn 31 = .ok (.iinc 3 1, 3) := by decide +kernel
theorem dX4_firstBrotherOn_34 : decode cX4_firstBrotherOn 34 = .ok (.goto (-32), 3) := by decide +kernel
theorem dX4_firstBrotherOn_37 : decode cX4_firstBrotherOn 37 = .ok (.iconst (-1), 1) := by decide +kernel
theorem dX4_firstBrotherOn_38 : decode cX4_firstBrotherOn 38 = .ok (.ireturn, 1) := by decide +kernel
theorem dX5_init_0 : decode cX5_init 0 = .ok (.aload_n 0, 1) := by decide +kernel
theorem dX5_init_1 : decode cX5_init 1 = .ok (.invokespecial 3, 3) := by decide +kernel
theorem dX5_init_4 : decode cX5_init 4 = .ok (.aload_n 0, 1) := by decide +kernel
theorem dX5_init_5 : decode cX5_init 5 = .ok (.new 9, 3) := by decide +kernel
theorem dX5_init_8 : decode cX5_init 8 = .ok (.dup, 1) := by decide +kernel
theorem dX5_init_9 : decode cX5_init 9 = .ok (.invokespecial 11, 3) := by decide +kernel
theorem dX5_init_12 : decode cX5_init 12 = .ok (.putfield 12, 3) := by decide +kernel
theorem dX5_init_15 : decode cX5_init 15 = .ok (.aload_n 0, 1) := by decide +kernel
theorem dX5_init_16 : decode cX5_init 16 = .ok (.new 18, 3) := by decide +kernel
theorem dX5_init_19 : decode cX5_init 19 = .ok (.dup, 1) := by decide +kernel
theorem dX5_init_20 : decode cX5_init 20 = .ok (.invokespecial 20, 3) := by decide +kernel
theorem dX5_init_23 : decode cX5_init 23 = .ok (.putfield 21, 3) := by decide +kernel
theorem dX5_init_26 : decode cX5_init 26 = .ok (.aload_n 0, 1) := by decide +kernel
theorem dX5_init_27 : decode cX5_init 27 = .ok (.iconst 3, 1) := by decide +kernel
theorem dX5_init_28 : decode cX5_init 28 = .ok (.newarray .int, 2) := by decide +kernel
theorem dX5_init_30 : decode cX5_init 30 = .ok (.putfield 25, 3) := by decide +kernel
theorem dX5_init_33 : decode cX5_init 33 = .ok (.aload_n 0, 1) := by decide +kernel
theorem dX5_init_34 : decode cX5_init 34 = .ok (.iconst 0, 1) := by decide +kernel
theorem dX5_init_35 : decode cX5_init 35 = .ok (.putfield 29, 3) := by decide +kernel
theorem dX5_init_38 : decode cX5_init 38 = .ok (.aload_n 0, 1) := by decide +kernel
theorem dX5_init_39 : decode cX5_init 39 = .ok (.iconst 0, 1) := by decide +kernel
theorem dX5_init_40 : decode cX5_init 40 = .ok (.putfield 33, 3) := by decide +kernel
theorem dX5_init_43 : decode cX5_init 43 = .ok (.aload_n 0, 1) := by decide +kernel
theorem dX5_init_44 : decode cX5_init 44 = .ok (.iconst 0, 1) := by decide +kernel
theorem dX5_init_45 : decode cX5_init 45 = .ok (.putfield 36, 3) := by decide +kernel
theorem dX5_init_48 : decode cX5_init 48 = .ok (.aload_n 0, 1) := by decide +kernel
theorem dX5_init_49 : decode cX5_init 49 = .ok (.iconst 0, 1) := by decide +kernel
theorem dX5_init_50 : decode cX5_init 50 = .ok (.putfield 39, 3) := by decide +kernel
theorem dX5_init_53 : decode cX5_init 53 = .ok (.iconst 0, 1) := by decide +kernel
theorem dX5_init_54 : decode cX5_init 54 = .ok (.istore_n 1, 1) := by decide +kernel
theorem dX5_init_55 : decode cX5_init 55 = .ok (.iload_n 1, 1) := by decide +kernel
theorem dX5_init_56 : decode cX5_init 56 = .ok (.iconst 3, 1) := by decide +kernel
theorem dX5_init_57 : decode cX5_init 57 = .ok (.if_icmp .ge 16, 3) := by decide +kernel
theorem dX5_init_60 : decode cX5_init 60 = .ok (.aload_n 0, 1) := by decide +kernel
theorem dX5_init_61 : decode cX5_init 61 = .ok (.getfield 25, 3) := by decide +kernel
theorem dX5_init_64 : decode cX5_init 64 = .ok (.iload_n 1, 1) := by decide +kernel
theorem dX5_init_65 : decode cX5_init 65 = .ok (.iconst 3, 1) := by decide +kernel
theorem dX5_init_66 : decode cX5_init 66 = .ok (.iastore, 1) := by decide +kernel
theorem dX5_init_67 : decode cX5_init 67 = .ok (.iinc 1 1, 3) := by decide +kernel
theorem dX5_init_70 : decode cX5_init 70 = .ok (.goto (-15), 3) := by decide +kernel
theorem dX5_init_73 : decode cX5_init 73 = .ok (.return_, 1) := by decide +kernel
theorem dX5_empty_0 : decode cX5_empty 0 = .ok (.aload_n 0, 1) := by decide +kernel
theorem dX5_empty_1 : decode cX5_empty 1 = .ok (.getfield 12, 3) := by decide +kernel
theorem dX5_empty_4 : decode cX5_empty 4 = .ok (.iconst 0, 1) := by decide +kernel
theorem dX5_empty_5 : decode cX5_empty 5 = .ok (.putfield 42, 3) := by decide +kernel
theorem dX5_empty_8 : decode cX5_empty 8 = .ok (.aload_n 0, 1) := by decide +kernel
theorem dX5_empty_9 : decode cX5_empty 9 = .ok (.getfield 21, 3) := by decide +kernel
theorem dX5_empty_12 : decode cX5_empty 12 = .ok (.iconst 0, 1) := by decide +kernel
theorem dX5_empty_13 : decode cX5_empty 13 = .ok (.putfield 45, 3) := by decide +kernel
theorem dX5_empty_16 : decode cX5_empty 16 = .ok (.iconst 0, 1) := by decide +kernel
theorem dX5_empty_17 : decode cX5_empty 17 = .ok (.istore_n 1, 1) := by decide +kernel
theorem dX5_empty_18 : decode cX5_empty 18 = .ok (.iload_n 1, 1) := by decide +kernel
theorem dX5_empty_19 : decode cX5_empty 19 = .ok (.iconst 3, 1) := by decide +kernel
theorem dX5_empty_20 : decode cX5_empty 20 = .ok (.if_icmp .ge 16, 3) := by decide +kernel
theorem dX5_empty_23 : decode cX5_empty 23 = .ok (.aload_n 0, 1) := by decide +kernel
theorem dX5_empty_24 : decode cX5_empty 24 = .ok (.getfield 25, 3) := by decide +kernel
theorem dX5_empty_27 : decode cX5_empty 27 = .ok (.iload_n 1, 1) := by decide +kernel
theorem dX5_empty_28 : decode cX5_empty 28 = .ok (.iconst 3, 1) := by decide +kernel
theorem dX5_empty_29 : decode cX5_empty 29 = .ok (.iastore, 1) := by decide +kernel
theorem dX5_empty_30 : decode cX5_empty 30 = .ok (.iinc 1 1, 3) := by decide +kernel
theorem dX5_empty_33 : decode cX5_empty 33 = .ok (.goto (-15), 3) := by decide +kernel
theorem dX5_empty_36 : decode cX5_empty 36 = .ok (.aload_n 0, 1) := by decide +kernel
theorem dX5_empty_37 : decode cX5_empty 37 = .ok (.iconst 0, 1) := by decide +kernel
theorem dX5_empty_38 : decode cX5_empty 38 = .ok (.putfield 29, 3) := by decide +kernel
theorem dX5_empty_41 : decode cX5_empty 41 = .ok (.aload_n 0, 1) := by decide +kernel
theorem dX5_empty_42 : decode cX5_empty 42 = .ok (.iconst 0, 1) := by decide +kernel
theorem dX5_empty_43 : decode cX5_empty 43 = .ok (.putfield 33, 3) := by decide +kernel
theorem dX5_empty_46 : decode cX5_empty 46 = .ok (.aload_n 0, 1) := by decide +kernel
theorem dX5_empty_47 : decode cX5_empty 47 = .ok (.iconst 0, 1) := by decide +kernel
theorem dX5_empty_48 : decode cX5_empty 48 = .ok (.putfield 36, 3) := by decide +kernel
theorem dX5_empty_51 : decode cX5_empty 51 = .ok (.aload_n 0, 1) := by decide +kernel
theorem dX5_empty_52 : decode cX5_empty 52 = .ok (.iconst 0, 1) := by decide +kernel
theorem dX5_empty_53 : decode cX5_empty 53 = .ok (.putfield 39, 3) := by decide +kernel
theorem dX5_empty_56 : decode cX5_empty 56 = .ok (.return_, 1) := by decide +kernel
theorem dX5_copyFrom_0 : decode cX5_copyFrom 0 = .ok (.aload_n 0, 1) := by decide +kernel
theorem dX5_copyFrom_1 : decode cX5_copyFrom 1 = .ok (.getfield 12, 3) := by decide +kernel
theorem dX5_copyFrom_4 : decode cX5_copyFrom 4 = .ok (.aload_n 1, 1) := by decide +kernel
theorem dX5_copyFrom_5 : decode cX5_copyFrom 5 = .ok (.getfield 12, 3) := by decide +kernel
theorem dX5_copyFrom_8 : decode cX5_copyFrom 8 = .ok (.invokevirtual 46, 3) := by decide +kernel
theorem dX5_copyFrom_11 : decode cX5_copyFrom 11 = .ok (.aload_n 0, 1) := by decide +kernel
theorem dX5_copyFrom_12 : decode cX5_copyFrom 12 = .ok (.getfield 21, 3) := by decide +kernel
theorem dX5_copyFrom_15 : decode cX5_copyFrom 15 = .ok (.aload_n 1, 1) := by decide +kernel
theorem dX5_copyFrom_16 : decode cX5_copyFrom 16 = .ok (.getfield 21, 3) := by decide +kernel
theorem dX5_copyFrom_19 : decode cX5_copyFrom 19 = .ok (.invokevirtual 50, 3) := by decide +kernel
theorem dX5_copyFrom_22 : decode cX5_copyFrom 22 = .ok (.aload_n 1, 1) := by decide +kernel
theorem dX5_copyFrom_23 : decode cX5_copyFrom 23 = .ok (.getfield 25, 3) := by decide +kernel
theorem dX5_copyFrom_26 : decode cX5_copyFrom 26 = .ok (.iconst 0, 1) := by decide +kernel
theorem dX5_copyFrom_27 : decode cX5_copyFrom 27 = .ok (.aload_n 0, 1) := by decide +kernel
theorem dX5_copyFrom_28 : decode cX5_copyFrom 28 = .ok (.getfield 25, 3) := by decide +kernel
theorem dX5_copyFrom_31 : decode cX5_copyFrom 31 = .ok (.iconst 0, 1) := by decide +kernel
theorem dX5_copyFrom_32 : decode cX5_copyFrom 32 = .ok (.iconst 3, 1) := by decide +kernel
theorem dX5_copyFrom_33 : decode cX5_copyFrom 33 = .ok (.invokestatic 53, 3) := by decide +kernel
theorem dX5_copyFrom_36 : decode cX5_copyFrom 36 = .ok (.aload_n 0, 1) := by decide +kernel
theorem dX5_copyFrom_37 : decode cX5_copyFrom 37 = .ok (.aload_n 1, 1) := by decide +kernel
theorem dX5_copyFrom_38 : decode cX5_copyFrom 38 = .ok (.getfield 29, 3) := by decide +kernel
theorem dX5_copyFrom_41 : decode cX5_copyFrom 41 = .ok (.putfield 29, 3) := by decide +kernel
theorem dX5_copyFrom_44 : decode cX5_copyFrom 44 = .ok (.aload_n 0, 1) := by decide +kernel
theorem dX5_copyFrom_45 : decode cX5_copyFrom 45 = .ok (.aload_n 1, 1) := by decide +kernel
theorem dX5_copyFrom_46 : decode cX5_copyFrom 46 = .ok (.getfield 33, 3) := by decide +kernel
theorem dX5_copyFrom_49 : decode cX5_copyFrom 49 = .ok (.putfield 33, 3) := by decide +kernel
theorem dX5_copyFrom_52 : decode cX5_copyFrom 52 = .ok (.aload_n 0, 1) := by decide +kernel
theorem dX5_copyFrom_53 : decode cX5_copyFrom 53 = .ok (.aload_n 1, 1) := by decide +kernel
theorem dX5_copyFrom_54 : decode cX5_copyFrom 54 = .ok (.getfield 36, 3) := by decide +kernel
theorem dX5_copyFrom_57 : decode cX5_copyFrom 57 = .ok (.putfield 36, 3) := by decide +kernel
theorem dX5_copyFrom_60 : decode cX5_copyFrom 60 = .ok (.aload_n 0, 1) := by decide +kernel
theorem dX5_copyFrom_61 : decode cX5_copyFrom 61 = .ok (.aload_n 1, 1) := by decide +kernel
theorem dX5_copyFrom_62 : decode cX5_copyFrom 62 = .ok (.getfield 39, 3) := by decide +kernel
theorem dX5_copyFrom_65 : decode cX5_copyFrom 65 = .ok (.putfield 39, 3) := by decide +kernel
theorem dX5_copyFrom_68 : decode cX5_copyFrom 68 = .ok (.return_, 1) := by decide +kernel
theorem dX5_reasonAgainst_0 : decode cX5_reasonAgainst 0 = .ok (.aload_n 0, 1) := by decide +kernel
theorem dX5_reasonAgainst_1 : decode cX5_reasonAgainst 1 = .ok (.iload_n 1, 1) := by decide +kernel
theorem dX5_reasonAgainst_2 : decode cX5_reasonAgainst 2 = .ok (.iload_n 2, 1) := by decide +kernel
theorem dX5_reasonAgainst_3 : decode cX5_reasonAgainst 3 = .ok (.invokevirtual 59, 3) := by decide +kernel
theorem dX5_reasonAgainst_6 : decode cX5_reasonAgainst 6 = .ok (.istore 5, 2) := by decide +kernel
theorem dX5_reasonAgainst_8 : decode cX5_reasonAgainst 8 = .ok (.iload 5, 2) := by decide +kernel
theorem dX5_reasonAgainst_10 : decode cX5_reasonAgainst 10 = .ok (.ifCond .eq 6, 3) := by decide +kernel
theorem dX5_reasonAgainst_13 : decode cX5_reasonAgainst 13 = .ok (.iload 5, 2) := by decide +kernel
theorem dX5_reasonAgainst_15 : decode cX5_reasonAgainst 15 = .ok (.ireturn, 1) := by decide +kernel
theorem dX5_reasonAgainst_16 : decode cX5_reasonAgainst 16 = .ok (.aload_n 0, 1) := by decide +kernel
theorem dX5_reasonAgainst_17 : decode cX5_reasonAgainst 17 = .ok (.aload_n 0, 1) := by decide +kernel
theorem dX5_reasonAgainst_18 : decode cX5_reasonAgainst 18 = .ok (.getfield 12, 3) := by decide +kernel
theorem dX5_reasonAgainst_21 : decode cX5_reasonAgainst 21 = .ok (.getfield 63, 3) := by decide +kernel
theorem dX5_reasonAgainst_24 : decode cX5_reasonAgainst 24 = .ok (.iload_n 2, 1) := by decide +kernel
theorem dX5_reasonAgainst_25 : decode cX5_reasonAgainst 25 = .ok (.iaload, 1) := by decide +kernel
theorem dX5_reasonAgainst_26 : decode cX5_reasonAgainst 26 = .ok (.iload_n 3, 1) := by decide +kernel
theorem dX5_reasonAgainst_27 : decode cX5_reasonAgainst 27 = .ok (.iload 4, 2) := by decide +kernel
theorem dX5_reasonAgainst_29 : decode cX5_reasonAgainst 29 = .ok (.iconst (-1), 1) := by decide +kernel
theorem dX5_reasonAgainst_30 : decode cX5_reasonAgainst 30 = .ok (.invokevirtual 66, 3) := by decide +kernel
theorem dX5_reasonAgainst_33 : decode cX5_reasonAgainst 33 = .ok (.ifCond .eq 5, 3) := by decide +kernel
theorem dX5_reasonAgainst_36 : decode cX5_reasonAgainst 36 = .ok (.iconst 4, 1) := by decide +kernel
theorem dX5_reasonAgainst_37 : decode cX5_reasonAgainst 37 = .ok (.ireturn, 1) := by decide +kernel
theorem dX5_reasonAgainst_38 : decode cX5_reasonAgainst 38 = .ok (.aload_n 0, 1) := by decide +kernel
theorem dX5_reasonAgainst_39 : decode cX5_reasonAgainst 39 = .ok (.getfield 21, 3) := by decide +kernel
theorem dX5_reasonAgainst_42 : decode cX5_reasonAgainst 42 = .ok (.invokevirtual 70, 3) := by decide +kernel
theorem dX5_reasonAgainst_45 : decode cX5_reasonAgainst 45 = .ok (.ifCond .eq 7, 3) := by decide +kernel
theorem dX5_reasonAgainst_48 : decode cX5_reasonAgainst 48 = .ok (.iconst 5, 1) := by decide +kernel
theorem dX5_reasonAgainst_49 : decode cX5_reasonAgainst 49 = .ok (.goto 4, 3) := by decide +kernel
theorem dX5_reasonAgainst_52 : decode cX5_reasonAgainst 52 = .ok (.iconst 0, 1) := by decide +kernel
theorem dX5_reasonAgainst_53 : decode cX5_reasonAgainst 53 = .ok (.ireturn, 1) := by decide +kernel
theorem dX5_reasonAgainstAnyName_0 : decode cX5_reasonAgainstAnyName 0 = .ok (.iload_n 1, 1) := by decide +kernel
theorem dX5_reasonAgainstAnyName_1 : decode cX5_reasonAgainstAnyName 1 = .ok (.iload_n 2, 1) := by decide +kernel
theorem dX5_reasonAgainstAnyName_2 : decode cX5_reasonAgainstAnyName 2 = .ok (.if_icmp .ne 5, 3) := by decide +kernel
theorem dX5_reasonAgainstAnyName_5 : decode cX5_reasonAgainstAnyName 5 = .ok (.iconst 1, 1) := by decide +kernel
theorem dX5_reasonAgainstAnyName_6 : decode cX5_reasonAgainstAnyName 6 = .ok (.ireturn, 1) := by decide +kernel
theorem dX5_reasonAgainstAnyName_7 : decode cX5_reasonAgainstAnyName 7 = .ok (.aload_n 0, 1) := by decide +kernel
theorem dX5_reasonAgainstAnyName_8 : decode cX5_reasonAgainstAnyName 8 = .ok (.getfield 12, 3) := by decide +kernel
theorem dX5_reasonAgainstAnyName_11 : decode cX5_reasonAgainstAnyName 11 = .ok (.iload_n 1, 1) := by decide +kernel
theorem dX5_reasonAgainstAnyName_12 : decode cX5_reasonAgainstAnyName 12 = .ok (.iload_n 2, 1) := by decide +kernel
theorem dX5_reasonAgainstAnyName_13 : decode cX5_reasonAgainstAnyName 13 = .ok (.invokevirtual 74, 3) := by decide +kernel
theorem dX5_reasonAgainstAnyName_16 : decode cX5_reasonAgainstAnyName 16 = .ok (.ifCond .ne 26, 3) := by decide +kernel
theorem dX5_reasonAgainstAnyName_19 : decode cX5_reasonAgainstAnyName 19 = .ok (.aload_n 0, 1) := by decide +kernel
theorem dX5_reasonAgainstAnyName_20 : decode cX5_reasonAgainstAnyName 20 = .ok (.getfield 12, 3) := by decide +kernel
theorem dX5_reasonAgainstAnyName_23 : decode cX5_reasonAgainstAnyName 23 = .ok (.getfield 63, 3) := by decide +kernel
theorem dX5_reasonAgainstAnyName_26 : decode cX5_reasonAgainstAnyName 26 = .ok (.iload_n 1, 1) := by decide +kernel
theorem dX5_reasonAgainstAnyName_27 : decode cX5_reasonAgainstAnyName 27 = .ok (.iaload, 1) := by decide +kernel
theorem dX5_reasonAgainstAnyName_28 : decode cX5_reasonAgainstAnyName 28 = .ok (.aload_n 0, 1) := by decide +kernel
theorem dX5_reasonAgainstAnyName_29 : decode cX5_reasonAgainstAnyName 29 = .ok (.getfield 12, 3) := by decide +kernel
theorem dX5_reasonAgainstAnyName_32 : decode cX5_reasonAgainstAnyName 32 = .ok (.getfield 63, 3) := by decide +kernel
theorem dX5_reasonAgainstAnyName_35 : decode cX5_reasonAgainstAnyName 35 = .ok (.iload_n 2, 1) := by decide +kernel
theorem dX5_reasonAgainstAnyName_36 : decode cX5_reasonAgainstAnyName 36 = .ok (.iaload, 1) := by decide +kernel
theorem dX5_reasonAgainstAnyName_37 : decode cX5_reasonAgainstAnyName 37 = .ok (.if_icmp .eq 5, 3) := by decide +kernel
theorem dX5_reasonAgainstAnyName_40 : decode cX5_reasonAgainstAnyName 40 = .ok (.iconst 2, 1) := by decide +kernel
theorem dX5_reasonAgainstAnyName_41 : decode cX5_reasonAgainstAnyName 41 = .ok (.ireturn, 1) := by decide +kernel
theorem dX5_reasonAgainstAnyName_42 : decode cX5_reasonAgainstAnyName 42 = .ok (.aload_n 0, 1) := by decide +kernel
theorem dX5_reasonAgainstAnyName_43 : decode cX5_reasonAgainstAnyName 43 = .ok (.getfield 21, 3) := by decide +kernel
theorem dX5_reasonAgainstAnyName_46 : decode cX5_reasonAgainstAnyName 46 = .ok (.iload_n 2, 1) := by decide +kernel
theorem dX5_reasonAgainstAnyName_47 : decode cX5_reasonAgainstAnyName 47 = .ok (.invokevirtual 78, 3) := by decide +kernel
theorem dX5_reasonAgainstAnyName_50 : decode cX5_reasonAgainstAnyName 50 = .ok (.iconst 3, 1) := by decide +kernel
theorem dX5_reasonAgainstAnyName_51 : decode cX5_reasonAgainstAnyName 51 = .ok (.if_icmp .lt 7, 3) := by decide +kernel
theorem dX5_reasonAgainstAnyName_54 : decode cX5_reasonAgainstAnyName 54 = .ok (.iconst 3, 1) := by decide +kernel
theorem dX5_reasonAgainstAnyName_55 : decode cX5_reasonAgainstAnyName 55 = .ok (.goto 4, 3) := by decide +kernel
theorem dX5_reasonAgainstAnyName_58 : decode cX5_reasonAgainstAnyName 58 = .ok (.iconst 0, 1) := by decide +kernel
theorem dX5_reasonAgainstAnyName_59 : decode cX5_reasonAgainstAnyName 59 = .ok (.ireturn, 1) := by decide +kernel
theorem dX5_isTaken_0 : decode cX5_isTaken 0 = .ok (.iconst 0, 1) := by decide +kernel
theorem dX5_isTaken_1 : decode cX5_isTaken 1 = .ok (.istore 5, 2) := by decide +kernel
theorem dX5_isTaken_3 : decode cX5_isTaken 3 = .ok (.iload 5, 2) := by decide +kernel
theorem dX5_isTaken_5 : decode cX5_isTaken 5 = .ok (.aload_n 0, 1) := by decide +kernel
theorem dX5_isTaken_6 : decode cX5_isTaken 6 = .ok (.getfield 21, 3) := by decide +kernel
theorem dX5_isTaken_9 : decode cX5_isTaken 9 = .ok (.getfield 45, 3) := by decide +kernel
theorem dX5_isTaken_12 : decode cX5_isTaken 12 = .ok (.if_icmp .ge 58, 3) := by decide +kernel
theorem dX5_isTaken_15 : decode cX5_isTaken 15 = .ok (.aload_n 0, 1) := by decide +kernel
theorem dX5_isTaken_16 : decode cX5_isTaken 16 = .ok (.getfield 21, 3) := by decide +kernel
theorem dX5_isTaken_19 : decode cX5_isTaken 19 = .ok (.getfield 82, 3) := by decide +kernel
theorem dX5_isTaken_22 : decode cX5_isTaken 22 = .ok (.iload 5, 2) := by decide +kernel
theorem dX5_isTaken_24 : decode cX5_isTaken 24 = .ok (.iaload, 1) := by decide +kernel
theorem dX5_isTaken_25 : decode cX5_isTaken 25 = .ok (.istore 6, 2) := by decide +kernel
theorem dX5_isTaken_27 : decode cX5_isTaken 27 = .ok (.iload 6, 2) := by decide +kernel
theorem dX5_isTaken_29 : decode cX5_isTaken 29 = .ok (.iload 4, 2) := by decide +kernel
theorem dX5_isTaken_31 : decode cX5_isTaken 31 = .ok (.if_icmp .eq 33, 3) := by decide +kernel
theorem dX5_isTaken_34 : decode cX5_isTaken 34 = .ok (.aload_n 0, 1) := by decide +kernel
theorem dX5_isTaken_35 : decode cX5_isTaken 35 = .ok (.getfield 12, 3) := by decide +kernel
theorem dX5_isTaken_38 : decode cX5_isTaken 38 = .ok (.getfield 63, 3) := by decide +kernel
theorem dX5_isTaken_41 : decode cX5_isTaken 41 = .ok (.iload 6, 2) := by decide +kernel
theorem dX5_isTaken_43 : decode cX5_isTaken 43 = .ok (.iaload, 1) := by decide +kernel
theorem dX5_isTaken_44 : decode cX5_isTaken 44 = .ok (.iload_n 1, 1) := by decide +kernel
theorem dX5_isTaken_45 : decode cX5_isTaken 45 = .ok (.if_icmp .ne 19, 3) := by decide +kernel
theorem dX5_isTaken_48 : decode cX5_isTaken 48 = .ok (.aload_n 0, 1) := by decide +kernel
theorem dX5_isTaken_49 : decode cX5_isTaken 49 = .ok (.getfield 21, 3) := by decide +kernel
theorem dX5_isTaken_52 : decode cX5_isTaken 52 = .ok (.iload 5, 2) := by decide +kernel
theorem dX5_isTaken_54 : decode cX5_isTaken 54 = .ok (.iload_n 2, 1) := by decide +kernel
theorem dX5_isTaken_55 : decode cX5_isTaken 55 = .ok (.iload_n 3, 1) := by decide +kernel
theorem dX5_isTaken_56 : decode cX5_isTaken 56 = .ok (.invokevirtual 85, 3) := by decide +kernel
theorem dX5_isTaken_59 : decode cX5_isTaken 59 = .ok (.ifCond .eq 5, 3) := by decide +kernel
theorem dX5_isTaken_62 : decode cX5_isTaken 62 = .ok (.iconst 1, 1) := by decide +kernel
theorem dX5_isTaken_63 : decode cX5_isTaken 63 = .ok (.ireturn, 1) := by decide +kernel
theorem dX5_isTaken_64 : decode cX5_isTaken 64 = .ok (.iinc 5 1, 3) := by decide +kernel
theorem dX5_isTaken_67 : decode cX5_isTaken 67 = .ok (.goto (-64), 3) := by decide +kernel
theorem dX5_isTaken_70 : decode cX5_isTaken 70 = .ok (.iconst 0, 1) := by decide +kernel
theorem dX5_isTaken_71 : decode cX5_isTaken 71 = .ok (.ireturn, 1) := by decide +kernel
theorem dX5_isKeptFrom_0 : decode cX5_isKeptFrom 0 = .ok (.iconst 0, 1) := by decide +kernel
theorem dX5_isKeptFrom_1 : decode cX5_isKeptFrom 1 = .ok (.istore_n 3, 1) := by decide +kernel
theorem dX5_isKeptFrom_2 : decode cX5_isKeptFrom 2 = .ok (.iload_n 3, 1) := by decide +kernel
theorem dX5_isKeptFrom_3 : decode cX5_isKeptFrom 3 = .ok (.aload_n 0, 1) := by decide +kernel
theorem dX5_isKeptFrom_4 : decode cX5_isKeptFrom 4 = .ok (.getfield 21, 3) := by decide +kernel
theorem dX5_isKeptFrom_7 : decode cX5_isKeptFrom 7 = .ok (.getfield 45, 3) := by decide +kernel
theorem dX5_isKeptFrom_10 : decode cX5_isKeptFrom 10 = .ok (.if_icmp .ge 62, 3) := by decide +kernel
theorem dX5_isKeptFrom_13 : decode cX5_isKeptFrom 13 = .ok (.aload_n 0, 1) := by decide +kernel
theorem dX5_isKeptFrom_14 : decode cX5_isKeptFrom 14 = .ok (.getfield 21, 3) := by decide +kernel
theorem dX5_isKeptFrom_17 : decode cX5_isKeptFrom 17 = .ok (.getfield 82, 3) := by decide +kernel
theorem dX5_isKeptFrom_20 : decode cX5_isKeptFrom 20 = .ok (.iload_n 3, 1) := by decide +kernel
theorem dX5_isKeptFrom_21 : decode cX5_isKeptFrom 21 = .ok (.iaload, 1) := by decide +kernel
theorem dX5_isKeptFrom_22 : decode cX5_isKeptFrom 22 = .ok (.iload_n 1, 1) := by decide +kernel
theorem dX5_isKeptFrom_23 : decode cX5_isKeptFrom 23 = .ok (.if_icmp .ne 43, 3) := by decide +kernel
theorem dX5_isKeptFrom_26 : decode cX5_isKeptFrom 26 = .ok (.aload_n 0, 1) := by decide +kernel
theorem dX5_isKeptFrom_27 : decode cX5_isKeptFrom 27 = .ok (.getfield 21, 3) := by decide +kernel
theorem dX5_isKeptFrom_30 : decode cX5_isKeptFrom 30 = .ok (.iload_n 3, 1) := by decide +kernel
theorem dX5_isKeptFrom_31 : decode cX5_isKeptFrom 31 = .ok (.invokevirtual 89, 3) := by decide +kernel
theorem dX5_isKeptFrom_34 : decode cX5_isKeptFrom 34 = .ok (.ifCond .eq 32, 3) := by decide +kernel
theorem dX5_isKeptFrom_37 : decode cX5_isKeptFrom 37 = .ok (.aload_n 0, 1) := by decide +kernel
theorem dX5_isKeptFrom_38 : decode cX5_isKeptFrom 38 = .ok (.iload_n 2, 1) := by decide +kernel
theorem dX5_isKeptFrom_39 : decode cX5_isKeptFrom 39 = .ok (.aload_n 0, 1) := by decide +kernel
theorem dX5_isKeptFrom_40 : decode cX5_isKeptFrom 40 = .ok (.getfield 21, 3) := by decide +kernel
theorem dX5_isKeptFrom_43 : decode cX5_isKeptFrom 43 = .ok (.getfield 93, 3) := by decide +kernel
theorem dX5_isKeptFrom_46 : decode cX5_isKeptFrom 46 = .ok (.iload_n 3, 1) := by decide +kernel
theorem dX5_isKeptFrom_47 : decode cX5_isKeptFrom 47 = .ok (.iaload, 1) := by decide +kernel
theorem dX5_isKeptFrom_48 : decode cX5_isKeptFrom 48 = .ok (.aload_n 0, 1) := by decide +kernel
theorem dX5_isKeptFrom_49 : decode cX5_isKeptFrom 49 = .ok (.getfield 21, 3) := by decide +kernel
theorem dX5_isKeptFrom_52 : decode cX5_isKeptFrom 52 = .ok (.getfield 96, 3) := by decide +kernel
theorem dX5_isKeptFrom_55 : decode cX5_isKeptFrom 55 = .ok (.iload_n 3, 1) := by decide +kernel
theorem dX5_isKeptFrom_56 : decode cX5_isKeptFrom 56 = .ok (.iaload, 1) := by decide +kernel
theorem dX5_isKeptFrom_57 : decode cX5_isKeptFrom 57 = .ok (.iload_n 1, 1) := by decide +kernel
theorem dX5_isKeptFrom_58 : decode cX5_isKeptFrom 58 = .ok (.invokevirtual 66, 3) := by decide +kernel
theorem dX5_isKeptFrom_61 : decode cX5_isKeptFrom 61 = .ok (.ifCond .eq 5, 3) := by decide +kernel
theorem dX5_isKeptFrom_64 : decode cX5_isKeptFrom 64 = .ok (.iconst 1, 1) := by decide +kernel
theorem dX5_isKeptFrom_65 : decode cX5_isKeptFrom 65 = .ok (.ireturn, 1) := by decide +kernel
theorem dX5_isKeptFrom_66 : decode cX5_isKeptFrom 66 = .ok (.iinc 3 1, 3) := by decide +kernel
theorem dX5_isKeptFrom_69 : decode cX5_isKeptFrom 69 = .ok (.goto (-67), 3) := by decide +kernel
theorem dX5_isKeptFrom_72 : decode cX5_isKeptFrom 72 = .ok (.iconst 0, 1) := by decide +kernel
theorem dX5_isKeptFrom_73 : decode cX5_isKeptFrom 73 = .ok (.ireturn, 1) := by decide +kernel
theorem dX5_meantByPeople_0 : decode cX5_meantByPeople 0 = .ok (.iconst 0, 1) := by decide +kernel
theorem dX5_meantByPeople_1 : decode cX5_meantByPeople 1 = .ok (.istore 4, 2) := by decide +kernel
theorem dX5_meantByPeople_3 : decode cX5_meantByPeople 3 = .ok (.iload 4, 2) := by decide +kernel
theorem dX5_meantByPeople_5 : decode cX5_meantByPeople 5 = .ok (.aload_n 0, 1) := by decide +kernel
theorem dX5_meantByPeople_6 : decode cX5_meantByPeople 6 = .ok (.getfield 12, 3) := by decide +kernel
theorem dX5_meantByPeople_9 : decode cX5_meantByPeople 9 = .ok (.getfield 42, 3) := by decide +kernel
theorem dX5_meantByPeople_12 : decode cX5_meantByPeople 12 = .ok (.if_icmp .ge 41, 3) := by decide +kernel
theorem dX5_meantByPeople_15 : decode cX5_meantByPeople 15 = .ok (.aload_n 0, 1) := by decide +kernel
theorem dX5_meantByPeople_16 : decode cX5_meantByPeople 16 = .ok (.getfield 12, 3) := by decide +kernel
theorem dX5_meantByPeople_19 : decode cX5_meantByPeople 19 = .ok (.getfield 63, 3) := by decide +kernel
theorem dX5_meantByPeople_22 : decode cX5_meantByPeople 22 = .ok (.iload 4, 2) := by decide +kernel
theorem dX5_meantByPeople_24 : decode cX5_meantByPeople 24 = .ok (.iaload, 1) := by decide +kernel
theorem dX5_meantByPeople_25 : decode cX5_meantByPeople 25 = .ok (.iload_n 1, 1) := by decide +kernel
theorem dX5_meantByPeople_26 : decode cX5_meantByPeople 26 = .ok (.if_icmp .ne 21, 3) := by decide +kernel
theorem dX5_meantByPeople_29 : decode cX5_meantByPeople 29 = .ok (.aload_n 0, 1) := by decide +kernel
theorem dX5_meantByPeople_30 : decode cX5_meantByPeople 30 = .ok (.getfield 21, 3) := by decide +kernel
theorem dX5_meantByPeople_33 : decode cX5_meantByPeople 33 = .ok (.iload 4, 2) := by decide +kernel
theorem dX5_meantByPeople_35 : decode cX5_meantByPeople 35 = .ok (.iload_n 2, 1) := by decide +kernel
theorem dX5_meantByPeople_36 : decode cX5_meantByPeople 36 = .ok (.iload_n 3, 1) := by decide +kernel
theorem dX5_meantByPeople_37 : decode cX5_meantByPeople 37 = .ok (.invokevirtual 99, 3) := by decide +kernel
theorem dX5_meantByPeople_40 : decode cX5_meantByPeople 40 = .ok (.iconst (-1), 1) := by decide +kernel
theorem dX5_meantByPeople_41 : decode cX5_meantByPeople 41 = .ok (.if_icmp .eq 6, 3) := by decide +kernel
theorem dX5_meantByPeople_44 : decode cX5_meantByPeople 44 = .ok (.iload 4, 2) := by decide +kernel
theorem dX5_meantByPeople_46 : decode cX5_meantByPeople 46 = .ok (.ireturn, 1) := by decide +kernel
theorem dX5_meantByPeople_47 : decode cX5_meantByPeople 47 = .ok (.iinc 4 1, 3) := by decide +kernel
theorem dX5_meantByPeople_50 : decode cX5_meantByPeople 50 = .ok (.goto (-47), 3) := by decide +kernel
theorem dX5_meantByPeople_53 : decode cX5_meantByPeople 53 = .ok (.iconst 0, 1) := by decide +kernel
theorem dX5_meantByPeople_54 : decode cX5_meantByPeople 54 = .ok (.istore 4, 2) := by decide +kernel
theorem dX5_meantByPeople_56 : decode cX5_meantByPeople 56 = .ok (.iload 4, 2) := by decide +kernel
theorem dX5_meantByPeople_58 : decode cX5_meantByPeople 58 = .ok (.aload_n 0, 1) := by decide +kernel
theorem dX5_meantByPeople_59 : decode cX5_meantByPeople 59 = .ok (.getfield 12, 3) := by decide +kernel
theorem dX5_meantByPeople_62 : decode cX5_meantByPeople 62 = .ok (.getfield 42, 3) := by decide +kernel
theorem dX5_meantByPeople_65 : decode cX5_meantByPeople 65 = .ok (.if_icmp .ge 38, 3) := by decide +kernel
theorem dX5_meantByPeople_68 : decode cX5_meantByPeople 68 = .ok (.aload_n 0, 1) := by decide +kernel
theorem dX5_meantByPeople_69 : decode cX5_meantByPeople 69 = .ok (.getfield 12, 3) := by decide +kernel
theorem dX5_meantByPeople_72 : decode cX5_meantByPeople 72 = .ok (.getfield 63, 3) := by decide +kernel
theorem dX5_meantByPeople_75 : decode cX5_meantByPeople 75 = .ok (.iload 4, 2) := by decide +kernel
theorem dX5_meantByPeople_77 : decode cX5_meantByPeople 77 = .ok (.iaload, 1) := by decide +kernel
theorem dX5_meantByPeople_78 : decode cX5_meantByPeople 78 = .ok (.iload_n 1, 1) := by decide +kernel
theorem dX5_meantByPeople_79 : decode cX5_meantByPeople 79 = .ok (.if_icmp .ne 18, 3) := by decide +kernel
theorem dX5_meantByPeople_82 : decode cX5_meantByPeople 82 = .ok (.aload_n 0, 1) := by decide +kernel
theorem dX5_meantByPeople_83 : decode cX5_meantByPeople 83 = .ok (.iload 4, 2) := by decide +kernel
theorem dX5_meantByPeople_85 : decode cX5_meantByPeople 85 = .ok (.iload_n 2, 1) := by decide +kernel
theorem dX5_meantByPeople_86 : decode cX5_meantByPeople 86 = .ok (.iload_n 3, 1) := by decide +kernel
theorem dX5_meantByPeople_87 : decode cX5_meantByPeople 87 = .ok (.invokevirtual 103, 3) := by decide +kernel
theorem dX5_meantByPeople_90 : decode cX5_meantByPeople 90 = .ok (.iconst (-1), 1) := by decide +kernel
theorem dX5_meantByPeople_91 : decode cX5_meantByPeople 91 = .ok (.if_icmp .eq 6, 3) := by decide +kernel
theorem dX5_meantByPeople_94 : decode cX5_meantByPeople 94 = .ok (.iload 4, 2) := by decide +kernel
theorem dX5_meantByPeople_96 : decode cX5_meantByPeople 96 = .ok (.ireturn, 1) := by decide +kernel
theorem dX5_meantByPeople_97 : decode cX5_meantByPeople 97 = .ok (.iinc 4 1, 3) := by decide +kernel
theorem dX5_meantByPeople_100 : decode cX5_meantByPeople 100 = .ok (.goto (-44), 3) := by decide +kernel
theorem dX5_meantByPeople_103 : decode cX5_meantByPeople 103 = .ok (.iconst (-1), 1) := by decide +kernel
theorem dX5_meantByPeople_104 : decode cX5_meantByPeople 104 = .ok (.ireturn, 1) := by decide +kernel
theorem dX5_firstBrotherNamed_0 : decode cX5_firstBrotherNamed 0 = .ok (.iconst 0, 1) := by decide +kernel
theorem dX5_firstBrotherNamed_1 : decode cX5_firstBrotherNamed 1 = .ok (.istore 4, 2) := by decide +kernel
theorem dX5_firstBrotherNamed_3 : decode cX5_firstBrotherNamed 3 = .ok (.iload 4, 2) := by decide +kernel
theorem dX5_firstBrotherNamed_5 : decode cX5_firstBrotherNamed 5 = .ok (.aload_n 0, 1) := by decide +kernel
theorem dX5_firstBrotherNamed_6 : decode cX5_firstBrotherNamed 6 = .ok (.getfield 12, 3) := by decide +kernel
theorem dX5_firstBrotherNamed_9 : decode cX5_firstBrotherNamed 9 = .ok (.getfield 42, 3) := by decide +kernel
theorem dX5_firstBrotherNamed_12 : decode cX5_firstBrotherNamed 12 = .ok (.if_icmp .ge 40, 3) := by decide +kernel
theorem dX5_firstBrotherNamed_15 : decode cX5_firstBrotherNamed 15 = .ok (.aload_n 0, 1) := by decide +kernel
theorem dX5_firstBrotherNamed_16 : decode cX5_firstBrotherNamed 16 = .ok (.getfield 12, 3) := by decide +kernel
theorem dX5_firstBrotherNamed_19 : decode cX5_firstBrotherNamed 19 = .ok (.iload_n 1, 1) := by decide +kernel
theorem dX5_firstBrotherNamed_20 : decode cX5_firstBrotherNamed 20 = .ok (.iload 4, 2) := by decide +kernel
theorem dX5_firstBrotherNamed_22 : decode cX5_firstBrotherNamed 22 = .ok (.invokevirtual 74, 3) := by decide +kernel
theorem dX5_firstBrotherNamed_25 : decode cX5_firstBrotherNamed 25 = .ok (.ifCond .eq 21, 3) := by decide +kernel
theorem dX5_firstBrotherNamed_28 : decode cX5_firstBrotherNamed 28 = .ok (.aload_n 0, 1) := by decide +kernel
theorem dX5_firstBrotherNamed_29 : decode cX5_firstBrotherNamed 29 = .ok (.getfield 21, 3) := by decide +kernel
theorem dX5_firstBrotherNamed_32 : decode cX5_firstBrotherNamed 32 = .ok (.iload 4, 2) := by decide +kernel
theorem dX5_firstBrotherNamed_34 : decode cX5_firstBrotherNamed 34 = .ok (.iload_n 2, 1) := by decide +kernel
theorem dX5_firstBrotherNamed_35 : decode cX5_firstBrotherNamed 35 = .ok (.iload_n 3, 1) := by decide +kernel
theorem dX5_firstBrotherNamed_36 : decode cX5_firstBrotherNamed 36 = .ok (.invokevirtual 99, 3) := by decide +kernel
theorem dX5_firstBrotherNamed_39 : decode cX5_firstBrotherNamed 39 = .ok (.iconst (-1), 1) := by decide +kernel
theorem dX5_firstBrotherNamed_40 : decode cX5_firstBrotherNamed 40 = .ok (.if_icmp .eq 6, 3) := by decide +kernel
theorem dX5_firstBrotherNamed_43 : decode cX5_firstBrotherNamed 43 = .ok (.iload 4, 2) := by decide +kernel
theorem dX5_firstBrotherNamed_45 : decode cX5_firstBrotherNamed 45 = .ok (.ireturn, 1) := by decide +kernel
theorem dX5_firstBrotherNamed_46 : decode cX5_firstBrotherNamed 46 = .ok (.iinc 4 1, 3) := by decide +kernel
theorem dX5_firstBrotherNamed_49 : decode cX5_firstBrotherNamed 49 = .ok (.goto (-46), 3) := by decide +kernel
theorem dX5_firstBrotherNamed_52 : decode cX5_firstBrotherNamed 52 = .ok (.iconst (-1), 1) := by decide +kernel
theorem dX5_firstBrotherNamed_53 : decode cX5_firstBrotherNamed 53 = .ok (.ireturn, 1) := by decide +kernel
theorem dX5_meantByNames_0 : decode cX5_meantByNames 0 = .ok (.iconst (-1), 1) := by decide +kernel
theorem dX5_meantByNames_1 : decode cX5_meantByNames 1 = .ok (.istore 4, 2) := by decide +kernel
theorem dX5_meantByNames_3 : decode cX5_meantByNames 3 = .ok (.iconst 0, 1) := by decide +kernel
theorem dX5_meantByNames_4 : decode cX5_meantByNames 4 = .ok (.istore 5, 2) := by decide +kernel
theorem dX5_meantByNames_6 : decode cX5_meantByNames 6 = .ok (.iload 5, 2) := by decide +kernel
theorem dX5_meantByNames_8 : decode cX5_meantByNames 8 = .ok (.aload_n 0, 1) := by decide +kernel
theorem dX5_meantByNames_9 : decode cX5_meantByNames 9 = .ok (.getfield 21, 3) := by decide +kernel
theorem dX5_meantByNames_12 : decode cX5_meantByNames 12 = .ok (.getfield 45, 3) := by decide +kernel
theorem dX5_meantByNames_15 : decode cX5_meantByNames 15 = .ok (.if_icmp .ge 87, 3) := by decide +kernel
theorem dX5_meantByNames_18 : decode cX5_meantByNames 18 = .ok (.aload_n 0, 1) := by decide +kernel
theorem dX5_meantByNames_19 : decode cX5_meantByNames 19 = .ok (.getfield 21, 3) := by decide +kernel
theorem dX5_meantByNames_22 : decode cX5_meantByNames 22 = .ok (.iload 5, 2) := by decide +kernel
theorem dX5_meantByNames_24 : decode cX5_meantByNames 24 = .ok (.iload_n 2, 1) := by decide +kernel
theorem dX5_meantByNames_25 : decode cX5_meantByNames 25 = .ok (.iload_n 3, 1) := by decide +kernel
theorem dX5_meantByNames_26 : decode cX5_meantByNames 26 = .ok (.invokevirtual 85, 3) := by decide +kernel
theorem dX5_meantByNames_29 : decode cX5_meantByNames 29 = .ok (.ifCond .eq 67, 3) := by decide +kernel
theorem dX5_meantByNames_32 : decode cX5_meantByNames 32 = .ok (.aload_n 0, 1) := by decide +kernel
theorem dX5_meantByNames_33 : decode cX5_meantByNames 33 = .ok (.getfield 21, 3) := by decide +kernel
theorem dX5_meantByNames_36 : decode cX5_meantByNames 36 = .ok (.getfield 82, 3) := by decide +kernel
theorem dX5_meantByNames_39 : decode cX5_meantByNames 39 = .ok (.iload 5, 2) := by decide +kernel
theorem dX5_meantByNames_41 : decode cX5_meantByNames 41 = .ok (.iaload, 1) := by decide +kernel
theorem dX5_meantByNames_42 : decode cX5_meantByNames 42 = .ok (.istore 6, 2) := by decide +kernel
theorem dX5_meantByNames_44 : decode cX5_meantByNames 44 = .ok (.aload_n 0, 1) := by decide +kernel
theorem dX5_meantByNames_45 : decode cX5_meantByNames 45 = .ok (.getfield 12, 3) := by decide +kernel
theorem dX5_meantByNames_48 : decode cX5_meantByNames 48 = .ok (.getfield 63, 3) := by decide +kernel
theorem dX5_meantByNames_51 : decode cX5_meantByNames 51 = .ok (.iload 6, 2) := by decide +kernel
theorem dX5_meantByNames_53 : decode cX5_meantByNames 53 = .ok (.iaload, 1) := by decide +kernel
theorem dX5_meantByNames_54 : decode cX5_meantByNames 54 = .ok (.iload_n 1, 1) := by decide +kernel
theorem dX5_meantByNames_55 : decode cX5_meantByNames 55 = .ok (.if_icmp .ne 6, 3) := by decide +kernel
theorem dX5_meantByNames_58 : decode cX5_meantByNames 58 = .ok (.iload 6, 2) := by decide +kernel
theorem dX5_meantByNames_60 : decode cX5_meantByNames 60 = .ok (.ireturn, 1) := by decide +kernel
theorem dX5_meantByNames_61 : decode cX5_meantByNames 61 = .ok (.aload_n 0, 1) := by decide +kernel
theorem dX5_meantByNames_62 : decode cX5_meantByNames 62 = .ok (.getfield 12, 3) := by decide +kernel
theorem dX5_meantByNames_65 : decode cX5_meantByNames 65 = .ok (.iload_n 1, 1) := by decide +kernel
theorem dX5_meantByNames_66 : decode cX5_meantByNames 66 = .ok (.iload 6, 2) := by decide +kernel
theorem dX5_meantByNames_68 : decode cX5_meantByNames 68 = .ok (.invokevirtual 106, 3) := by decide +kernel
theorem dX5_meantByNames_71 : decode cX5_meantByNames 71 = .ok (.istore 7, 2) := by decide +kernel
theorem dX5_meantByNames_73 : decode cX5_meantByNames 73 = .ok (.iload 7, 2) := by decide +kernel
theorem dX5_meantByNames_75 : decode cX5_meantByNames 75 = .ok (.iconst (-1), 1) := by decide +kernel
theorem dX5_meantByNames_76 : decode cX5_meantByNames 76 = .ok (.if_icmp .eq 20, 3) := by decide +kernel
theorem dX5_meantByNames_79 : decode cX5_meantByNames 79 = .ok (.iload 4, 2) := by decide +kernel
theorem dX5_meantByNames_81 : decode cX5_meantByNames 81 = .ok (.iconst (-1), 1) := by decide +kernel
theorem dX5_meantByNames_82 : decode cX5_meantByNames 82 = .ok (.if_icmp .eq 10, 3) := by decide +kernel
theorem dX5_meantByNames_85 : decode cX5_meantByNames 85 = .ok (.iload 7, 2) := by decide +kernel
theorem dX5_meantByNames_87 : decode cX5_meantByNames 87 = .ok (.iload 4, 2) := by decide +kernel
theorem dX5_meantByNames_89 : decode cX5_meantByNames 89 = .ok (.if_icmp .ge 7, 3) := by decide +kernel
theorem dX5_meantByNames_92 : decode cX5_meantByNames 92 = .ok (.iload 7, 2) := by decide +kernel
theorem dX5_meantByNames_94 : decode cX5_meantByNames 94 = .ok (.istore 4, 2) := by decide +kernel
theorem dX5_meantByNames_96 : decode cX5_meantByNames 96 = .ok (.iinc 5 1, 3) := by decide +kernel
theorem dX5_meantByNames_99 : decode cX5_meantByNames 99 = .ok (.goto (-93), 3) := by decide +kernel
theorem dX5_meantByNames_102 : decode cX5_meantByNames 102 = .ok (.iload 4, 2) := by decide +kernel
theorem dX5_meantByNames_104 : decode cX5_meantByNames 104 = .ok (.ireturn, 1) := by decide +kernel
theorem dX5_callFor_0 : decode cX5_callFor 0 = .ok (.iload_n 1, 1) := by decide +kernel
theorem dX5_callFor_1 : decode cX5_callFor 1 = .ok (.invokestatic 109, 3) := by decide +kernel
theorem dX5_callFor_4 : decode cX5_callFor 4 = .ok (.ifCond .eq 21, 3) := by decide +kernel
theorem dX5_callFor_7 : decode cX5_callFor 7 = .ok (.iload_n 2, 1) := by decide +kernel
theorem dX5_callFor_8 : decode cX5_callFor 8 = .ok (.iload_n 3, 1) := by decide +kernel
theorem dX5_callFor_9 : decode cX5_callFor 9 = .ok (.invokestatic 112, 3) := by decide +kernel
theorem dX5_callFor_12 : decode cX5_callFor 12 = .ok (.ifCond .eq 13, 3) := by decide +kernel
theorem dX5_callFor_15 : decode cX5_callFor 15 = .ok (.aload_n 0, 1) := by decide +kernel
theorem dX5_callFor_16 : decode cX5_callFor 16 = .ok (.iload_n 1, 1) := by decide +kernel
theorem dX5_callFor_17 : decode cX5_callFor 17 = .ok (.iload_n 2, 1) := by decide +kernel
theorem dX5_callFor_18 : decode cX5_callFor 18 = .ok (.iload_n 3, 1) := by decide +kernel
theorem dX5_callFor_19 : decode cX5_callFor 19 = .ok (.invokevirtual 117, 3) := by decide +kernel
theorem dX5_callFor_22 : decode cX5_callFor 22 = .ok (.goto 4, 3) := by decide +kernel
theorem dX5_callFor_25 : decode cX5_callFor 25 = .ok (.iconst (-1), 1) := by decide +kernel
theorem dX5_callFor_26 : decode cX5_callFor 26 = .ok (.istore 4, 2) := by decide +kernel
theorem dX5_callFor_28 : decode cX5_callFor 28 = .ok (.iload 4, 2) := by decide +kernel
theorem dX5_callFor_30 : decode cX5_callFor 30 = .ok (.iconst (-1), 1) := by decide +kernel
theorem dX5_callFor_31 : decode cX5_callFor 31 = .ok (.if_icmp .ne 5, 3) := by decide +kernel
theorem dX5_callFor_34 : decode cX5_callFor 34 = .ok (.iconst (-1), 1) := by decide +kernel
theorem dX5_callFor_35 : decode cX5_callFor 35 = .ok (.ireturn, 1) := by decide +kernel
theorem dX5_callFor_36 : decode cX5_callFor 36 = .ok (.aload_n 0, 1) := by decide +kernel
theorem dX5_callFor_37 : decode cX5_callFor 37 = .ok (.getfield 21, 3) := by decide +kernel
theorem dX5_callFor_40 : decode cX5_callFor 40 = .ok (.iload 4, 2) := by decide +kernel
theorem dX5_callFor_42 : decode cX5_callFor 42 = .ok (.iload_n 2, 1) := by decide +kernel
theorem dX5_callFor_43 : decode cX5_callFor 43 = .ok (.iload_n 3, 1) := by decide +kernel
theorem dX5_callFor_44 : decode cX5_callFor 44 = .ok (.invokevirtual 99, 3) := by decide +kernel
theorem dX5_callFor_47 : decode cX5_callFor 47 = .ok (.istore 5, 2) := by decide +kernel
theorem dX5_callFor_49 : decode cX5_callFor 49 = .ok (.iload 5, 2) := by decide +kernel
theorem dX5_callFor_51 : decode cX5_callFor 51 = .ok (.iconst (-1), 1) := by decide +kernel
theorem dX5_callFor_52 : decode cX5_callFor 52 = .ok (.if_icmp .eq 25, 3) := by decide +kernel
theorem dX5_callFor_55 : decode cX5_callFor 55 = .ok (.aload_n 0, 1) := by decide +kernel
theorem dX5_callFor_56 : decode cX5_callFor 56 = .ok (.getfield 21, 3) := by decide +kernel
theorem dX5_callFor_59 : decode cX5_callFor 59 = .ok (.iload 5, 2) := by decide +kernel
theorem dX5_callFor_61 : decode cX5_callFor 61 = .ok (.aload_n 0, 1) := by decide +kernel
theorem dX5_callFor_62 : decode cX5_callFor 62 = .ok (.getfield 29, 3) := by decide +kernel
theorem dX5_callFor_65 : decode cX5_callFor 65 = .ok (.aload_n 0, 1) := by decide +kernel
theorem dX5_callFor_66 : decode cX5_callFor 66 = .ok (.getfield 25, 3) := by decide +kernel
theorem dX5_callFor_69 : decode cX5_callFor 69 = .ok (.iconst 0, 1) := by decide +kernel
theorem dX5_callFor_70 : decode cX5_callFor 70 = .ok (.iaload, 1) := by decide +kernel
theorem dX5_callFor_71 : decode cX5_callFor 71 = .ok (.invokevirtual 120, 3) := by decide +kernel
theorem dX5_callFor_74 : decode cX5_callFor 74 = .ok (.goto 17, 3) := by decide +kernel
theorem dX5_callFor_77 : decode cX5_callFor 77 = .ok (.aload_n 0, 1) := by decide +kernel
theorem dX5_callFor_78 : decode cX5_callFor 78 = .ok (.iload 4, 2) := by decide +kernel
theorem dX5_callFor_80 : decode cX5_callFor 80 = .ok (.aload_n 0, 1) := by decide +kernel
theorem dX5_callFor_81 : decode cX5_callFor 81 = .ok (.iload 4, 2) := by decide +kernel
theorem dX5_callFor_83 : decode cX5_callFor 83 = .ok (.iload_n 2, 1) := by decide +kernel
theorem dX5_callFor_84 : decode cX5_callFor 84 = .ok (.iload_n 3, 1) := by decide +kernel
theorem dX5_callFor_85 : decode cX5_callFor 85 = .ok (.invokevirtual 103, 3) := by decide +kernel
theorem dX5_callFor_88 : decode cX5_callFor 88 = .ok (.invokevirtual 124, 3) := by decide +kernel
theorem dX5_callFor_91 : decode cX5_callFor 91 = .ok (.iload 4, 2) := by decide +kernel
theorem dX5_callFor_93 : decode cX5_callFor 93 = .ok (.ireturn, 1) := by decide +kernel
theorem dX5_mixUp_0 : decode cX5_mixUp 0 = .ok (.aload_n 0, 1) := by decide +kernel
theorem dX5_mixUp_1 : decode cX5_mixUp 1 = .ok (.getfield 12, 3) := by decide +kernel
theorem dX5_mixUp_4 : decode cX5_mixUp 4 = .ok (.iload_n 1, 1) := by decide +kernel
theorem dX5_mixUp_5 : decode cX5_mixUp 5 = .ok (.invokevirtual 128, 3) := by decide +kernel
theorem dX5_mixUp_8 : decode cX5_mixUp 8 = .ok (.ifCond .eq 50, 3) := by decide +kernel
theorem dX5_mixUp_11 : decode cX5_mixUp 11 = .ok (.aload_n 0, 1) := by decide +kernel
theorem dX5_mixUp_12 : decode cX5_mixUp 12 = .ok (.getfield 12, 3) := by decide +kernel
theorem dX5_mixUp_15 : decode cX5_mixUp 15 = .ok (.iload_n 2, 1) := by decide +kernel
theorem dX5_mixUp_16 : decode cX5_mixUp 16 = .ok (.invokevirtual 128, 3) := by decide +kernel
theorem dX5_mixUp_19 : decode cX5_mixUp 19 = .ok (.ifCond .eq 39, 3) := by decide +kernel
theorem dX5_mixUp_22 : decode cX5_mixUp 22 = .ok (.aload_n 0, 1) := by decide +kernel
theorem dX5_mixUp_23 : decode cX5_mixUp 23 = .ok (.getfield 12, 3) := by decide +kernel
theorem dX5_mixUp_26 : decode cX5_mixUp 26 = .ok (.getfield 131, 3) := by decide +kernel
theorem dX5_mixUp_29 : decode cX5_mixUp 29 = .ok (.iload_n 1, 1) := by decide +kernel
theorem dX5_mixUp_30 : decode cX5_mixUp 30 = .ok (.dup2, 1) := by decide +kernel
theorem dX5_mixUp_31 : decode cX5_mixUp 31 = .ok (.iaload, 1) := by decide +kernel
theorem dX5_mixUp_32 : decode cX5_mixUp 32 = .ok (.iconst 1, 1) := by decide +kernel
theorem dX5_mixUp_33 : decode cX5_mixUp 33 = .ok (.iadd, 1) := by decide +kernel
theorem dX5_mixUp_34 : decode cX5_mixUp 34 = .ok (.iastore, 1) := by decide +kernel
theorem dX5_mixUp_35 : decode cX5_mixUp 35 = .ok (.aload_n 0, 1) := by decide +kernel
theorem dX5_mixUp_36 : decode cX5_mixUp 36 = .ok (.getfield 12, 3) := by decide +kernel
theorem dX5_mixUp_39 : decode cX5_mixUp 39 = .ok (.getfield 134, 3) := by decide +kernel
theorem dX5_mixUp_42 : decode cX5_mixUp 42 = .ok (.iload_n 2, 1) := by decide +kernel
theorem dX5_mixUp_43 : decode cX5_mixUp 43 = .ok (.dup2, 1) := by decide +kernel
theorem dX5_mixUp_44 : decode cX5_mixUp 44 = .ok (.iaload, 1) := by decide +kernel
theorem dX5_mixUp_45 : decode cX5_mixUp 45 = .ok (.iconst 1, 1) := by decide +kernel
theorem dX5_mixUp_46 : decode cX5_mixUp 46 = .ok (.iadd, 1) := by decide +kernel
theorem dX5_mixUp_47 : decode cX5_mixUp 47 = .ok (.iastore, 1) := by decide +kernel
theorem dX5_mixUp_48 : decode cX5_mixUp 48 = .ok (.aload_n 0, 1) := by decide +kernel
theorem dX5_mixUp_49 : decode cX5_mixUp 49 = .ok (.dup, 1) := by decide +kernel
theorem dX5_mixUp_50 : decode cX5_mixUp 50 = .ok (.getfield 33, 3) := by decide +kernel
theorem dX5_mixUp_53 : decode cX5_mixUp 53 = .ok (.iconst 1, 1) := by decide +kernel
theorem dX5_mixUp_54 : decode cX5_mixUp 54 = .ok (.iadd, 1) := by decide +kernel
theorem dX5_mixUp_55 : decode cX5_mixUp 55 = .ok (.putfield 33, 3) := by decide +kernel
theorem dX5_mixUp_58 : decode cX5_mixUp 58 = .ok (.return_, 1) := by decide +kernel
theorem dX5_passYears_0 : decode cX5_passYears 0 = .ok (.iload_n 1, 1) := by decide +kernel
theorem dX5_passYears_1 : decode cX5_passYears 1 = .ok (.invokestatic 137, 3) := by decide +kernel
theorem dX5_passYears_4 : decode cX5_passYears 4 = .ok (.ifCond .eq 15, 3) := by decide +kernel
theorem dX5_passYears_7 : decode cX5_passYears 7 = .ok (.aload_n 0, 1) := by decide +kernel
theorem dX5_passYears_8 : decode cX5_passYears 8 = .ok (.getfield 29, 3) := by decide +kernel
theorem dX5_passYears_11 : decode cX5_passYears 11 = .ok (.iload_n 1, 1) := by decide +kernel
theorem dX5_passYears_12 : decode cX5_passYears 12 = .ok (.iadd, 1) := by decide +kernel
theorem dX5_passYears_13 : decode cX5_passYears 13 = .ok (.sipush 999, 3) := by decide +kernel
theorem dX5_passYears_16 : decode cX5_passYears 16 = .ok (.if_icmp .le 5, 3) := by decide +kernel
theorem dX5_passYears_19 : decode cX5_passYears 19 = .ok (.iconst (-1), 1) := by decide +kernel
theorem dX5_passYears_20 : decode cX5_passYears 20 = .ok (.ireturn, 1) := by decide +kernel
theorem dX5_passYears_21 : decode cX5_passYears 21 = .ok (.iconst 0, 1) := by decide +kernel
theorem dX5_passYears_22 : decode cX5_passYears 22 = .ok (.istore_n 2, 1) := by decide +kernel
theorem dX5_passYears_23 : decode cX5_passYears 23 = .ok (.iconst 0, 1) := by decide +kernel
theorem dX5_passYears_24 : decode cX5_passYears 24 = .ok (.istore_n 3, 1) := by decide +kernel
theorem dX5_passYears_25 : decode cX5_passYears 25 = .ok (.iload_n 3, 1) := by decide +kernel
theorem dX5_passYears_26 : decode cX5_passYears 26 = .ok (.iload_n 1, 1) := by decide +kernel
theorem dX5_passYears_27 : decode cX5_passYears 27 = .ok (.if_icmp .ge 33, 3) := by decide +kernel
theorem dX5_passYears_30 : decode cX5_passYears 30 = .ok (.aload_n 0, 1) := by decide +kernel
theorem dX5_passYears_31 : decode cX5_passYears 31 = .ok (.dup, 1) := by decide +kernel
theorem dX5_passYears_32 : decode cX5_passYears 32 = .ok (.getfield 29, 3) := by decide +kernel
theorem dX5_passYears_35 : decode cX5_passYears 35 = .ok (.iconst 1, 1) := by decide +kernel
theorem dX5_passYears_36 : decode cX5_passYears 36 = .ok (.iadd, 1) := by decide +kernel
theorem dX5_passYears_37 : decode cX5_passYears 37 = .ok (.putfield 29, 3) := by decide +kernel
theorem dX5_passYears_40 : decode cX5_passYears 40 = .ok (.aload_n 0, 1) := by decide +kernel
theorem dX5_passYears_41 : decode cX5_passYears 41 = .ok (.getfield 12, 3) := by decide +kernel
theorem dX5_passYears_44 : decode cX5_passYears 44 = .ok (.invokevirtual 140, 3) := by decide +kernel
theorem dX5_passYears_47 : decode cX5_passYears 47 = .ok (.iload_n 2, 1) := by decide +kernel
theorem dX5_passYears_48 : decode cX5_passYears 48 = .ok (.aload_n 0, 1) := by decide +kernel
theorem dX5_passYears_49 : decode cX5_passYears 49 = .ok (.invokevirtual 143, 3) := by decide +kernel
theorem dX5_passYears_52 : decode cX5_passYears 52 = .ok (.iadd, 1) := by decide +kernel
theorem dX5_passYears_53 : decode cX5_passYears 53 = .ok (.istore_n 2, 1) := by decide +kernel
theorem dX5_passYears_54 : decode cX5_passYears 54 = .ok (.iinc 3 1, 3) := by decide +kernel
theorem dX5_passYears_57 : decode cX5_passYears 57 = .ok (.goto (-32), 3) := by decide +kernel
theorem dX5_passYears_60 : decode cX5_passYears 60 = .ok (.iload_n 2, 1) := by decide +kernel
theorem dX5_passYears_61 : decode cX5_passYears 61 = .ok (.ireturn, 1) := by decide +kernel
theorem dX5_endNames_0 : decode cX5_endNames 0 = .ok (.iconst 0, 1) := by decide +kernel
theorem dX5_endNames_1 : decode cX5_endNames 1 = .ok (.istore_n 1, 1) := by decide +kernel
theorem dX5_endNames_2 : decode cX5_endNames 2 = .ok (.aload_n 0, 1) := by decide +kernel
theorem dX5_endNames_3 : decode cX5_endNames 3 = .ok (.getfield 21, 3) := by decide +kernel
theorem dX5_endNames_6 : decode cX5_endNames 6 = .ok (.getfield 45, 3) := by decide +kernel
theorem dX5_endNames_9 : decode cX5_endNames 9 = .ok (.istore_n 2, 1) := by decide +kernel
theorem dX5_endNames_10 : decode cX5_endNames 10 = .ok (.iconst 0, 1) := by decide +kernel
theorem dX5_endNames_11 : decode cX5_endNames 11 = .ok (.istore_n 3, 1) := by decide +kernel
theorem dX5_endNames_12 : decode cX5_endNames 12 = .ok (.iload_n 3, 1) := by decide +kernel
theorem dX5_endNames_13 : decode cX5_endNames 13 = .ok (.iload_n 2, 1) := by decide +kernel
theorem dX5_endNames_14 : decode cX5_endNames 14 = .ok (.if_icmp .ge 95, 3) := by decide +kernel
theorem dX5_endNames_17 : decode cX5_endNames 17 = .ok (.aload_n 0, 1) := by decide +kernel
theorem dX5_endNames_18 : decode cX5_endNames 18 = .ok (.getfield 21, 3) := by decide +kernel
theorem dX5_endNames_21 : decode cX5_endNames 21 = .ok (.iload_n 3, 1) := by decide +kernel
theorem dX5_endNames_22 : decode cX5_endNames 22 = .ok (.invokevirtual 89, 3) := by decide +kernel
theorem dX5_endNames_25 : decode cX5_endNames 25 = .ok (.ifCond .ne 6, 3) := by decide +kernel
theorem dX5_endNames_28 : decode cX5_endNames 28 = .ok (.goto 75, 3) := by decide +kernel
theorem dX5_endNames_31 : decode cX5_endNames 31 = .ok (.aload_n 0, 1) := by decide +kernel
theorem dX5_endNames_32 : decode cX5_endNames 32 = .ok (.getfield 29, 3) := by decide +kernel
theorem dX5_endNames_35 : decode cX5_endNames 35 = .ok (.aload_n 0, 1) := by decide +kernel
theorem dX5_endNames_36 : decode cX5_endNames 36 = .ok (.getfield 21, 3) := by decide +kernel
theorem dX5_endNames_39 : decode cX5_endNames 39 = .ok (.getfield 147, 3) := by decide +kernel
theorem dX5_endNames_42 : decode cX5_endNames 42 = .ok (.iload_n 3, 1) := by decide +kernel
theorem dX5_endNames_43 : decode cX5_endNames 43 = .ok (.iaload, 1) := by decide +kernel
theorem dX5_endNames_44 : decode cX5_endNames 44 = .ok (.isub, 1) := by decide +kernel
theorem dX5_endNames_45 : decode cX5_endNames 45 = .ok (.aload_n 0, 1) := by decide +kernel
theorem dX5_endNames_46 : decode cX5_endNames 46 = .ok (.getfield 25, 3) := by decide +kernel
theorem dX5_endNames_49 : decode cX5_endNames 49 = .ok (.iconst 1, 1) := by decide +kernel
theorem dX5_endNames_50 : decode cX5_endNames 50 = .ok (.iaload, 1) := by decide +kernel
theorem dX5_endNames_51 : decode cX5_endNames 51 = .ok (.if_icmp .lt 19, 3) := by decide +kernel
theorem dX5_endNames_54 : decode cX5_endNames 54 = .ok (.aload_n 0, 1) := by decide +kernel
theorem dX5_endNames_55 : decode cX5_endNames 55 = .ok (.getfield 21, 3) := by decide +kernel
theorem dX5_endNames_58 : decode cX5_endNames 58 = .ok (.getfield 150, 3) := by decide +kernel
theorem dX5_endNames_61 : decode cX5_endNames 61 = .ok (.iload_n 3, 1) := by decide +kernel
theorem dX5_endNames_62 : decode cX5_endNames 62 = .ok (.iconst 2, 1) := by decide +kernel
theorem dX5_endNames_63 : decode cX5_endNames 63 = .ok (.iastore, 1) := by decide +kernel
theorem dX5_endNames_64 : decode cX5_endNames 64 = .ok (.iinc 1 1, 3) := by decide +kernel
theorem dX5_endNames_67 : decode cX5_endNames 67 = .ok (.goto 36, 3) := by decide +kernel
theorem dX5_endNames_70 : decode cX5_endNames 70 = .ok (.aload_n 0, 1) := by decide +kernel
theorem dX5_endNames_71 : decode cX5_endNames 71 = .ok (.getfield 12, 3) := by decide +kernel
theorem dX5_endNames_74 : decode cX5_endNames 74 = .ok (.getfield 153, 3) := by decide +kernel
theorem dX5_endNames_77 : decode cX5_endNames 77 = .ok (.aload_n 0, 1) := by decide +kernel
theorem dX5_endNames_78 : decode cX5_endNames 78 = .ok (.getfield 21, 3) := by decide +kernel
theorem dX5_endNames_81 : decode cX5_endNames 81 = .ok (.getfield 82, 3) := by decide +kernel
theorem dX5_endNames_84 : decode cX5_endNames 84 = .ok (.iload_n 3, 1) := by decide +kernel
theorem dX5_endNames_85 : decode cX5_endNames 85 = .ok (.iaload, 1) := by decide +kernel
theorem dX5_endNames_86 : decode cX5_endNames 86 = .ok (.iaload, 1) := by decide +kernel
theorem dX5_endNames_87 : decode cX5_endNames 87 = .ok (.aload_n 0, 1) := by decide +kernel
theorem dX5_endNames_88 : decode cX5_endNames 88 = .ok (.iload_n 3, 1) := by decide +kernel
theorem dX5_endNames_89 : decode cX5_endNames 89 = .ok (.invokevirtual 156, 3) := by decide +kernel
theorem dX5_endNames_92 : decode cX5_endNames 92 = .ok (.if_icmp .le 11, 3) := by decide +kernel
theorem dX5_endNames_95 : decode cX5_endNames 95 = .ok (.aload_n 0, 1) := by decide +kernel
theorem dX5_endNames_96 : decode cX5_endNames 96 = .ok (.iload_n 3, 1) := by decide +kernel
theorem dX5_endNames_97 : decode cX5_endNames 97 = .ok (.invokevirtual 159, 3) := by decide +kernel
theorem dX5_endNames_100 : decode cX5_endNames 100 = .ok (.iinc 1 1, 3) := by decide +kernel
theorem dX5_endNames_103 : decode cX5_endNames 103 = .ok (.iinc 3 1, 3) := by decide +kernel
theorem dX5_endNames_106 : decode cX5_endNames 106 = .ok (.goto (-94), 3) := by decide +kernel
theorem dX5_endNames_109 : decode cX5_endNames 109 = .ok (.iload_n 1, 1) := by decide +kernel
theorem dX5_endNames_110 : decode cX5_endNames 110 = .ok (.ireturn, 1) := by decide +kernel
theorem dX5_oldestFor_0 : decode cX5_oldestFor 0 = .ok (.iconst 4, 1) := by decide +kernel
theorem dX5_oldestFor_1 : decode cX5_oldestFor 1 = .ok (.aload_n 0, 1) := by decide +kernel
theorem dX5_oldestFor_2 : decode cX5_oldestFor 2 = .ok (.getfield 25, 3) := by decide +kernel
theorem dX5_oldestFor_5 : decode cX5_oldestFor 5 = .ok (.iconst 2, 1) := by decide +kernel
theorem dX5_oldestFor_6 : decode cX5_oldestFor 6 = .ok (.iaload, 1) := by decide +kernel
theorem dX5_oldestFor_7 : decode cX5_oldestFor 7 = .ok (.imul, 1) := by decide +kernel
theorem dX5_oldestFor_8 : decode cX5_oldestFor 8 = .ok (.aload_n 0, 1) := by decide +kernel
theorem dX5_oldestFor_9 : decode cX5_oldestFor 9 = .ok (.getfield 21, 3) := by decide +kernel
theorem dX5_oldestFor_12 : decode cX5_oldestFor 12 = .ok (.getfield 93, 3) := by decide +kernel
theorem dX5_oldestFor_15 : decode cX5_oldestFor 15 = .ok (.iload_n 1, 1) := by decide +kernel
theorem dX5_oldestFor_16 : decode cX5_oldestFor 16 = .ok (.iaload, 1) := by decide +kernel
theorem dX5_oldestFor_17 : decode cX5_oldestFor 17 = .ok (.imul, 1) := by decide +kernel
theorem dX5_oldestFor_18 : decode cX5_oldestFor 18 = .ok (.ireturn, 1) := by decide +kernel
theorem dX5_outgrow_0 : decode cX5_outgrow 0 = .ok (.aload_n 0, 1) := by decide +kernel
theorem dX5_outgrow_1 : decode cX5_outgrow 1 = .ok (.getfield 21, 3) := by decide +kernel
theorem dX5_outgrow_4 : decode cX5_outgrow 4 = .ok (.getfield 82, 3) := by decide +kernel
theorem dX5_outgrow_7 : decode cX5_outgrow 7 = .ok (.iload_n 1, 1) := by decide +kernel
theorem dX5_outgrow_8 : decode cX5_outgrow 8 = .ok (.iaload, 1) := by decide +kernel
theorem dX5_outgrow_9 : decode cX5_outgrow 9 = .ok (.istore_n 2, 1) := by decide +kernel
theorem dX5_outgrow_10 : decode cX5_outgrow 10 = .ok (.aload_n 0, 1) := by decide +kernel
theorem dX5_outgrow_11 : decode cX5_outgrow 11 = .ok (.getfield 21, 3) := by decide +kernel
theorem dX5_outgrow_14 : decode cX5_outgrow 14 = .ok (.getfield 150, 3) := by decide +kernel
theorem dX5_outgrow_17 : decode cX5_outgrow 17 = .ok (.iload_n 1, 1) := by decide +kernel
theorem dX5_outgrow_18 : decode cX5_outgrow 18 = .ok (.iaload, 1) := by decide +kernel
theorem dX5_outgrow_19 : decode cX5_outgrow 19 = .ok (.iconst 1, 1) := by decide +kernel
theorem dX5_outgrow_20 : decode cX5_outgrow 20 = .ok (.if_icmp .ne 21, 3) := by decide +kernel
theorem dX5_outgrow_23 : decode cX5_outgrow 23 = .ok (.aload_n 0, 1) := by decide +kernel
theorem dX5_outgrow_24 : decode cX5_outgrow 24 = .ok (.getfield 21, 3) := by decide +kernel
theorem dX5_outgrow_27 : decode cX5_outgrow 27 = .ok (.invokevirtual 70, 3) := by decide +kernel
theorem dX5_outgrow_30 : decode cX5_outgrow 30 = .ok (.ifCond .ne 11, 3) := by decide +kernel
theorem dX5_outgrow_33 : decode cX5_outgrow 33 = .ok (.aload_n 0, 1) := by decide +kernel
theorem dX5_outgrow_34 : decode cX5_outgrow 34 = .ok (.iload_n 2, 1) := by decide +kernel
theorem dX5_outgrow_35 : decode cX5_outgrow 35 = .ok (.invokevirtual 163, 3) := by decide +kernel
theorem dX5_outgrow_38 : decode cX5_outgrow 38 = .ok (.goto 4, 3) := by decide +kernel
theorem dX5_outgrow_41 : decode cX5_outgrow 41 = .ok (.iconst (-1), 1) := by decide +kernel
theorem dX5_outgrow_42 : decode cX5_outgrow 42 = .ok (.istore_n 3, 1) := by decide +kernel
theorem dX5_outgrow_43 : decode cX5_outgrow 43 = .ok (.iload_n 3, 1) := by decide +kernel
theorem dX5_outgrow_44 : decode cX5_outgrow 44 = .ok (.iconst (-1), 1) := by decide +kernel
theorem dX5_outgrow_45 : decode cX5_outgrow 45 = .ok (.if_icmp .ne 16, 3) := by decide +kernel
theorem dX5_outgrow_48 : decode cX5_outgrow 48 = .ok (.aload_n 0, 1) := by decide +kernel
theorem dX5_outgrow_49 : decode cX5_outgrow 49 = .ok (.getfield 21, 3) := by decide +kernel
theorem dX5_outgrow_52 : decode cX5_outgrow 52 = .ok (.getfield 150, 3) := by decide +kernel
theorem dX5_outgrow_55 : decode cX5_outgrow 55 = .ok (.iload_n 1, 1) := by decide +kernel
theorem dX5_outgrow_56 : decode cX5_outgrow 56 = .ok (.iconst 3, 1) := by decide +kernel
theorem dX5_outgrow_57 : decode cX5_outgrow 57 = .ok (.iastore, 1) := by decide +kernel
theorem dX5_outgrow_58 : decode cX5_outgrow 58 = .ok (.goto 44, 3) := by decide +kernel
theorem dX5_outgrow_61 : decode cX5_outgrow 61 = .ok (.aload_n 0, 1) := by decide +kernel
theorem dX5_outgrow_62 : decode cX5_outgrow 62 = .ok (.getfield 21, 3) := by decide +kernel
theorem dX5_outgrow_65 : decode cX5_outgrow 65 = .ok (.getfield 150, 3) := by decide +kernel
theorem dX5_outgrow_68 : decode cX5_outgrow 68 = .ok (.iload_n 1, 1) := by decide +kernel
theorem dX5_outgrow_69 : decode cX5_outgrow 69 = .ok (.iconst 4, 1) := by decide +kernel
theorem dX5_outgrow_70 : decode cX5_outgrow 70 = .ok (.iastore, 1) := by decide +kernel
theorem dX5_outgrow_71 : decode cX5_outgrow 71 = .ok (.aload_n 0, 1) := by decide +kernel
theorem dX5_outgrow_72 : decode cX5_outgrow 72 = .ok (.getfield 21, 3) := by decide +kernel
theorem dX5_outgrow_75 : decode cX5_outgrow 75 = .ok (.iload_n 2, 1) := by decide +kernel
theorem dX5_outgrow_76 : decode cX5_outgrow 76 = .ok (.iload_n 3, 1) := by decide +kernel
theorem dX5_outgrow_77 : decode cX5_outgrow 77 = .ok (.aload_n 0, 1) := by decide +kernel
theorem dX5_outgrow_78 : decode cX5_outgrow 78 = .ok (.getfield 21, 3) := by decide +kernel
theorem dX5_outgrow_81 : decode cX5_outgrow 81 = .ok (.getfield 93, 3) := by decide +kernel
theorem dX5_outgrow_84 : decode cX5_outgrow 84 = .ok (.iload_n 1, 1) := by decide +kernel
theorem dX5_outgrow_85 : decode cX5_outgrow 85 = .ok (.iaload, 1) := by decide +kernel
theorem dX5_outgrow_86 : decode cX5_outgrow 86 = .ok (.aload_n 0, 1) := by decide +kernel
theorem dX5_outgrow_87 : decode cX5_outgrow 87 = .ok (.getfield 21, 3) := by decide +kernel
theorem dX5_outgrow_90 : decode cX5_outgrow 90 = .ok (.getfield 96, 3) := by decide +kernel
theorem dX5_outgrow_93 : decode cX5_outgrow 93 = .ok (.iload_n 1, 1) := by decide +kernel
theorem dX5_outgrow_94 : decode cX5_outgrow 94 = .ok (.iaload, 1) := by decide +kernel
theorem dX5_outgrow_95 : decode cX5_outgrow 95 = .ok (.aload_n 0, 1) := by decide +kernel
theorem dX5_outgrow_96 : decode cX5_outgrow 96 = .ok (.getfield 29, 3) := by decide +kernel
theorem dX5_outgrow_99 : decode cX5_outgrow 99 = .ok (.invokevirtual 166, 3) := by decide +kernel
theorem dX5_outgrow_102 : decode cX5_outgrow 102 = .ok (.return_, 1) := by decide +kernel
theorem dX5_heirOf_0 : decode cX5_heirOf 0 = .ok (.iconst (-1), 1) := by decide +kernel
theorem dX5_heirOf_1 : decode cX5_heirOf 1 = .ok (.istore_n 2, 1) := by decide +kernel
theorem dX5_heirOf_2 : decode cX5_heirOf 2 = .ok (.iconst 0, 1) := by decide +kernel
theorem dX5_heirOf_3 : decode cX5_heirOf 3 = .ok (.istore_n 3, 1) := by decide +kernel
theorem dX5_heirOf_4 : decode cX5_heirOf 4 = .ok (.iload_n 3, 1) := by decide +kernel
theorem dX5_heirOf_5 : decode cX5_heirOf 5 = .ok (.aload_n 0, 1) := by decide +kernel
theorem dX5_heirOf_6 : decode cX5_heirOf 6 = .ok (.getfield 12, 3) := by decide +kernel
theorem dX5_heirOf_9 : decode cX5_heirOf 9 = .ok (.getfield 42, 3) := by decide +kernel
theorem dX5_heirOf_12 : decode cX5_heirOf 12 = .ok (.if_icmp .ge 73, 3) := by decide +kernel
theorem dX5_heirOf_15 : decode cX5_heirOf 15 = .ok (.iload_n 2, 1) := by decide +kernel
theorem dX5_heirOf_16 : decode cX5_heirOf 16 = .ok (.iconst (-1), 1) := by decide +kernel
theorem dX5_heirOf_17 : decode cX5_heirOf 17 = .ok (.if_icmp .eq 24, 3) := by decide +kernel
theorem dX5_heirOf_20 : decode cX5_heirOf 20 = .ok (.aload_n 0, 1) := by decide +kernel
theorem dX5_heirOf_21 : decode cX5_heirOf 21 = .ok (.getfield 12, 3) := by decide +kernel
theorem dX5_heirOf_24 : decode cX5_heirOf 24 = .ok (.getfield 153, 3) := by decide +kernel
theorem dX5_heirOf_27 : decode cX5_heirOf 27 = .ok (.iload_n 3, 1) := by decide +kernel
theorem dX5_heirOf_28 : decode cX5_heirOf 28 = .ok (.iaload, 1) := by decide +kernel
theorem dX5_heirOf_29 : decode cX5_heirOf 29 = .ok (.aload_n 0, 1) := by decide +kernel
theorem dX5_heirOf_30 : decode cX5_heirOf 30 = .ok (.getfield 12, 3) := by decide +kernel
theorem dX5_heirOf_33 : decode cX5_heirOf 33 = .ok (.getfield 153, 3) := by decide +kernel
theorem dX5_heirOf_36 : decode cX5_heirOf 36 = .ok (.iload_n 2, 1) := by decide +kernel
theorem dX5_heirOf_37 : decode cX5_heirOf 37 = .ok (.iaload, 1) := by decide +kernel
theorem dX5_heirOf_38 : decode cX5_heirOf 38 = .ok (.if_icmp .le 7, 3) := by decide +kernel
theorem dX5_heirOf_41 : decode cX5_heirOf 41 = .ok (.iconst 1, 1) := by decide +kernel
theorem dX5_heirOf_42 : decode cX5_heirOf 42 = .ok (.goto 4, 3) := by decide +kernel
theorem dX5_heirOf_45 : decode cX5_heirOf 45 = .ok (.iconst 0, 1) := by decide +kernel
theorem dX5_heirOf_46 : decode cX5_heirOf 46 = .ok (.istore 4, 2) := by decide +kernel
theorem dX5_heirOf_48 : decode cX5_heirOf 48 = .ok (.iload 4, 2) := by decide +kernel
theorem dX5_heirOf_50 : decode cX5_heirOf 50 = .ok (.ifCond .eq 29, 3) := by decide +kernel
theorem dX5_heirOf_53 : decode cX5_heirOf 53 = .ok (.aload_n 0, 1) := by decide +kernel
theorem dX5_heirOf_54 : decode cX5_heirOf 54 = .ok (.getfield 12, 3) := by decide +kernel
theorem dX5_heirOf_57 : decode cX5_heirOf 57 = .ok (.iload_n 3, 1) := by decide +kernel
theorem dX5_heirOf_58 : decode cX5_heirOf 58 = .ok (.iload_n 1, 1) := by decide +kernel
theorem dX5_heirOf_59 : decode cX5_heirOf 59 = .ok (.invokevirtual 170, 3) := by decide +kernel
theorem dX5_heirOf_62 : decode cX5_heirOf 62 = .ok (.ifCond .eq 17, 3) := by decide +kernel
theorem dX5_heirOf_65 : decode cX5_heirOf 65 = .ok (.aload_n 0, 1) := by decide +kernel
theorem dX5_heirOf_66 : decode cX5_heirOf 66 = .ok (.getfield 21, 3) := by decide +kernel
theorem dX5_heirOf_69 : decode cX5_heirOf 69 = .ok (.iload_n 3, 1) := by decide +kernel
theorem dX5_heirOf_70 : decode cX5_heirOf 70 = .ok (.invokevirtual 78, 3) := by decide +kernel
theorem dX5_heirOf_73 : decode cX5_heirOf 73 = .ok (.iconst 3, 1) := by decide +kernel
theorem dX5_heirOf_74 : decode cX5_heirOf 74 = .ok (.if_icmp .ge 5, 3) := by decide +kernel
theorem dX5_heirOf_77 : decode cX5_heirOf 77 = .ok (.iload_n 3, 1) := by decide +kernel
theorem dX5_heirOf_78 : decode cX5_heirOf 78 = .ok (.istore_n 2, 1) := by decide +kernel
theorem dX5_heirOf_79 : decode cX5_heirOf 79 = .ok (.iinc 3 1, 3) := by decide +kernel
theorem dX5_heirOf_82 : decode cX5_heirOf 82 = .ok (.goto (-78), 3) := by decide +kernel
theorem dX5_heirOf_85 : decode cX5_heirOf 85 = .ok (.iload_n 2, 1) := by decide +kernel
theorem dX5_heirOf_86 : decode cX5_heirOf 86 = .ok (.ireturn, 1) := by decide +kernel
theorem dX5_yearsLeft_0 : decode cX5_yearsLeft 0 = .ok (.aload_n 0, 1) := by decide +kernel
theorem dX5_yearsLeft_1 : decode cX5_yearsLeft 1 = .ok (.getfield 21, 3) := by decide +kernel
theorem dX5_yearsLeft_4 : decode cX5_yearsLeft 4 = .ok (.iload_n 1, 1) := by decide +kernel
theorem dX5_yearsLeft_5 : decode cX5_yearsLeft 5 = .ok (.invokevirtual 89, 3) := by decide +kernel
theorem dX5_yearsLeft_8 : decode cX5_yearsLeft 8 = .ok (.ifCond .ne 5, 3) := by decide +kernel
theorem dX5_yearsLeft_11 : decode cX5_yearsLeft 11 = .ok (.iconst 0, 1) := by decide +kernel
theorem dX5_yearsLeft_12 : decode cX5_yearsLeft 12 = .ok (.ireturn, 1) := by decide +kernel
theorem dX5_yearsLeft_13 : decode cX5_yearsLeft 13 = .ok (.aload_n 0, 1) := by decide +kernel
theorem dX5_yearsLeft_14 : decode cX5_yearsLeft 14 = .ok (.getfield 25, 3) := by decide +kernel
theorem dX5_yearsLeft_17 : decode cX5_yearsLeft 17 = .ok (.iconst 1, 1) := by decide +kernel
theorem dX5_yearsLeft_18 : decode cX5_yearsLeft 18 = .ok (.iaload, 1) := by decide +kernel
theorem dX5_yearsLeft_19 : decode cX5_yearsLeft 19 = .ok (.aload_n 0, 1) := by decide +kernel
theorem dX5_yearsLeft_20 : decode cX5_yearsLeft 20 = .ok (.getfield 29, 3) := by decide +kernel
theorem dX5_yearsLeft_23 : decode cX5_yearsLeft 23 = .ok (.aload_n 0, 1) := by decide +kernel
theorem dX5_yearsLeft_24 : decode cX5_yearsLeft 24 = .ok (.getfield 21, 3) := by decide +kernel
theorem dX5_yearsLeft_27 : decode cX5_yearsLeft 27 = .ok (.getfield 147, 3) := by decide +kernel
theorem dX5_yearsLeft_30 : decode cX5_yearsLeft 30 = .ok (.iload_n 1, 1) := by decide +kernel
theorem dX5_yearsLeft_31 : decode cX5_yearsLeft 31 = .ok (.iaload, 1) := by decide +kernel
theorem dX5_yearsLeft_32 : decode cX5_yearsLeft 32 = .ok (.isub, 1) := by decide +kernel
theorem dX5_yearsLeft_33 : decode cX5_yearsLeft 33 = .ok (.isub, 1) := by decide +kernel
theorem dX5_yearsLeft_34 : decode cX5_yearsLeft 34 = .ok (.istore_n 2, 1) := by decide +kernel
theorem dX5_yearsLeft_35 : decode cX5_yearsLeft 35 = .ok (.aload_n 0, 1) := by decide +kernel
theorem dX5_yearsLeft_36 : decode cX5_yearsLeft 36 = .ok (.iload_n 1, 1) := by decide +kernel
theorem dX5_yearsLeft_37 : decode cX5_yearsLeft 37 = .ok (.invokevirtual 156, 3) := by decide +kernel
theorem dX5_yearsLeft_40 : decode cX5_yearsLeft 40 = .ok (.aload_n 0, 1) := by decide +kernel
theorem dX5_yearsLeft_41 : decode cX5_yearsLeft 41 = .ok (.getfield 12, 3) := by decide +kernel
theorem dX5_yearsLeft_44 : decode cX5_yearsLeft 44 = .ok (.getfield 153, 3) := by decide +kernel
theorem dX5_yearsLeft_47 : decode cX5_yearsLeft 47 = .ok (.aload_n 0, 1) := by decide +kernel
theorem dX5_yearsLeft_48 : decode cX5_yearsLeft 48 = .ok (.getfield 21, 3) := by decide +kernel
theorem dX5_yearsLeft_51 : decode cX5_yearsLeft 51 = .ok (.getfield 82, 3) := by decide +kernel
theorem dX5_yearsLeft_54 : decode cX5_yearsLeft 54 = .ok (.iload_n 1, 1) := by decide +kernel
theorem dX5_yearsLeft_55 : decode cX5_yearsLeft 55 = .ok (.iaload, 1) := by decide +kernel
theorem dX5_yearsLeft_56 : decode cX5_yearsLeft 56 = .ok (.iaload, 1) := by decide +kernel
theorem dX5_yearsLeft_57 : decode cX5_yearsLeft 57 = .ok (.isub, 1) := by decide +kernel
theorem dX5_yearsLeft_58 : decode cX5_yearsLeft 58 = .ok (.iconst 1, 1) := by decide +kernel
theorem dX5_yearsLeft_59 : decode cX5_yearsLeft 59 = .ok (.iadd, 1) := by decide +kernel
theorem dX5_yearsLeft_60 : decode cX5_yearsLeft 60 = .ok (.istore_n 3, 1) := by decide +kernel
theorem dX5_yearsLeft_61 : decode cX5_yearsLeft 61 = .ok (.iconst 1, 1) := by decide +kernel
theorem dX5_yearsLeft_62 : decode cX5_yearsLeft 62 = .ok (.iload_n 2, 1) := by decide +kernel
theorem dX5_yearsLeft_63 : decode cX5_yearsLeft 63 = .ok (.iload_n 3, 1) := by decide +kernel
theorem dX5_yearsLeft_64 : decode cX5_yearsLeft 64 = .ok (.invokestatic 173, 3) := by decide +kernel
theorem dX5_yearsLeft_67 : decode cX5_yearsLeft 67 = .ok (.invokestatic 178, 3) := by decide +kernel
theorem dX5_yearsLeft_70 : decode cX5_yearsLeft 70 = .ok (.ireturn, 1) := by decide +kernel
theorem dX5_triesPerson_0 : decode cX5_triesPerson 0 = .ok (.iload_n 2, 1) := by decide +kernel
theorem dX5_triesPerson_1 : decode cX5_triesPerson 1 = .ok (.invokestatic 181, 3) := by decide +kernel
theorem dX5_triesPerson_4 : decode cX5_triesPerson 4 = .ok (.ifCond .eq 27, 3) := by decide +kernel
theorem dX5_triesPerson_7 : decode cX5_triesPerson 7 = .ok (.iload_n 3, 1) := by decide +kernel
theorem dX5_triesPerson_8 : decode cX5_triesPerson 8 = .ok (.invokestatic 109, 3) := by decide +kernel
theorem dX5_triesPerson_11 : decode cX5_triesPerson 11 = .ok (.ifCond .eq 20, 3) := by decide +kernel
theorem dX5_triesPerson_14 : decode cX5_triesPerson 14 = .ok (.iload_n 1, 1) := by decide +kernel
theorem dX5_triesPerson_15 : decode cX5_triesPerson 15 = .ok (.invokestatic 184, 3) := by decide +kernel
theorem dX5_triesPerson_18 : decode cX5_triesPerson 18 = .ok (.ifCond .eq 13, 3) := by decide +kernel
theorem dX5_triesPerson_21 : decode cX5_triesPerson 21 = .ok (.aload_n 0, 1) := by decide +kernel
theorem dX5_triesPerson_22 : decode cX5_triesPerson 22 = .ok (.getfield 12, 3) := by decide +kernel
theorem dX5_triesPerson_25 : decode cX5_triesPerson 25 = .ok (.invokevirtual 187, 3) := by decide +kernel
theorem dX5_triesPerson_28 : decode cX5_triesPerson 28 = .ok (.ifCond .eq 5, 3) := by decide +kernel
theorem dX5_triesPerson_31 : decode cX5_triesPerson 31 = .ok (.iconst 0, 1) := by decide +kernel
theorem dX5_triesPerson_32 : decode cX5_triesPerson 32 = .ok (.ireturn, 1) := by decide +kernel
theorem dX5_triesPerson_33 : decode cX5_triesPerson 33 = .ok (.aload_n 0, 1) := by decide +kernel
theorem dX5_triesPerson_34 : decode cX5_triesPerson 34 = .ok (.getfield 12, 3) := by decide +kernel
theorem dX5_triesPerson_37 : decode cX5_triesPerson 37 = .ok (.iload_n 1, 1) := by decide +kernel
theorem dX5_triesPerson_38 : decode cX5_triesPerson 38 = .ok (.iload_n 2, 1) := by decide +kernel
theorem dX5_triesPerson_39 : decode cX5_triesPerson 39 = .ok (.iload_n 3, 1) := by decide +kernel
theorem dX5_triesPerson_40 : decode cX5_triesPerson 40 = .ok (.invokevirtual 188, 3) := by decide +kernel
theorem dX5_triesPerson_43 : decode cX5_triesPerson 43 = .ok (.iconst 1, 1) := by decide +kernel
theorem dX5_triesPerson_44 : decode cX5_triesPerson 44 = .ok (.ireturn, 1) := by decide +kernel
theorem dX5_triesSitting_0 : decode cX5_triesSitting 0 = .ok (.aload_n 0, 1) := by decide +kernel
theorem dX5_triesSitting_1 : decode cX5_triesSitting 1 = .ok (.getfield 12, 3) := by decide +kernel
theorem dX5_triesSitting_4 : decode cX5_triesSitting 4 = .ok (.iload_n 1, 1) := by decide +kernel
theorem dX5_triesSitting_5 : decode cX5_triesSitting 5 = .ok (.invokevirtual 128, 3) := by decide +kernel
theorem dX5_triesSitting_8 : decode cX5_triesSitting 8 = .ok (.ifCond .eq 19, 3) := by decide +kernel
theorem dX5_triesSitting_11 : decode cX5_triesSitting 11 = .ok (.iload_n 2, 1) := by decide +kernel
theorem dX5_triesSitting_12 : decode cX5_triesSitting 12 = .ok (.invokestatic 109, 3) := by decide +kernel
theorem dX5_triesSitting_15 : decode cX5_triesSitting 15 = .ok (.ifCond .eq 12, 3) := by decide +kernel
theorem dX5_triesSitting_18 : decode cX5_triesSitting 18 = .ok (.aload_n 0, 1) := by decide +kernel
theorem dX5_triesSitting_19 : decode cX5_triesSitting 19 = .ok (.iload_n 1, 1) := by decide +kernel
theorem dX5_triesSitting_20 : decode cX5_triesSitting 20 = .ok (.iload_n 2, 1) := by decide +kernel
theorem dX5_triesSitting_21 : decode cX5_triesSitting 21 = .ok (.invokevirtual 190, 3) := by decide +kernel
theorem dX5_triesSitting_24 : decode cX5_triesSitting 24 = .ok (.ifCond .eq 5, 3) := by decide +kernel
theorem dX5_triesSitting_27 : decode cX5_triesSitting 27 = .ok (.iconst 0, 1) := by decide +kernel
theorem dX5_triesSitting_28 : decode cX5_triesSitting 28 = .ok (.ireturn, 1) := by decide +kernel
theorem dX5_triesSitting_29 : decode cX5_triesSitting 29 = .ok (.aload_n 0, 1) := by decide +kernel
theorem dX5_triesSitting_30 : decode cX5_triesSitting 30 = .ok (.getfield 12, 3) := by decide +kernel
theorem dX5_triesSitting_33 : decode cX5_triesSitting 33 = .ok (.getfield 63, 3) := by decide +kernel
theorem dX5_triesSitting_36 : decode cX5_triesSitting 36 = .ok (.iload_n 1, 1) := by decide +kernel
theorem dX5_triesSitting_37 : decode cX5_triesSitting 37 = .ok (.iload_n 2, 1) := by decide +kernel
theorem dX5_triesSitting_38 : decode cX5_triesSitting 38 = .ok (.iastore, 1) := by decide +kernel
theorem dX5_triesSitting_39 : decode cX5_triesSitting 39 = .ok (.iconst 1, 1) := by decide +kernel
theorem dX5_triesSitting_40 : decode cX5_triesSitting 40 = .ok (.ireturn, 1) := by decide +kernel
theorem dX5_triesGiving_0 : decode cX5_triesGiving 0 = .ok (.aload_n 0, 1) := by decide +kernel
theorem dX5_triesGiving_1 : decode cX5_triesGiving 1 = .ok (.getfield 12, 3) := by decide +kernel
theorem dX5_triesGiving_4 : decode cX5_triesGiving 4 = .ok (.iload_n 1, 1) := by decide +kernel
theorem dX5_triesGiving_5 : decode cX5_triesGiving 5 = .ok (.invokevirtual 128, 3) := by decide +kernel
theorem dX5_triesGiving_8 : decode cX5_triesGiving 8 = .ok (.ifCond .eq 23, 3) := by decide +kernel
theorem dX5_triesGiving_11 : decode cX5_triesGiving 11 = .ok (.aload_n 0, 1) := by decide +kernel
theorem dX5_triesGiving_12 : decode cX5_triesGiving 12 = .ok (.getfield 12, 3) := by decide +kernel
theorem dX5_triesGiving_15 : decode cX5_triesGiving 15 = .ok (.iload_n 2, 1) := by decide +kernel
theorem dX5_triesGiving_16 : decode cX5_triesGiving 16 = .ok (.invokevirtual 128, 3) := by decide +kernel
theorem dX5_triesGiving_19 : decode cX5_triesGiving 19 = .ok (.ifCond .eq 12, 3) := by decide +kernel
theorem dX5_triesGiving_22 : decode cX5_triesGiving 22 = .ok (.iload_n 3, 1) := by decide +kernel
theorem dX5_triesGiving_23 : decode cX5_triesGiving 23 = .ok (.iload 4, 2) := by decide +kernel
theorem dX5_triesGiving_25 : decode cX5_triesGiving 25 = .ok (.invokestatic 112, 3) := by decide +kernel
theorem dX5_triesGiving_28 : decode cX5_triesGiving 28 = .ok (.ifCond .ne 5, 3) := by decide +kernel
theorem dX5_triesGiving_31 : decode cX5_triesGiving 31 = .ok (.iconst 0, 1) := by decide +kernel
theorem dX5_triesGiving_32 : decode cX5_triesGiving 32 = .ok (.ireturn, 1) := by decide +kernel
theorem dX5_triesGiving_33 : decode cX5_triesGiving 33 = .ok (.aload_n 0, 1) := by decide +kernel
theorem dX5_triesGiving_34 : decode cX5_triesGiving 34 = .ok (.iload_n 1, 1) := by decide +kernel
theorem dX5_triesGiving_35 : decode cX5_triesGiving 35 = .ok (.iload_n 2, 1) := by decide +kernel
theorem dX5_triesGiving_36 : decode cX5_triesGiving 36 = .ok (.iload_n 3, 1) := by decide +kernel
theorem dX5_triesGiving_37 : decode cX5_triesGiving 37 = .ok (.iload 4, 2) := by decide +kernel
theorem dX5_triesGiving_39 : decode cX5_triesGiving 39 = .ok (.invokevirtual 193, 3) := by decide +kernel
theorem dX5_triesGiving_42 : decode cX5_triesGiving 42 = .ok (.ifCond .eq 5, 3) := by decide +kernel
theorem dX5_triesGiving_45 : decode cX5_triesGiving 45 = .ok (.iconst 0, 1) := by decide +kernel
theorem dX5_triesGiving_46 : decode cX5_triesGiving 46 = .ok (.ireturn, 1) := by decide +kernel
theorem dX5_triesGiving_47 : decode cX5_triesGiving 47 = .ok (.aload_n 0, 1) := by decide +kernel
theorem dX5_triesGiving_48 : decode cX5_triesGiving 48 = .ok (.getfield 21, 3) := by decide +kernel
theorem dX5_triesGiving_51 : decode cX5_triesGiving 51 = .ok (.iload_n 1, 1) := by decide +kernel
theorem dX5_triesGiving_52 : decode cX5_triesGiving 52 = .ok (.iload_n 2, 1) := by decide +kernel
theorem dX5_triesGiving_53 : decode cX5_triesGiving 53 = .ok (.iload_n 3, 1) := by decide +kernel
theorem dX5_triesGiving_54 : decode cX5_triesGiving 54 = .ok (.iload 4, 2) := by decide +kernel
theorem dX5_triesGiving_56 : decode cX5_triesGiving 56 = .ok (.aload_n 0, 1) := by decide +kernel
theorem dX5_triesGiving_57 : decode cX5_triesGiving 57 = .ok (.getfield 29, 3) := by decide +kernel
theorem dX5_triesGiving_60 : decode cX5_triesGiving 60 = .ok (.invokevirtual 166, 3) := by decide +kernel
theorem dX5_triesGiving_63 : decode cX5_triesGiving 63 = .ok (.iconst 1, 1) := by decide +kernel
theorem dX5_triesGiving_64 : decode cX5_triesGiving 64 = .ok (.ireturn, 1) := by decide +kernel
theorem dX5_triesSetting_0 : decode cX5_triesSetting 0 = .ok (.iload_n 1, 1) := by decide +kernel
theorem dX5_triesSetting_1 : decode cX5_triesSetting 1 = .ok (.iload_n 2, 1) := by decide +kernel
theorem dX5_triesSetting_2 : decode cX5_triesSetting 2 = .ok (.invokestatic 197, 3) := by decide +kernel
theorem dX5_triesSetting_5 : decode cX5_triesSetting 5 = .ok (.ifCond .ne 5, 3) := by decide +kernel
theorem dX5_triesSetting_8 : decode cX5_triesSetting 8 = .ok (.iconst 0, 1) := by decide +kernel
theorem dX5_triesSetting_9 : decode cX5_triesSetting 9 = .ok (.ireturn, 1) := by decide +kernel
theorem dX5_triesSetting_10 : decode cX5_triesSetting 10 = .ok (.aload_n 0, 1) := by decide +kernel
theorem dX5_triesSetting_11 : decode cX5_triesSetting 11 = .ok (.getfield 25, 3) := by decide +kernel
theorem dX5_triesSetting_14 : decode cX5_triesSetting 14 = .ok (.iload_n 1, 1) := by decide +kernel
theorem dX5_triesSetting_15 : decode cX5_triesSetting 15 = .ok (.iload_n 2, 1) := by decide +kernel
theorem dX5_triesSetting_16 : decode cX5_triesSetting 16 = .ok (.iastore, 1) := by decide +kernel
theorem dX5_triesSetting_17 : decode cX5_triesSetting 17 = .ok (.iconst 1, 1) := by decide +kernel
theorem dX5_triesSetting_18 : decode cX5_triesSetting 18 = .ok (.ireturn, 1) := by decide +kernel
theorem dX5_obeys_0 : decode cX5_obeys 0 = .ok (.aload_n 1, 1) := by decide +kernel
theorem dX5_obeys_1 : decode cX5_obeys 1 = .ok (.getfield 200, 3) := by decide +kernel
theorem dX5_obeys_4 : decode cX5_obeys 4 = .ok (.astore_n 2, 1) := by decide +kernel
theorem dX5_obeys_5 : decode cX5_obeys 5 = .ok (.aload_n 1, 1) := by decide +kernel
theorem dX5_obeys_6 : decode cX5_obeys 6 = .ok (.getfield 205, 3) := by decide +kernel
theorem dX5_obeys_9 : decode cX5_obeys 9 = .ok (.lookupswitch 152 #[(98, 130), (99, 90), (103, 73), (112, 59), (115, 141), (121, 113)], 59) := by decide +kernel
theorem dX5_obeys_68 : decode cX5_obeys 68 = .ok (.aload_n 0, 1) := by decide +kernel
theorem dX5_obeys_69 : decode cX5_obeys 69 = .ok (.aload_n 2, 1) := by decide +kernel
theorem dX5_obeys_70 : decode cX5_obeys 70 = .ok (.iconst 0, 1) := by decide +kernel
theorem dX5_obeys_71 : decode cX5_obeys 71 = .ok (.iaload, 1) := by decide +kernel
theorem dX5_obeys_72 : decode cX5_obeys 72 = .ok (.aload_n 2, 1) := by decide +kernel
theorem dX5_obeys_73 : decode cX5_obeys 73 = .ok (.iconst 1, 1) := by decide +kernel
theorem dX5_obeys_74 : decode cX5_obeys 74 = .ok (.iaload, 1) := by decide +kernel
theorem dX5_obeys_75 : decode cX5_obeys 75 = .ok (.aload_n 2, 1) := by decide +kernel
theorem dX5_obeys_76 : decode cX5_obeys 76 = .ok (.iconst 2, 1) := by decide +kernel
theorem dX5_obeys_77 : decode cX5_obeys 77 = .ok (.iaload, 1) := by decide +kernel
theorem dX5_obeys_78 : decode cX5_obeys 78 = .ok (.invokevirtual 208, 3) := by decide +kernel
theorem dX5_obeys_81 : decode cX5_obeys 81 = .ok (.ireturn, 1) := by decide +kernel
theorem dX5_obeys_82 : decode cX5_obeys 82 = .ok (.aload_n 0, 1) := by decide +kernel
theorem dX5_obeys_83 : decode cX5_obeys 83 = .ok (.aload_n 2, 1) := by decide +kernel
theorem dX5_obeys_84 : decode cX5_obeys 84 = .ok (.iconst 0, 1) := by decide +kernel
theorem dX5_obeys_85 : decode cX5_obeys 85 = .ok (.iaload, 1) := by decide +kernel
theorem dX5_obeys_86 : decode cX5_obeys 86 = .ok (.aload_n 2, 1) := by decide +kernel
theorem dX5_obeys_87 : decode cX5_obeys 87 = .ok (.iconst 1, 1) := by decide +kernel
theorem dX5_obeys_88 : decode cX5_obeys 88 = .ok (.iaload, 1) := by decide +kernel
theorem dX5_obeys_89 : decode cX5_obeys 89 = .ok (.aload_n 2, 1) := by decide +kernel
theorem dX5_obeys_90 : decode cX5_obeys 90 = .ok (.iconst 2, 1) := by decide +kernel
theorem dX5_obeys_91 : decode cX5_obeys 91 = .ok (.iaload, 1) := by decide +kernel
theorem dX5_obeys_92 : decode cX5_obeys 92 = .ok (.aload_n 2, 1) := by decide +kernel
theorem dX5_obeys_93 : decode cX5_obeys 93 = .ok (.iconst 3, 1) := by decide +kernel
theorem dX5_obeys_94 : decode cX5_obeys 94 = .ok (.iaload, 1) := by decide +kernel
theorem dX5_obeys_95 : decode cX5_obeys 95 = .ok (.invokevirtual 211, 3) := by decide +kernel
theorem dX5_obeys_98 : decode cX5_obeys 98 = .ok (.ireturn, 1) := by decide +kernel
theorem dX5_obeys_99 : decode cX5_obeys 99 = .ok (.aload_n 0, 1) := by decide +kernel
theorem dX5_obeys_100 : decode cX5_obeys 100 = .ok (.aload_n 2, 1) := by decide +kernel
theorem dX5_obeys_101 : decode cX5_obeys 101 = .ok (.iconst 0, 1) := by decide +kernel
theorem dX5_obeys_102 : decode cX5_obeys 102 = .ok (.iaload, 1) := by decide +kernel
theorem dX5_obeys_103 : decode cX5_obeys 103 = .ok (.aload_n 2, 1) := by decide +kernel
theorem dX5_obeys_104 : decode cX5_obeys 104 = .ok (.iconst 1, 1) := by decide +kernel
theorem dX5_obeys_105 : decode cX5_obeys 105 = .ok (.iaload, 1) := by decide +kernel
theorem dX5_obeys_106 : decode cX5_obeys 106 = .ok (.aload_n 2, 1) := by decide +kernel
theorem dX5_obeys_107 : decode cX5_obeys 107 = .ok (.iconst 2, 1) := by decide +kernel
theorem dX5_obeys_108 : decode cX5_obeys 108 = .ok (.iaload, 1) := by decide +kernel
theorem dX5_obeys_109 : decode cX5_obeys 109 = .ok (.invokevirtual 214, 3) := by decide +kernel
theorem dX5_obeys_112 : decode cX5_obeys 112 = .ok (.iconst (-1), 1) := by decide +kernel
theorem dX5_obeys_113 : decode cX5_obeys 113 = .ok (.if_icmp .eq 7, 3) := by decide +kernel
theorem dX5_obeys_116 : decode cX5_obeys 116 = .ok (.iconst 1, 1) := by decide +kernel
theorem dX5_obeys_117 : decode cX5_obeys 117 = .ok (.goto 4, 3) := by decide +kernel
theorem dX5_obeys_120 : decode cX5_obeys 120 = .ok (.iconst 0, 1) := by decide +kernel
theorem dX5_obeys_121 : decode cX5_obeys 121 = .ok (.ireturn, 1) := by decide +kernel
theorem dX5_obeys_122 : decode cX5_obeys 122 = .ok (.aload_n 0, 1) := by decide +kernel
theorem dX5_obeys_123 : decode cX5_obeys 123 = .ok (.aload_n 2, 1) := by decide +kernel
theorem dX5_obeys_124 : decode cX5_obeys 124 = .ok (.iconst 0, 1) := by decide +kernel
theorem dX5_obeys_125 : decode cX5_obeys 125 = .ok (.iaload, 1) := by decide +kernel
theorem dX5_obeys_126 : decode cX5_obeys 126 = .ok (.invokevirtual 217, 3) := by decide +kernel
theorem dX5_obeys_129 : decode cX5_obeys 129 = .ok (.iconst (-1), 1) := by decide +kernel
theorem dX5_obeys_130 : decode cX5_obeys 130 = .ok (.if_icmp .eq 7, 3) := by decide +kernel
theorem dX5_obeys_133 : decode cX5_obeys 133 = .ok (.iconst 1, 1) := by decide +kernel
theorem dX5_obeys_134 : decode cX5_obeys 134 = .ok (.goto 4, 3) := by decide +kernel
theorem dX5_obeys_137 : decode cX5_obeys 137 = .ok (.iconst 0, 1) := by decide +kernel
theorem dX5_obeys_138 : decode cX5_obeys 138 = .ok (.ireturn, 1) := by decide +kernel
theorem dX5_obeys_139 : decode cX5_obeys 139 = .ok (.aload_n 0, 1) := by decide +kernel
theorem dX5_obeys_140 : decode cX5_obeys 140 = .ok (.aload_n 2, 1) := by decide +kernel
theorem dX5_obeys_141 : decode cX5_obeys 141 = .ok (.iconst 0, 1) := by decide +kernel
theorem dX5_obeys_142 : decode cX5_obeys 142 = .ok (.iaload, 1) := by decide +kernel
theorem dX5_obeys_143 : decode cX5_obeys 143 = .ok (.aload_n 2, 1) := by decide +kernel
theorem dX5_obeys_144 : decode cX5_obeys 144 = .ok (.iconst 1, 1) := by decide +kernel
theorem dX5_obeys_145 : decode cX5_obeys 145 = .ok (.iaload, 1) := by decide +kernel
theorem dX5_obeys_146 : decode cX5_obeys 146 = .ok (.invokevirtual 220, 3) := by decide +kernel
theorem dX5_obeys_149 : decode cX5_obeys 149 = .ok (.ireturn, 1) := by decide +kernel
theorem dX5_obeys_150 : decode cX5_obeys 150 = .ok (.aload_n 0, 1) := by decide +kernel
theorem dX5_obeys_151 : decode cX5_obeys 151 = .ok (.aload_n 2, 1) := by decide +kernel
theorem dX5_obeys_152 : decode cX5_obeys 152 = .ok (.iconst 0, 1) := by decide +kernel
theorem dX5_obeys_153 : decode cX5_obeys 153 = .ok (.iaload, 1) := by decide +kernel
theorem dX5_obeys_154 : decode cX5_obeys 154 = .ok (.aload_n 2, 1) := by decide +kernel
theorem dX5_obeys_155 : decode cX5_obeys 155 = .ok (.iconst 1, 1) := by decide +kernel
theorem dX5_obeys_156 : decode cX5_obeys 156 = .ok (.iaload, 1) := by decide +kernel
theorem dX5_obeys_157 : decode cX5_obeys 157 = .ok (.invokevirtual 223, 3) := by decide +kernel
theorem dX5_obeys_160 : decode cX5_obeys 160 = .ok (.ireturn, 1) := by decide +kernel
theorem dX5_obeys_161 : decode cX5_obeys 161 = .ok (.iconst 0, 1) := by decide +kernel
theorem dX5_obeys_162 : decode cX5_obeys 162 = .ok (.ireturn, 1) := by decide +kernel
theorem dX6_beyond_0 : decode cX6_beyond 0 = .ok (.lconst 1, 1) := by decide +kernel
theorem dX6_beyond_1 : decode cX6_beyond 1 = .ok (.lstore_n 1, 1) := by decide +kernel
theorem dX6_beyond_2 : decode cX6_beyond 2 = .ok (.iconst 0, 1) := by decide +kernel
theorem dX6_beyond_3 : decode cX6_beyond 3 = .ok (.istore_n 3, 1) := by decide +kernel
theorem dX6_beyond_4 : decode cX6_beyond 4 = .ok (.iload_n 3, 1) := by decide +kernel
theorem dX6_beyond_5 : decode cX6_beyond 5 = .ok (.iload_n 0, 1) := by decide +kernel
theorem dX6_beyond_6 : decode cX6_beyond 6 = .ok (.if_icmp .ge 20, 3) := by decide +kernel
theorem dX6_beyond_9 : decode cX6_beyond 9 = .ok (.iload_n 3, 1) := by decide +kernel
theorem dX6_beyond_10 : decode cX6_beyond 10 = .ok (.iconst 3, 1) := by decide +kernel
theorem dX6_beyond_11 : decode cX6_beyond 11 = .ok (.if_icmp .ge 15, 3) := by decide +kernel
theorem dX6_beyond_14 : decode cX6_beyond 14 = .ok (.lload_n 1, 1) := by decide +kernel
theorem dX6_beyond_15 : decode cX6_beyond 15 = .ok (.ldc2_w 11, 3) := by decide +kernel
theorem dX6_beyond_18 : decode cX6_beyond 18 = .ok (.lmul, 1) := by decide +kernel
theorem dX6_beyond_19 : decode cX6_beyond 19 = .ok (.lstore_n 1, 1) := by decide +kernel
theorem dX6_beyond_20 : decode cX6_beyond 20 = .ok (.iinc 3 1, 3) := by decide +kernel
theorem dX6_beyond_23 : decode cX6_beyond 23 = .ok (.goto (-19), 3) := by decide +kernel
theorem dX6_beyond_26 : decode cX6_beyond 26 = .ok (.lload_n 1, 1) := by decide +kernel
theorem dX6_beyond_27 : decode cX6_beyond 27 = .ok (.lreturn, 1) := by decide +kernel
theorem dX6_group_0 : decode cX6_group 0 = .ok (.lload_n 0, 1) := by decide +kernel
theorem dX6_group_1 : decode cX6_group 1 = .ok (.lstore 4, 2) := by decide +kernel
theorem dX6_group_3 : decode cX6_group 3 = .ok (.iload_n 2, 1) := by decide +kernel
theorem dX6_group_4 : decode cX6_group 4 = .ok (.iconst 1, 1) := by decide +kernel
theorem dX6_group_5 : decode cX6_group 5 = .ok (.isub, 1) := by decide +kernel
theorem dX6_group_6 : decode cX6_group 6 = .ok (.istore 6, 2) := by decide +kernel
theorem dX6_group_8 : decode cX6_group 8 = .ok (.iload 6, 2) := by decide +kernel
theorem dX6_group_10 : decode cX6_group 10 = .ok (.iload_n 3, 1) := by decide +kernel
theorem dX6_group_11 : decode cX6_group 11 = .ok (.if_icmp .le 17, 3) := by decide +kernel
theorem dX6_group_14 : decode cX6_group 14 = .ok (.lload 4, 2) := by decide +kernel
theorem dX6_group_16 : decode cX6_group 16 = .ok (.ldc2_w 11, 3) := by decide +kernel
theorem dX6_group_19 : decode cX6_group 19 = .ok (.ldiv, 1) := by decide +kernel
theorem dX6_group_20 : decode cX6_group 20 = .ok (.lstore 4, 2) := by decide +kernel
theorem dX6_group_22 : decode cX6_group 22 = .ok (.iinc 6 (-1), 3) := by decide +kernel
theorem dX6_group_25 : decode cX6_group 25 = .ok (.goto (-17), 3) := by decide +kernel
theorem dX6_group_28 : decode cX6_group 28 = .ok (.lload 4, 2) := by decide +kernel
theorem dX6_group_30 : decode cX6_group 30 = .ok (.ldc2_w 11, 3) := by decide +kernel
theorem dX6_group_33 : decode cX6_group 33 = .ok (.lrem, 1) := by decide +kernel
theorem dX6_group_34 : decode cX6_group 34 = .ok (.l2i, 1) := by decide +kernel
theorem dX6_group_35 : decode cX6_group 35 = .ok (.ireturn, 1) := by decide +kernel
theorem dX6_succeeds_0 : decode cX6_succeeds 0 = .ok (.iload_n 1, 1) := by decide +kernel
theorem dX6_succeeds_1 : decode cX6_succeeds 1 = .ok (.ldc 13, 2) := by decide +kernel
theorem dX6_succeeds_3 : decode cX6_succeeds 3 = .ok (.idiv, 1) := by decide +kernel
theorem dX6_succeeds_4 : decode cX6_succeeds 4 = .ok (.istore_n 2, 1) := by decide +kernel
theorem dX6_succeeds_5 : decode cX6_succeeds 5 = .ok (.iload_n 1, 1) := by decide +kernel
theorem dX6_succeeds_6 : decode cX6_succeeds 6 = .ok (.sipush 10000, 3) := by decide +kernel
theorem dX6_succeeds_9 : decode cX6_succeeds 9 = .ok (.idiv, 1) := by decide +kernel
theorem dX6_succeeds_10 : decode cX6_succeeds 10 = .ok (.bipush 10, 2) := by decide +kernel
theorem dX6_succeeds_12 : decode cX6_succeeds 12 = .ok (.irem, 1) := by decide +kernel
theorem dX6_succeeds_13 : decode cX6_succeeds 13 = .ok (.istore_n 3, 1) := by decide +kernel
theorem dX6_succeeds_14 : decode cX6_succeeds 14 = .ok (.iload_n 1, 1) := by decide +kernel
theorem dX6_succeeds_15 : decode cX6_succeeds 15 = .ok (.sipush 1000, 3) := by decide +kernel
theorem dX6_succeeds_18 : decode cX6_succeeds 18 = .ok (.idiv, 1) := by decide +kernel
theorem dX6_succeeds_19 : decode cX6_succeeds 19 = .ok (.bipush 10, 2) := by decide +kernel
theorem dX6_succeeds_21 : decode cX6_succeeds 21 = .ok (.irem, 1) := by decide +kernel
theorem dX6_succeeds_22 : decode cX6_succeeds 22 = .ok (.istore 4, 2) := by decide +kernel
theorem dX6_succeeds_24 : decode cX6_succeeds 24 = .ok (.iload_n 1, 1) := by decide +kernel
theorem dX6_succeeds_25 : decode cX6_succeeds 25 = .ok (.bipush 10, 2) := by decide +kernel
theorem dX6_succeeds_27 : decode cX6_succeeds 27 = .ok (.idiv, 1) := by decide +kernel
theorem dX6_succeeds_28 : decode cX6_succeeds 28 = .ok (.bipush 10, 2) := by decide +kernel
theorem dX6_succeeds_30 : decode cX6_succeeds 30 = .ok (.irem, 1) := by decide +kernel
theorem dX6_succeeds_31 : decode cX6_succeeds 31 = .ok (.istore 5, 2) := by decide +kernel
theorem dX6_succeeds_33 : decode cX6_succeeds 33 = .ok (.iload_n 1, 1) := by decide +kernel
theorem dX6_succeeds_34 : decode cX6_succeeds 34 = .ok (.bipush 10, 2) := by decide +kernel
theorem dX6_succeeds_36 : decode cX6_succeeds 36 = .ok (.irem, 1) := by decide +kernel
theorem dX6_succeeds_37 : decode cX6_succeeds 37 = .ok (.istore 6, 2) := by decide +kernel
theorem dX6_succeeds_39 : decode cX6_succeeds 39 = .ok (.iload_n 2, 1) := by decide +kernel
theorem dX6_succeeds_40 : decode cX6_succeeds 40 = .ok (.tableswitch 312 1 9 #[52, 81, 111, 138, 165, 192, 219, 247, 279], 52) := by decide +kernel
theorem dX6_succeeds_92 : decode cX6_succeeds 92 = .ok (.iload 6, 2) := by decide +kernel
theorem dX6_succeeds_94 : decode cX6_succeeds 94 = .ok (.ifCond .ne 25, 3) := by decide +kernel
theorem dX6_succeeds_97 : decode cX6_succeeds 97 = .ok (.aload_n 0, 1) := by decide +kernel
theorem dX6_succeeds_98 : decode cX6_succeeds 98 = .ok (.iload_n 3, 1) := by decide +kernel
theorem dX6_succeeds_99 : decode cX6_succeeds 99 = .ok (.iload 4, 2) := by decide +kernel
theorem dX6_succeeds_101 : decode cX6_succeeds 101 = .ok (.iconst 1, 1) := by decide +kernel
theorem dX6_succeeds_102 : decode cX6_succeeds 102 = .ok (.iload_n 1, 1) := by decide +kernel
theorem dX6_succeeds_103 : decode cX6_succeeds 103 = .ok (.bipush 10, 2) := by decide +kernel
theorem dX6_succeeds_105 : decode cX6_succeeds 105 = .ok (.idiv, 1) := by decide +kernel
theorem dX6_succeeds_106 : decode cX6_succeeds 106 = .ok (.bipush 100, 2) := by decide +kernel
theorem dX6_succeeds_108 : decode cX6_succeeds 108 = .ok (.irem, 1) := by decide +kernel
theorem dX6_succeeds_109 : decode cX6_succeeds 109 = .ok (.invokevirtual 14, 3) := by decide +kernel
theorem dX6_succeeds_112 : decode cX6_succeeds 112 = .ok (.ifCond .eq 7, 3) := by decide +kernel
theorem dX6_succeeds_115 : decode cX6_succeeds 115 = .ok (.iconst 1, 1) := by decide +kernel
theorem dX6_succeeds_116 : decode cX6_succeeds 116 = .ok (.goto 4, 3) := by decide +kernel
theorem dX6_succeeds_119 : decode cX6_succeeds 119 = .ok (.iconst 0, 1) := by decide +kernel
theorem dX6_succeeds_120 : decode cX6_succeeds 120 = .ok (.ireturn, 1) := by decide +kernel
theorem dX6_succeeds_121 : decode cX6_succeeds 121 = .ok (.iload_n 1, 1) := by decide +kernel
theorem dX6_succeeds_122 : decode cX6_succeeds 122 = .ok (.bipush 100, 2) := by decide +kernel
theorem dX6_succeeds_124 : decode cX6_succeeds 124 = .ok (.irem, 1) := by decide +kernel
theorem dX6_succeeds_125 : decode cX6_succeeds 125 = .ok (.ifCond .ne 24, 3) := by decide +kernel
theorem dX6_succeeds_128 : decode cX6_succeeds 128 = .ok (.aload_n 0, 1) := by decide +kernel
theorem dX6_succeeds_129 : decode cX6_succeeds 129 = .ok (.iload_n 3, 1) := by decide +kernel
theorem dX6_succeeds_130 : decode cX6_succeeds 130 = .ok (.iconst 1, 1) := by decide +kernel
theorem dX6_succeeds_131 : decode cX6_succeeds 131 = .ok (.iload_n 1, 1) := by decide +kernel
theorem dX6_succeeds_132 : decode cX6_succeeds 132 = .ok (.bipush 100, 2) := by decide +kernel
theorem dX6_succeeds_134 : decode cX6_succeeds 134 = .ok (.idiv, 1) := by decide +kernel
theorem dX6_succeeds_135 : decode cX6_succeeds 135 = .ok (.bipush 100, 2) := by decide +kernel
theorem dX6_succeeds_137 : decode cX6_succeeds 137 = .ok (.irem, 1) := by decide +kernel
theorem dX6_succeeds_138 : decode cX6_succeeds 138 = .ok (.invokevirtual 20, 3) := by decide +kernel
theorem dX6_succeeds_141 : decode cX6_succeeds 141 = .ok (.iconst (-1), 1) := by decide +kernel
theorem dX6_succeeds_142 : decode cX6_succeeds 142 = .ok (.if_icmp .eq 7, 3) := by decide +kernel
theorem dX6_succeeds_145 : decode cX6_succeeds 145 = .ok (.iconst 1, 1) := by decide +kernel
theorem dX6_succeeds_146 : decode cX6_succeeds 146 = .ok (.goto 4, 3) := by decide +kernel
theorem dX6_succeeds_149 : decode cX6_succeeds 149 = .ok (.iconst 0, 1) := by decide +kernel
theorem dX6_succeeds_150 : decode cX6_succeeds 150 = .ok (.ireturn, 1) := by decide +kernel
theorem dX6_succeeds_151 : decode cX6_succeeds 151 = .ok (.iload_n 1, 1) := by decide +kernel
theorem dX6_succeeds_152 : decode cX6_succeeds 152 = .ok (.bipush 10, 2) := by decide +kernel
theorem dX6_succeeds_154 : decode cX6_succeeds 154 = .ok (.idiv, 1) := by decide +kernel
theorem dX6_succeeds_155 : decode cX6_succeeds 155 = .ok (.sipush 10000, 3) := by decide +kernel
theorem dX6_succeeds_158 : decode cX6_succeeds 158 = .ok (.irem, 1) := by decide +kernel
theorem dX6_succeeds_159 : decode cX6_succeeds 159 = .ok (.ifCond .ne 17, 3) := by decide +kernel
theorem dX6_succeeds_162 : decode cX6_succeeds 162 = .ok (.aload_n 0, 1) := by decide +kernel
theorem dX6_succeeds_163 : decode cX6_succeeds 163 = .ok (.iload 6, 2) := by decide +kernel
theorem dX6_succeeds_165 : decode cX6_succeeds 165 = .ok (.invokevirtual 24, 3) := by decide +kernel
theorem dX6_succeeds_168 : decode cX6_succeeds 168 = .ok (.iconst (-1), 1) := by decide +kernel
theorem dX6_succeeds_169 : decode cX6_succeeds 169 = .ok (.if_icmp .eq 7, 3) := by decide +kernel
theorem dX6_succeeds_172 : decode cX6_succeeds 172 = .ok (.iconst 1, 1) := by decide +kernel
theorem dX6_succeeds_173 : decode cX6_succeeds 173 = .ok (.goto 4, 3) := by decide +kernel
theorem dX6_succeeds_176 : decode cX6_succeeds 176 = .ok (.iconst 0, 1) := by decide +kernel
theorem dX6_succeeds_177 : decode cX6_succeeds 177 = .ok (.ireturn, 1) := by decide +kernel
theorem dX6_succeeds_178 : decode cX6_succeeds 178 = .ok (.iload_n 1, 1) := by decide +kernel
theorem dX6_succeeds_179 : decode cX6_succeeds 179 = .ok (.bipush 10, 2) := by decide +kernel
theorem dX6_succeeds_181 : decode cX6_succeeds 181 = .ok (.idiv, 1) := by decide +kernel
theorem dX6_succeeds_182 : decode cX6_succeeds 182 = .ok (.sipush 1000, 3) := by decide +kernel
theorem dX6_succeeds_185 : decode cX6_succeeds 185 = .ok (.irem, 1) := by decide +kernel
theorem dX6_succeeds_186 : decode cX6_succeeds 186 = .ok (.ifCond .ne 17, 3) := by decide +kernel
theorem dX6_succeeds_189 : decode cX6_succeeds 189 = .ok (.aload_n 0, 1) := by decide +kernel
theorem dX6_succeeds_190 : decode cX6_succeeds 190 = .ok (.iload_n 3, 1) := by decide +kernel
theorem dX6_succeeds_191 : decode cX6_succeeds 191 = .ok (.iload 6, 2) := by decide +kernel
theorem dX6_succeeds_193 : decode cX6_succeeds 193 = .ok (.invokevirtual 28, 3) := by decide +kernel
theorem dX6_succeeds_196 : decode cX6_succeeds 196 = .ok (.ifCond .eq 7, 3) := by decide +kernel
theorem dX6_succeeds_199 : decode cX6_succeeds 199 = .ok (.iconst 1, 1) := by decide +kernel
theorem dX6_succeeds_200 : decode cX6_succeeds 200 = .ok (.goto 4, 3) := by decide +kernel
theorem dX6_succeeds_203 : decode cX6_succeeds 203 = .ok (.iconst 0, 1) := by decide +kernel
theorem dX6_succeeds_204 : decode cX6_succeeds 204 = .ok (.ireturn, 1) := by decide +kernel
theorem dX6_succeeds_205 : decode cX6_succeeds 205 = .ok (.iload_n 1, 1) := by decide +kernel
theorem dX6_succeeds_206 : decode cX6_succeeds 206 = .ok (.bipush 10, 2) := by decide +kernel
theorem dX6_succeeds_208 : decode cX6_succeeds 208 = .ok (.idiv, 1) := by decide +kernel
theorem dX6_succeeds_209 : decode cX6_succeeds 209 = .ok (.sipush 1000, 3) := by decide +kernel
theorem dX6_succeeds_212 : decode cX6_succeeds 212 = .ok (.irem, 1) := by decide +kernel
theorem dX6_succeeds_213 : decode cX6_succeeds 213 = .ok (.ifCond .ne 17, 3) := by decide +kernel
theorem dX6_succeeds_216 : decode cX6_succeeds 216 = .ok (.aload_n 0, 1) := by decide +kernel
theorem dX6_succeeds_217 : decode cX6_succeeds 217 = .ok (.iload_n 3, 1) := by decide +kernel
theorem dX6_succeeds_218 : decode cX6_succeeds 218 = .ok (.iload 6, 2) := by decide +kernel
theorem dX6_succeeds_220 : decode cX6_succeeds 220 = .ok (.invokevirtual 32, 3) := by decide +kernel
theorem dX6_succeeds_223 : decode cX6_succeeds 223 = .ok (.ifCond .eq 7, 3) := by decide +kernel
theorem dX6_succeeds_226 : decode cX6_succeeds 226 = .ok (.iconst 1, 1) := by decide +kernel
theorem dX6_succeeds_227 : decode cX6_succeeds 227 = .ok (.goto 4, 3) := by decide +kernel
theorem dX6_succeeds_230 : decode cX6_succeeds 230 = .ok (.iconst 0, 1) := by decide +kernel
theorem dX6_succeeds_231 : decode cX6_succeeds 231 = .ok (.ireturn, 1) := by decide +kernel
theorem dX6_succeeds_232 : decode cX6_succeeds 232 = .ok (.iload_n 1, 1) := by decide +kernel
theorem dX6_succeeds_233 : decode cX6_succeeds 233 = .ok (.bipush 10, 2) := by decide +kernel
theorem dX6_succeeds_235 : decode cX6_succeeds 235 = .ok (.idiv, 1) := by decide +kernel
theorem dX6_succeeds_236 : decode cX6_succeeds 236 = .ok (.sipush 1000, 3) := by decide +kernel
theorem dX6_succeeds_239 : decode cX6_succeeds 239 = .ok (.irem, 1) := by decide +kernel
theorem dX6_succeeds_240 : decode cX6_succeeds 240 = .ok (.ifCond .ne 17, 3) := by decide +kernel
theorem dX6_succeeds_243 : decode cX6_succeeds 243 = .ok (.aload_n 0, 1) := by decide +kernel
theorem dX6_succeeds_244 : decode cX6_succeeds 244 = .ok (.iload_n 3, 1) := by decide +kernel
theorem dX6_succeeds_245 : decode cX6_succeeds 245 = .ok (.iload 6, 2) := by decide +kernel
theorem dX6_succeeds_247 : decode cX6_succeeds 247 = .ok (.invokestatic 35, 3) := by decide +kernel
theorem dX6_succeeds_250 : decode cX6_succeeds 250 = .ok (.ifCond .eq 7, 3) := by decide +kernel
theorem dX6_succeeds_253 : decode cX6_succeeds 253 = .ok (.iconst 1, 1) := by decide +kernel
theorem dX6_succeeds_254 : decode cX6_succeeds 254 = .ok (.goto 4, 3) := by decide +kernel
theorem dX6_succeeds_257 : decode cX6_succeeds 257 = .ok (.iconst 0, 1) := by decide +kernel
theorem dX6_succeeds_258 : decode cX6_succeeds 258 = .ok (.ireturn, 1) := by decide +kernel
theorem dX6_succeeds_259 : decode cX6_succeeds 259 = .ok (.iload 6, 2) := by decide +kernel
theorem dX6_succeeds_261 : decode cX6_succeeds 261 = .ok (.ifCond .ne 24, 3) := by decide +kernel
theorem dX6_succeeds_264 : decode cX6_succeeds 264 = .ok (.aload_n 0, 1) := by decide +kernel
theorem dX6_succeeds_265 : decode cX6_succeeds 265 = .ok (.iload_n 3, 1) := by decide +kernel
theorem dX6_succeeds_266 : decode cX6_succeeds 266 = .ok (.iload_n 1, 1) := by decide +kernel
theorem dX6_succeeds_267 : decode cX6_succeeds 267 = .ok (.bipush 100, 2) := by decide +kernel
theorem dX6_succeeds_269 : decode cX6_succeeds 269 = .ok (.idiv, 1) := by decide +kernel
theorem dX6_succeeds_270 : decode cX6_succeeds 270 = .ok (.bipush 100, 2) := by decide +kernel
theorem dX6_succeeds_272 : decode cX6_succeeds 272 = .ok (.irem, 1) := by decide +kernel
theorem dX6_succeeds_273 : decode cX6_succeeds 273 = .ok (.iload 5, 2) := by decide +kernel
theorem dX6_succeeds_275 : decode cX6_succeeds 275 = .ok (.invokestatic 39, 3) := by decide +kernel
theorem dX6_succeeds_278 : decode cX6_succeeds 278 = .ok (.ifCond .eq 7, 3) := by decide +kernel
theorem dX6_succeeds_281 : decode cX6_succeeds 281 = .ok (.iconst 1, 1) := by decide +kernel
theorem dX6_succeeds_282 : decode cX6_succeeds 282 = .ok (.goto 4, 3) := by decide +kernel
theorem dX6_succeeds_285 : decode cX6_succeeds 285 = .ok (.iconst 0, 1) := by decide +kernel
theorem dX6_succeeds_286 : decode cX6_succeeds 286 = .ok (.ireturn, 1) := by decide +kernel
theorem dX6_succeeds_287 : decode cX6_succeeds 287 = .ok (.iload_n 1, 1) := by decide +kernel
theorem dX6_succeeds_288 : decode cX6_succeeds 288 = .ok (.bipush 100, 2) := by decide +kernel
theorem dX6_succeeds_290 : decode cX6_succeeds 290 = .ok (.idiv, 1) := by decide +kernel
theorem dX6_succeeds_291 : decode cX6_succeeds 291 = .ok (.sipush 1000, 3) := by decide +kernel
theorem dX6_succeeds_294 : decode cX6_succeeds 294 = .ok (.irem, 1) := by decide +kernel
theorem dX6_succeeds_295 : decode cX6_succeeds 295 = .ok (.ifCond .ne 22, 3) := by decide +kernel
theorem dX6_succeeds_298 : decode cX6_succeeds 298 = .ok (.aload_n 0, 1) := by decide +kernel
theorem dX6_succeeds_299 : decode cX6_succeeds 299 = .ok (.getfield 43, 3) := by decide +kernel
theorem dX6_succeeds_302 : decode cX6_succeeds 302 = .ok (.iconst 1, 1) := by decide +kernel
theorem dX6_succeeds_303 : decode cX6_succeeds 303 = .ok (.invokevirtual 47, 3) := by decide +kernel
theorem dX6_succeeds_306 : decode cX6_succeeds 306 = .ok (.iload_n 1, 1) := by decide +kernel
theorem dX6_succeeds_307 : decode cX6_succeeds 307 = .ok (.bipush 100, 2) := by decide +kernel
theorem dX6_succeeds_309 : decode cX6_succeeds 309 = .ok (.irem, 1) := by decide +kernel
theorem dX6_succeeds_310 : decode cX6_succeeds 310 = .ok (.if_icmp .lt 7, 3) := by decide +kernel
theorem dX6_succeeds_313 : decode cX6_succeeds 313 = .ok (.iconst 1, 1) := by decide +kernel
theorem dX6_succeeds_314 : decode cX6_succeeds 314 = .ok (.goto 4, 3) := by decide +kernel
theorem dX6_succeeds_317 : decode cX6_succeeds 317 = .ok (.iconst 0, 1) := by decide +kernel
theorem dX6_succeeds_318 : decode cX6_succeeds 318 = .ok (.ireturn, 1) := by decide +kernel
theorem dX6_succeeds_319 : decode cX6_succeeds 319 = .ok (.iload_n 1, 1) := by decide +kernel
theorem dX6_succeeds_320 : decode cX6_succeeds 320 = .ok (.bipush 10, 2) := by decide +kernel
theorem dX6_succeeds_322 : decode cX6_succeeds 322 = .ok (.idiv, 1) := by decide +kernel
theorem dX6_succeeds_323 : decode cX6_succeeds 323 = .ok (.bipush 100, 2) := by decide +kernel
theorem dX6_succeeds_325 : decode cX6_succeeds 325 = .ok (.irem, 1) := by decide +kernel
theorem dX6_succeeds_326 : decode cX6_succeeds 326 = .ok (.ifCond .ne 24, 3) := by decide +kernel
theorem dX6_succeeds_329 : decode cX6_succeeds 329 = .ok (.aload_n 0, 1) := by decide +kernel
theorem dX6_succeeds_330 : decode cX6_succeeds 330 = .ok (.iload_n 1, 1) := by decide +kernel
theorem dX6_succeeds_331 : decode cX6_succeeds 331 = .ok (.sipush 1000, 3) := by decide +kernel
theorem dX6_succeeds_334 : decode cX6_succeeds 334 = .ok (.idiv, 1) := by decide +kernel
theorem dX6_succeeds_335 : decode cX6_succeeds 335 = .ok (.bipush 100, 2) := by decide +kernel
theorem dX6_succeeds_337 : decode cX6_succeeds 337 = .ok (.irem, 1) := by decide +kernel
theorem dX6_succeeds_338 : decode cX6_succeeds 338 = .ok (.iload 6, 2) := by decide +kernel
theorem dX6_succeeds_340 : decode cX6_succeeds 340 = .ok (.invokestatic 52, 3) := by decide +kernel
theorem dX6_succeeds_343 : decode cX6_succeeds 343 = .ok (.ifCond .eq 7, 3) := by decide +kernel
theorem dX6_succeeds_346 : decode cX6_succeeds 346 = .ok (.iconst 1, 1) := by decide +kernel
theorem dX6_succeeds_347 : decode cX6_succeeds 347 = .ok (.goto 4, 3) := by decide +kernel
theorem dX6_succeeds_350 : decode cX6_succeeds 350 = .ok (.iconst 0, 1) := by decide +kernel
theorem dX6_succeeds_351 : decode cX6_succeeds 351 = .ok (.ireturn, 1) := by decide +kernel
theorem dX6_succeeds_352 : decode cX6_succeeds 352 = .ok (.iconst 0, 1) := by decide +kernel
theorem dX6_succeeds_353 : decode cX6_succeeds 353 = .ok (.ireturn, 1) := by decide +kernel
theorem dX6_hasNames_0 : decode cX6_hasNames 0 = .ok (.aload_n 0, 1) := by decide +kernel
theorem dX6_hasNames_1 : decode cX6_hasNames 1 = .ok (.getfield 55, 3) := by decide +kernel
theorem dX6_hasNames_4 : decode cX6_hasNames 4 = .ok (.iload_n 1, 1) := by decide +kernel
theorem dX6_hasNames_5 : decode cX6_hasNames 5 = .ok (.invokevirtual 59, 3) := by decide +kernel
theorem dX6_hasNames_8 : decode cX6_hasNames 8 = .ok (.ifCond .eq 19, 3) := by decide +kernel
theorem dX6_hasNames_11 : decode cX6_hasNames 11 = .ok (.aload_n 0, 1) := by decide +kernel
theorem dX6_hasNames_12 : decode cX6_hasNames 12 = .ok (.getfield 43, 3) := by decide +kernel
theorem dX6_hasNames_15 : decode cX6_hasNames 15 = .ok (.iload_n 1, 1) := by decide +kernel
theorem dX6_hasNames_16 : decode cX6_hasNames 16 = .ok (.invokevirtual 65, 3) := by decide +kernel
theorem dX6_hasNames_19 : decode cX6_hasNames 19 = .ok (.iload_n 2, 1) := by decide +kernel
theorem dX6_hasNames_20 : decode cX6_hasNames 20 = .ok (.if_icmp .lt 7, 3) := by decide +kernel
theorem dX6_hasNames_23 : decode cX6_hasNames 23 = .ok (.iconst 1, 1) := by decide +kernel
theorem dX6_hasNames_24 : decode cX6_hasNames 24 = .ok (.goto 4, 3) := by decide +kernel
theorem dX6_hasNames_27 : decode cX6_hasNames 27 = .ok (.iconst 0, 1) := by decide +kernel
theorem dX6_hasNames_28 : decode cX6_hasNames 28 = .ok (.ireturn, 1) := by decide +kernel
theorem dX6_means_0 : decode cX6_means 0 = .ok (.iload_n 1, 1) := by decide +kernel
theorem dX6_means_1 : decode cX6_means 1 = .ok (.invokestatic 68, 3) := by decide +kernel
theorem dX6_means_4 : decode cX6_means 4 = .ok (.ifCond .eq 37, 3) := by decide +kernel
theorem dX6_means_7 : decode cX6_means 7 = .ok (.iconst 1, 1) := by decide +kernel
theorem dX6_means_8 : decode cX6_means 8 = .ok (.iload_n 2, 1) := by decide +kernel
theorem dX6_means_9 : decode cX6_means 9 = .ok (.invokestatic 71, 3) := by decide +kernel
theorem dX6_means_12 : decode cX6_means 12 = .ok (.ifCond .eq 29, 3) := by decide +kernel
theorem dX6_means_15 : decode cX6_means 15 = .ok (.aload_n 0, 1) := by decide +kernel
theorem dX6_means_16 : decode cX6_means 16 = .ok (.getfield 55, 3) := by decide +kernel
theorem dX6_means_19 : decode cX6_means 19 = .ok (.iload_n 3, 1) := by decide +kernel
theorem dX6_means_20 : decode cX6_means 20 = .ok (.invokevirtual 59, 3) := by decide +kernel
theorem dX6_means_23 : decode cX6_means 23 = .ok (.ifCond .eq 18, 3) := by decide +kernel
theorem dX6_means_26 : decode cX6_means 26 = .ok (.aload_n 0, 1) := by decide +kernel
theorem dX6_means_27 : decode cX6_means 27 = .ok (.iload_n 1, 1) := by decide +kernel
theorem dX6_means_28 : decode cX6_means 28 = .ok (.iconst 1, 1) := by decide +kernel
theorem dX6_means_29 : decode cX6_means 29 = .ok (.iload_n 2, 1) := by decide +kernel
theorem dX6_means_30 : decode cX6_means 30 = .ok (.invokevirtual 76, 3) := by decide +kernel
theorem dX6_means_33 : decode cX6_means 33 = .ok (.iload_n 3, 1) := by decide +kernel
theorem dX6_means_34 : decode cX6_means 34 = .ok (.if_icmp .ne 7, 3) := by decide +kernel
theorem dX6_means_37 : decode cX6_means 37 = .ok (.iconst 1, 1) := by decide +kernel
theorem dX6_means_38 : decode cX6_means 38 = .ok (.goto 4, 3) := by decide +kernel
theorem dX6_means_41 : decode cX6_means 41 = .ok (.iconst 0, 1) := by decide +kernel
theorem dX6_means_42 : decode cX6_means 42 = .ok (.ireturn, 1) := by decide +kernel
theorem dX6_isInState_0 : decode cX6_isInState 0 = .ok (.aload_n 0, 1) := by decide +kernel
theorem dX6_isInState_1 : decode cX6_isInState 1 = .ok (.getfield 43, 3) := by decide +kernel
theorem dX6_isInState_4 : decode cX6_isInState 4 = .ok (.iload_n 1, 1) := by decide +kernel
theorem dX6_isInState_5 : decode cX6_isInState 5 = .ok (.invokevirtual 79, 3) := by decide +kernel
theorem dX6_isInState_8 : decode cX6_isInState 8 = .ok (.ifCond .eq 20, 3) := by decide +kernel
theorem dX6_isInState_11 : decode cX6_isInState 11 = .ok (.aload_n 0, 1) := by decide +kernel
theorem dX6_isInState_12 : decode cX6_isInState 12 = .ok (.getfield 43, 3) := by decide +kernel
theorem dX6_isInState_15 : decode cX6_isInState 15 = .ok (.getfield 80, 3) := by decide +kernel
theorem dX6_isInState_18 : decode cX6_isInState 18 = .ok (.iload_n 1, 1) := by decide +kernel
theorem dX6_isInState_19 : decode cX6_isInState 19 = .ok (.iaload, 1) := by decide +kernel
theorem dX6_isInState_20 : decode cX6_isInState 20 = .ok (.iload_n 2, 1) := by decide +kernel
theorem dX6_isInState_21 : decode cX6_isInState 21 = .ok (.if_icmp .ne 7, 3) := by decide +kernel
theorem dX6_isInState_24 : decode cX6_isInState 24 = .ok (.iconst 1, 1) := by decide +kernel
theorem dX6_isInState_25 : decode cX6_isInState 25 = .ok (.goto 4, 3) := by decide +kernel
theorem dX6_isInState_28 : decode cX6_isInState 28 = .ok (.iconst 0, 1) := by decide +kernel
theorem dX6_isInState_29 : decode cX6_isInState 29 = .ok (.ireturn, 1) := by decide +kernel
theorem dX7_takeTurn_0 : decode cX7_takeTurn 0 = .ok (.iload_n 1, 1) := by decide +kernel
theorem dX7_takeTurn_1 : decode cX7_takeTurn 1 = .ok (.bipush 16, 2) := by decide +kernel
theorem dX7_takeTurn_3 : decode cX7_takeTurn 3 = .ok (.idiv, 1) := by decide +kernel
theorem dX7_takeTurn_4 : decode cX7_takeTurn 4 = .ok (.istore_n 2, 1) := by decide +kernel
theorem dX7_takeTurn_5 : decode cX7_takeTurn 5 = .ok (.iload_n 1, 1) := by decide +kernel
theorem dX7_takeTurn_6 : decode cX7_takeTurn 6 = .ok (.bipush 16, 2) := by decide +kernel
theorem dX7_takeTurn_8 : decode cX7_takeTurn 8 = .ok (.irem, 1) := by decide +kernel
theorem dX7_takeTurn_9 : decode cX7_takeTurn 9 = .ok (.tableswitch 179 0 13 #[71, 71, 97, 97, 97, 97, 125, 125, 125, 125, 125, 125, 143, 161], 71) := by decide +kernel
theorem dX7_takeTurn_80 : decode cX7_takeTurn 80 = .ok (.aload_n 0, 1) := by decide +kernel
theorem dX7_takeTurn_81 : decode cX7_takeTurn 81 = .ok (.iload_n 2, 1) := by decide +kernel
theorem dX7_takeTurn_82 : decode cX7_takeTurn 82 = .ok (.bipush 60, 2) := by decide +kernel
theorem dX7_takeTurn_84 : decode cX7_takeTurn 84 = .ok (.irem, 1) := by decide +kernel
theorem dX7_takeTurn_85 : decode cX7_takeTurn 85 = .ok (.iload_n 2, 1) := by decide +kernel
theorem dX7_takeTurn_86 : decode cX7_takeTurn 86 = .ok (.bipush 64, 2) := by decide +kernel
theorem dX7_takeTurn_88 : decode cX7_takeTurn 88 = .ok (.idiv, 1) := by decide +kernel
theorem dX7_takeTurn_89 : decode cX7_takeTurn 89 = .ok (.bipush 6, 2) := by decide +kernel
theorem dX7_takeTurn_91 : decode cX7_takeTurn 91 = .ok (.irem, 1) := by decide +kernel
theorem dX7_takeTurn_92 : decode cX7_takeTurn 92 = .ok (.iload_n 2, 1) := by decide +kernel
theorem dX7_takeTurn_93 : decode cX7_takeTurn 93 = .ok (.sipush 512, 3) := by decide +kernel
theorem dX7_takeTurn_96 : decode cX7_takeTurn 96 = .ok (.idiv, 1) := by decide +kernel
theorem dX7_takeTurn_97 : decode cX7_takeTurn 97 = .ok (.iconst 4, 1) := by decide +kernel
theorem dX7_takeTurn_98 : decode cX7_takeTurn 98 = .ok (.irem, 1) := by decide +kernel
theorem dX7_takeTurn_99 : decode cX7_takeTurn 99 = .ok (.invokevirtual 7, 3) := by decide +kernel
theorem dX7_takeTurn_102 : decode cX7_takeTurn 102 = .ok (.pop, 1) := by decide +kernel
theorem dX7_takeTurn_103 : decode cX7_takeTurn 103 = .ok (.goto 95, 3) := by decide +kernel
theorem dX7_takeTurn_106 : decode cX7_takeTurn 106 = .ok (.aload_n 0, 1) := by decide +kernel
theorem dX7_takeTurn_107 : decode cX7_takeTurn 107 = .ok (.iload_n 2, 1) := by decide +kernel
theorem dX7_takeTurn_108 : decode cX7_takeTurn 108 = .ok (.bipush 12, 2) := by decide +kernel
theorem dX7_takeTurn_110 : decode cX7_takeTurn 110 = .ok (.irem, 1) := by decide +kernel
theorem dX7_takeTurn_111 : decode cX7_takeTurn 111 = .ok (.iload_n 2, 1) := by decide +kernel
theorem dX7_takeTurn_112 : decode cX7_takeTurn 112 = .ok (.bipush 16, 2) := by decide +kernel
theorem dX7_takeTurn_114 : decode cX7_takeTurn 114 = .ok (.idiv, 1) := by decide +kernel
theorem dX7_takeTurn_115 : decode cX7_takeTurn 115 = .ok (.bipush 12, 2) := by decide +kernel
theorem dX7_takeTurn_117 : decode cX7_takeTurn 117 = .ok (.irem, 1) := by decide +kernel
theorem dX7_takeTurn_118 : decode cX7_takeTurn 118 = .ok (.iconst 1, 1) := by decide +kernel
theorem dX7_takeTurn_119 : decode cX7_takeTurn 119 = .ok (.iload_n 2, 1) := by decide +kernel
theorem dX7_takeTurn_120 : decode cX7_takeTurn 120 = .ok (.sipush 256, 3) := by decide +kernel
theorem dX7_takeTurn_123 : decode cX7_takeTurn 123 = .ok (.idiv, 1) := by decide +kernel
theorem dX7_takeTurn_124 : decode cX7_takeTurn 124 = .ok (.bipush 8, 2) := by decide +kernel
theorem dX7_takeTurn_126 : decode cX7_takeTurn 126 = .ok (.irem, 1) := by decide +kernel
theorem dX7_takeTurn_127 : decode cX7_takeTurn 127 = .ok (.invokevirtual 13, 3) := by decide +kernel
theorem dX7_takeTurn_130 : decode cX7_takeTurn 130 = .ok (.pop, 1) := by decide +kernel
theorem dX7_takeTurn_131 : decode cX7_takeTurn 131 = .ok (.goto 67, 3) := by decide +kernel
theorem dX7_takeTurn_134 : decode cX7_takeTurn 134 = .ok (.aload_n 0, 1) := by decide +kernel
theorem dX7_takeTurn_135 : decode cX7_takeTurn 135 = .ok (.iload_n 2, 1) := by decide +kernel
theorem dX7_takeTurn_136 : decode cX7_takeTurn 136 = .ok (.iconst 4, 1) := by decide +kernel
theorem dX7_takeTurn_137 : decode cX7_takeTurn 137 = .ok (.irem, 1) := by decide +kernel
theorem dX7_takeTurn_138 : decode cX7_takeTurn 138 = .ok (.iconst 1, 1) := by decide +kernel
theorem dX7_takeTurn_139 : decode cX7_takeTurn 139 = .ok (.iload_n 2, 1) := by decide +kernel
theorem dX7_takeTurn_140 : decode cX7_takeTurn 140 = .ok (.iconst 4, 1) := by decide +kernel
theorem dX7_takeTurn_141 : decode cX7_takeTurn 141 = .ok (.idiv, 1) := by decide +kernel
theorem dX7_takeTurn_142 : decode cX7_takeTurn 142 = .ok (.bipush 8, 2) := by decide +kernel
theorem dX7_takeTurn_144 : decode cX7_takeTurn 144 = .ok (.irem, 1) := by decide +kernel
theorem dX7_takeTurn_145 : decode cX7_takeTurn 145 = .ok (.invokevirtual 17, 3) := by decide +kernel
theorem dX7_takeTurn_148 : decode cX7_takeTurn 148 = .ok (.pop, 1) := by decide +kernel
theorem dX7_takeTurn_149 : decode cX7_takeTurn 149 = .ok (.goto 49, 3) := by decide +kernel
theorem dX7_takeTurn_152 : decode cX7_takeTurn 152 = .ok (.aload_n 0, 1) := by decide +kernel
theorem dX7_takeTurn_153 : decode cX7_takeTurn 153 = .ok (.iload_n 2, 1) := by decide +kernel
theorem dX7_takeTurn_154 : decode cX7_takeTurn 154 = .ok (.bipush 12, 2) := by decide +kernel
theorem dX7_takeTurn_156 : decode cX7_takeTurn 156 = .ok (.irem, 1) := by decide +kernel
theorem dX7_takeTurn_157 : decode cX7_takeTurn 157 = .ok (.iload_n 2, 1) := by decide +kernel
theorem dX7_takeTurn_158 : decode cX7_takeTurn 158 = .ok (.bipush 16, 2) := by decide +kernel
theorem dX7_takeTurn_160 : decode cX7_takeTurn 160 = .ok (.idiv, 1) := by decide +kernel
theorem dX7_takeTurn_161 : decode cX7_takeTurn 161 = .ok (.iconst 4, 1) := by decide +kernel
theorem dX7_takeTurn_162 : decode cX7_takeTurn 162 = .ok (.irem, 1) := by decide +kernel
theorem dX7_takeTurn_163 : decode cX7_takeTurn 163 = .ok (.invokevirtual 21, 3) := by decide +kernel
theorem dX7_takeTurn_166 : decode cX7_takeTurn 166 = .ok (.pop, 1) := by decide +kernel
theorem dX7_takeTurn_167 : decode cX7_takeTurn 167 = .ok (.goto 31, 3) := by decide +kernel
theorem dX7_takeTurn_170 : decode cX7_takeTurn 170 = .ok (.aload_n 0, 1) := by decide +kernel
theorem dX7_takeTurn_171 : decode cX7_takeTurn 171 = .ok (.iload_n 2, 1) := by decide +kernel
theorem dX7_takeTurn_172 : decode cX7_takeTurn 172 = .ok (.iconst 3, 1) := by decide +kernel
theorem dX7_takeTurn_173 : decode cX7_takeTurn 173 = .ok (.irem, 1) := by decide +kernel
theorem dX7_takeTurn_174 : decode cX7_takeTurn 174 = .ok (.iconst 1, 1) := by decide +kernel
theorem dX7_takeTurn_175 : decode cX7_takeTurn 175 = .ok (.iload_n 2, 1) := by decide +kernel
theorem dX7_takeTurn_176 : decode cX7_takeTurn 176 = .ok (.iconst 4, 1) := by decide +kernel
theorem dX7_takeTurn_177 : decode cX7_takeTurn 177 = .ok (.idiv, 1) := by decide +kernel
theorem dX7_takeTurn_178 : decode cX7_takeTurn 178 = .ok (.iconst 4, 1) := by decide +kernel
theorem dX7_takeTurn_179 : decode cX7_takeTurn 179 = .ok (.irem, 1) := by decide +kernel
theorem dX7_takeTurn_180 : decode cX7_takeTurn 180 = .ok (.iadd, 1) := by decide +kernel
theorem dX7_takeTurn_181 : decode cX7_takeTurn 181 = .ok (.invokevirtual 25, 3) := by decide +kernel
theorem dX7_takeTurn_184 : decode cX7_takeTurn 184 = .ok (.pop, 1) := by decide +kernel
theorem dX7_takeTurn_185 : decode cX7_takeTurn 185 = .ok (.goto 13, 3) := by decide +kernel
theorem dX7_takeTurn_188 : decode cX7_takeTurn 188 = .ok (.aload_n 0, 1) := by decide +kernel
theorem dX7_takeTurn_189 : decode cX7_takeTurn 189 = .ok (.iconst 1, 1) := by decide +kernel
theorem dX7_takeTurn_190 : decode cX7_takeTurn 190 = .ok (.iload_n 2, 1) := by decide +kernel
theorem dX7_takeTurn_191 : decode cX7_takeTurn 191 = .ok (.iconst 2, 1) := by decide +kernel
theorem dX7_takeTurn_192 : decode cX7_takeTurn 192 = .ok (.irem, 1) := by decide +kernel
theorem dX7_takeTurn_193 : decode cX7_takeTurn 193 = .ok (.iadd, 1) := by decide +kernel
theorem dX7_takeTurn_194 : decode cX7_takeTurn 194 = .ok (.invokevirtual 28, 3) := by decide +kernel
theorem dX7_takeTurn_197 : decode cX7_takeTurn 197 = .ok (.pop, 1) := by decide +kernel
theorem dX7_takeTurn_198 : decode cX7_takeTurn 198 = .ok (.return_, 1) := by decide +kernel
theorem dX8_init_0 : decode cX8_init 0 = .ok (.aload_n 0, 1) := by decide +kernel
theorem dX8_init_1 : decode cX8_init 1 = .ok (.invokespecial 3, 3) := by decide +kernel
theorem dX8_init_4 : decode cX8_init 4 = .ok (.aload_n 0, 1) := by decide +kernel
theorem dX8_init_5 : decode cX8_init 5 = .ok (.iconst 2, 1) := by decide +kernel
theorem dX8_init_6 : decode cX8_init 6 = .ok (.anewarray 9, 3) := by decide +kernel
theorem dX8_init_9 : decode cX8_init 9 = .ok (.putfield 11, 3) := by decide +kernel
theorem dX8_init_12 : decode cX8_init 12 = .ok (.aload_n 0, 1) := by decide +kernel
theorem dX8_init_13 : decode cX8_init 13 = .ok (.iconst 2, 1) := by decide +kernel
theorem dX8_init_14 : decode cX8_init 14 = .ok (.newarray .boolean, 2) := by decide +kernel
theorem dX8_init_16 : decode cX8_init 16 = .ok (.putfield 17, 3) := by decide +kernel
theorem dX8_init_19 : decode cX8_init 19 = .ok (.iconst 0, 1) := by decide +kernel
theorem dX8_init_20 : decode cX8_init 20 = .ok (.istore_n 1, 1) := by decide +kernel
theorem dX8_init_21 : decode cX8_init 21 = .ok (.iload_n 1, 1) := by decide +kernel
theorem dX8_init_22 : decode cX8_init 22 = .ok (.iconst 2, 1) := by decide +kernel
theorem dX8_init_23 : decode cX8_init 23 = .ok (.if_icmp .ge 22, 3) := by decide +kernel
theorem dX8_init_26 : decode cX8_init 26 = .ok (.aload_n 0, 1) := by decide +kernel
theorem dX8_init_27 : decode cX8_init 27 = .ok (.getfield 11, 3) := by decide +kernel
theorem dX8_init_30 : decode cX8_init 30 = .ok (.iload_n 1, 1) := by decide +kernel
theorem dX8_init_31 : decode cX8_init 31 = .ok (.new 9, 3) := by decide +kernel
theorem dX8_init_34 : decode cX8_init 34 = .ok (.dup, 1) := by decide +kernel
theorem dX8_init_35 : decode cX8_init 35 = .ok (.invokespecial 21, 3) := by decide +kernel
theorem dX8_init_38 : decode cX8_init 38 = .ok (.aastore, 1) := by decide +kernel
theorem dX8_init_39 : decode cX8_init 39 = .ok (.iinc 1 1, 3) := by decide +kernel
theorem dX8_init_42 : decode cX8_init 42 = .ok (.goto (-21), 3) := by decide +kernel
theorem dX8_init_45 : decode cX8_init 45 = .ok (.return_, 1) := by decide +kernel
theorem dX8_forgetAll_0 : decode cX8_forgetAll 0 = .ok (.iconst 0, 1) := by decide +kernel
theorem dX8_forgetAll_1 : decode cX8_forgetAll 1 = .ok (.istore_n 1, 1) := by decide +kernel
theorem dX8_forgetAll_2 : decode cX8_forgetAll 2 = .ok (.iload_n 1, 1) := by decide +kernel
theorem dX8_forgetAll_3 : decode cX8_forgetAll 3 = .ok (.iconst 2, 1) := by decide +kernel
theorem dX8_forgetAll_4 : decode cX8_forgetAll 4 = .ok (.if_icmp .ge 16, 3) := by decide +kernel
theorem dX8_forgetAll_7 : decode cX8_forgetAll 7 = .ok (.aload_n 0, 1) := by decide +kernel
theorem dX8_forgetAll_8 : decode cX8_forgetAll 8 = .ok (.getfield 17, 3) := by decide +kernel
theorem dX8_forgetAll_11 : decode cX8_forgetAll 11 = .ok (.iload_n 1, 1) := by decide +kernel
theorem dX8_forgetAll_12 : decode cX8_forgetAll 12 = .ok (.iconst 0, 1) := by decide +kernel
theorem dX8_forgetAll_13 : decode cX8_forgetAll 13 = .ok (.bastore, 1) := by decide +kernel
theorem dX8_forgetAll_14 : decode cX8_forgetAll 14 = .ok (.iinc 1 1, 3) := by decide +kernel
theorem dX8_forgetAll_17 : decode cX8_forgetAll 17 = .ok (.goto (-15), 3) := by decide +kernel
theorem dX8_forgetAll_20 : decode cX8_forgetAll 20 = .ok (.return_, 1) := by decide +kernel
theorem dX9_init_0 : decode cX9_init 0 = .ok (.aload_n 0, 1) := by decide +kernel
theorem dX9_init_1 : decode cX9_init 1 = .ok (.invokespecial 3, 3) := by decide +kernel
theorem dX9_init_4 : decode cX9_init 4 = .ok (.aload_n 0, 1) := by decide +kernel
theorem dX9_init_5 : decode cX9_init 5 = .ok (.bipush 120, 2) := by decide +kernel
theorem dX9_init_7 : decode cX9_init 7 = .ok (.newarray .char, 2) := by decide +kernel
theorem dX9_init_9 : decode cX9_init 9 = .ok (.putfield 9, 3) := by decide +kernel
theorem dX9_init_12 : decode cX9_init 12 = .ok (.aload_n 0, 1) := by decide +kernel
theorem dX9_init_13 : decode cX9_init 13 = .ok (.iconst 0, 1) := by decide +kernel
theorem dX9_init_14 : decode cX9_init 14 = .ok (.putfield 15, 3) := by decide +kernel
theorem dX9_init_17 : decode cX9_init 17 = .ok (.aload_n 0, 1) := by decide +kernel
theorem dX9_init_18 : decode cX9_init 18 = .ok (.iconst 0, 1) := by decide +kernel
theorem dX9_init_19 : decode cX9_init 19 = .ok (.putfield 19, 3) := by decide +kernel
theorem dX9_init_22 : decode cX9_init 22 = .ok (.aload_n 0, 1) := by decide +kernel
theorem dX9_init_23 : decode cX9_init 23 = .ok (.iconst (-1), 1) := by decide +kernel
theorem dX9_init_24 : decode cX9_init 24 = .ok (.putfield 22, 3) := by decide +kernel
theorem dX9_init_27 : decode cX9_init 27 = .ok (.aload_n 0, 1) := by decide +kernel
theorem dX9_init_28 : decode cX9_init 28 = .ok (.iconst 4, 1) := by decide +kernel
theorem dX9_init_29 : decode cX9_init 29 = .ok (.newarray .int, 2) := by decide +kernel
theorem dX9_init_31 : decode cX9_init 31 = .ok (.putfield 25, 3) := by decide +kernel
theorem dX9_init_34 : decode cX9_init 34 = .ok (.aload_n 0, 1) := by decide +kernel
theorem dX9_init_35 : decode cX9_init 35 = .ok (.iconst 0, 1) := by decide +kernel
theorem dX9_init_36 : decode cX9_init 36 = .ok (.putfield 29, 3) := by decide +kernel
theorem dX9_init_39 : decode cX9_init 39 = .ok (.return_, 1) := by decide +kernel
theorem dX9_put_0 : decode cX9_put 0 = .ok (.aload_n 0, 1) := by decide +kernel
theorem dX9_put_1 : decode cX9_put 1 = .ok (.getfield 15, 3) := by decide +kernel
theorem dX9_put_4 : decode cX9_put 4 = .ok (.bipush 120, 2) := by decide +kernel
theorem dX9_put_6 : decode cX9_put 6 = .ok (.if_icmp .ge 23, 3) := by decide +kernel
theorem dX9_put_9 : decode cX9_put 9 = .ok (.aload_n 0, 1) := by decide +kernel
theorem dX9_put_10 : decode cX9_put 10 = .ok (.getfield 9, 3) := by decide +kernel
theorem dX9_put_13 : decode cX9_put 13 = .ok (.aload_n 0, 1) := by decide +kernel
theorem dX9_put_14 : decode cX9_put 14 = .ok (.getfield 15, 3) := by decide +kernel
theorem dX9_put_17 : decode cX9_put 17 = .ok (.iload_n 1, 1) := by decide +kernel
theorem dX9_put_18 : decode cX9_put 18 = .ok (.castore, 1) := by decide +kernel
theorem dX9_put_19 : decode cX9_put 19 = .ok (.aload_n 0, 1) := by decide +kernel
theorem dX9_put_20 : decode cX9_put 20 = .ok (.dup, 1) := by decide +kernel
theorem dX9_put_21 : decode cX9_put 21 = .ok (.getfield 15, 3) := by decide +kernel
theorem dX9_put_24 : decode cX9_put 24 = .ok (.iconst 1, 1) := by decide +kernel
theorem dX9_put_25 : decode cX9_put 25 = .ok (.iadd, 1) := by decide +kernel
theorem dX9_put_26 : decode cX9_put 26 = .ok (.putfield 15, 3) := by decide +kernel
theorem dX9_put_29 : decode cX9_put 29 = .ok (.return_, 1) := by decide +kernel
theorem dX9_firstError_0 : decode cX9_firstError 0 = .ok (.aload_n 0, 1) := by decide +kernel
theorem dX9_firstError_1 : decode cX9_firstError 1 = .ok (.invokevirtual 32, 3) := by decide +kernel
theorem dX9_firstError_4 : decode cX9_firstError 4 = .ok (.ifCond .ne 8, 3) := by decide +kernel
theorem dX9_firstError_7 : decode cX9_firstError 7 = .ok (.aload_n 0, 1) := by decide +kernel
theorem dX9_firstError_8 : decode cX9_firstError 8 = .ok (.getfield 19, 3) := by decide +kernel
theorem dX9_firstError_11 : decode cX9_firstError 11 = .ok (.ireturn, 1) := by decide +kernel
theorem dX9_firstError_12 : decode cX9_firstError 12 = .ok (.iconst 0, 1) := by decide +kernel
theorem dX9_firstError_13 : decode cX9_firstError 13 = .ok (.istore_n 1, 1) := by decide +kernel
theorem dX9_firstError_14 : decode cX9_firstError 14 = .ok (.iload_n 1, 1) := by decide +kernel
theorem dX9_firstError_15 : decode cX9_firstError 15 = .ok (.bipush 120, 2) := by decide +kernel
theorem dX9_firstError_17 : decode cX9_firstError 17 = .ok (.if_icmp .ge 32, 3) := by decide +kernel
theorem dX9_firstError_20 : decode cX9_firstError 20 = .ok (.aload_n 0, 1) := by decide +kernel
theorem dX9_firstError_21 : decode cX9_firstError 21 = .ok (.getfield 19, 3) := by decide +kernel
theorem dX9_firstError_24 : decode cX9_firstError 24 = .ok (.aload_n 0, 1) := by decide +kernel
theorem dX9_firstError_25 : decode cX9_firstError 25 = .ok (.getfield 15, 3) := by decide +kernel
theorem dX9_firstError_28 : decode cX9_firstError 28 = .ok (.if_icmp .ge 21, 3) := by decide +kernel
theorem dX9_firstError_31 : decode cX9_firstError 31 = .ok (.aload_n 0, 1) := by decide +kernel
theorem dX9_firstError_32 : decode cX9_firstError 32 = .ok (.invokevirtual 36, 3) := by decide +kernel
theorem dX9_firstError_35 : decode cX9_firstError 35 = .ok (.ifCond .ne 8, 3) := by decide +kernel
theorem dX9_firstError_38 : decode cX9_firstError 38 = .ok (.aload_n 0, 1) := by decide +kernel
theorem dX9_firstError_39 : decode cX9_firstError 39 = .ok (.getfield 19, 3) := by decide +kernel
theorem dX9_firstError_42 : decode cX9_firstError 42 = .ok (.ireturn, 1) := by decide +kernel
theorem dX9_firstError_43 : decode cX9_firstError 43 = .ok (.iinc 1 1, 3) := by decide +kernel
theorem dX9_firstError_46 : decode cX9_firstError 46 = .ok (.goto (-32), 3) := by decide +kernel
theorem dX9_firstError_49 : decode cX9_firstError 49 = .ok (.iconst (-1), 1) := by decide +kernel
theorem dX9_firstError_50 : decode cX9_firstError 50 = .ok (.ireturn, 1) := by decide +kernel
theorem dX9_readHead_0 : decode cX9_readHead 0 = .ok (.aload_n 0, 1) := by decide +kernel
theorem dX9_readHead_1 : decode cX9_readHead 1 = .ok (.iconst 0, 1) := by decide +kernel
theorem dX9_readHead_2 : decode cX9_readHead 2 = .ok (.putfield 19, 3) := by decide +kernel
theorem dX9_readHead_5 : decode cX9_readHead 5 = .ok (.aload_n 0, 1) := by decide +kernel
theorem dX9_readHead_6 : decode cX9_readHead 6 = .ok (.bipush 82, 2) := by decide +kernel
theorem dX9_readHead_8 : decode cX9_readHead 8 = .ok (.invokevirtual 39, 3) := by decide +kernel
theorem dX9_readHead_11 : decode cX9_readHead 11 = .ok (.ireturn, 1) := by decide +kernel
theorem dX9_readCommand_0 : decode cX9_readCommand 0 = .ok (.aload_n 0, 1) := by decide +kernel
theorem dX9_readCommand_1 : decode cX9_readCommand 1 = .ok (.aload_n 0, 1) := by decide +kernel
theorem dX9_readCommand_2 : decode cX9_readCommand 2 = .ok (.invokevirtual 43, 3) := by decide +kernel
theorem dX9_readCommand_5 : decode cX9_readCommand 5 = .ok (.putfield 22, 3) := by decide +kernel
theorem dX9_readCommand_8 : decode cX9_readCommand 8 = .ok (.aload_n 0, 1) := by decide +kernel
theorem dX9_readCommand_9 : decode cX9_readCommand 9 = .ok (.iconst 0, 1) := by decide +kernel
theorem dX9_readCommand_10 : decode cX9_readCommand 10 = .ok (.putfield 29, 3) := by decide +kernel
theorem dX9_readCommand_13 : decode cX9_readCommand 13 = .ok (.aload_n 0, 1) := by decide +kernel
theorem dX9_readCommand_14 : decode cX9_readCommand 14 = .ok (.getfield 22, 3) := by decide +kernel
theorem dX9_readCommand_17 : decode cX9_readCommand 17 = .ok (.lookupswitch 264 #[(98, 197), (99, 141), (103, 101), (112, 59), (115, 230), (121, 172)], 59) := by decide +kernel
theorem dX9_readCommand_76 : decode cX9_readCommand 76 = .ok (.aload_n 0, 1) := by decide +kernel
theorem dX9_readCommand_77 : decode cX9_readCommand 77 = .ok (.bipush 112, 2) := by decide +kernel
theorem dX9_readCommand_79 : decode cX9_readCommand 79 = .ok (.invokevirtual 39, 3) := by decide +kernel
theorem dX9_readCommand_82 : decode cX9_readCommand 82 = .ok (.ifCond .eq 34, 3) := by decide +kernel
theorem dX9_readCommand_85 : decode cX9_readCommand 85 = .ok (.aload_n 0, 1) := by decide +kernel
theorem dX9_readCommand_86 : decode cX9_readCommand 86 = .ok (.bipush 99, 2) := by decide +kernel
theorem dX9_readCommand_88 : decode cX9_readCommand 88 = .ok (.invokevirtual 47, 3) := by decide +kernel
theorem dX9_readCommand_91 : decode cX9_readCommand 91 = .ok (.ifCond .eq 25, 3) := by decide +kernel
theorem dX9_readCommand_94 : decode cX9_readCommand 94 = .ok (.aload_n 0, 1) := by decide +kernel
theorem dX9_readCommand_95 : decode cX9_readCommand 95 = .ok (.iconst 0, 1) := by decide +kernel
theorem dX9_readCommand_96 : decode cX9_readCommand 96 = .ok (.iconst 5, 1) := by decide +kernel
theorem dX9_readCommand_97 : decode cX9_readCommand 97 = .ok (.invokevirtual 50, 3) := by decide +kernel
theorem dX9_readCommand_100 : decode cX9_readCommand 100 = .ok (.ifCond .eq 16, 3) := by decide +kernel
theorem dX9_readCommand_103 : decode cX9_readCommand 103 = .ok (.aload_n 0, 1) := by decide +kernel
theorem dX9_readCommand_104 : decode cX9_readCommand 104 = .ok (.iconst 0, 1) := by decide +kernel
theorem dX9_readCommand_105 : decode cX9_readCommand 105 = .ok (.iconst 3, 1) := by decide +kernel
theorem dX9_readCommand_106 : decode cX9_readCommand 106 = .ok (.invokevirtual 50, 3) := by decide +kernel
theorem dX9_readCommand_109 : decode cX9_readCommand 109 = .ok (.ifCond .eq 7, 3) := by decide +kernel
theorem dX9_readCommand_112 : decode cX9_readCommand 112 = .ok (.iconst 1, 1) := by decide +kernel
theorem dX9_readCommand_113 : decode cX9_readCommand 113 = .ok (.goto 4, 3) := by decide +kernel
theorem dX9_readCommand_116 : decode cX9_readCommand 116 = .ok (.iconst 0, 1) := by decide +kernel
theorem dX9_readCommand_117 : decode cX9_readCommand 117 = .ok (.ireturn, 1) := by decide +kernel
theorem dX9_readCommand_118 : decode cX9_readCommand 118 = .ok (.aload_n 0, 1) := by decide +kernel
theorem dX9_readCommand_119 : decode cX9_readCommand 119 = .ok (.bipush 103, 2) := by decide +kernel
theorem dX9_readCommand_121 : decode cX9_readCommand 121 = .ok (.invokevirtual 39, 3) := by decide +kernel
theorem dX9_readCommand_124 : decode cX9_readCommand 124 = .ok (.ifCond .eq 32, 3) := by decide +kernel
theorem dX9_readCommand_127 : decode cX9_readCommand 127 = .ok (.aload_n 0, 1) := by decide +kernel
theorem dX9_readCommand_128 : decode cX9_readCommand 128 = .ok (.bipush 11, 2) := by decide +kernel
theorem dX9_readCommand_130 : decode cX9_readCommand 130 = .ok (.invokevirtual 47, 3) := by decide +kernel
theorem dX9_readCommand_133 : decode cX9_readCommand 133 = .ok (.ifCond .eq 23, 3) := by decide +kernel
theorem dX9_readCommand_136 : decode cX9_readCommand 136 = .ok (.aload_n 0, 1) := by decide +kernel
theorem dX9_readCommand_137 : decode cX9_readCommand 137 = .ok (.bipush 11, 2) := by decide +kernel
theorem dX9_readCommand_139 : decode cX9_readCommand 139 = .ok (.invokevirtual 47, 3) := by decide +kernel
theorem dX9_readCommand_142 : decode cX9_readCommand 142 = .ok (.ifCond .eq 14, 3) := by decide +kernel
theorem dX9_readCommand_145 : decode cX9_readCommand 145 = .ok (.aload_n 0, 1) := by decide +kernel
theorem dX9_readCommand_146 : decode cX9_readCommand 146 = .ok (.invokevirtual 54, 3) := by decide +kernel
theorem dX9_readCommand_149 : decode cX9_readCommand 149 = .ok (.ifCond .eq 7, 3) := by decide +kernel
theorem dX9_readCommand_152 : decode cX9_readCommand 152 = .ok (.iconst 1, 1) := by decide +kernel
theorem dX9_readCommand_153 : decode cX9_readCommand 153 = .ok (.goto 4, 3) := by decide +kernel
theorem dX9_readCommand_156 : decode cX9_readCommand 156 = .ok (.iconst 0, 1) := by decide +kernel
theorem dX9_readCommand_157 : decode cX9_readCommand 157 = .ok (.ireturn, 1) := by decide +kernel
theorem dX9_readCommand_158 : decode cX9_readCommand 158 = .ok (.aload_n 0, 1) := by decide +kernel
theorem dX9_readCommand_159 : decode cX9_readCommand 159 = .ok (.bipush 99, 2) := by decide +kernel
theorem dX9_readCommand_161 : decode cX9_readCommand 161 = .ok (.invokevirtual 39, 3) := by decide +kernel
theorem dX9_readCommand_164 : decode cX9_readCommand 164 = .ok (.ifCond .eq 23, 3) := by decide +kernel
theorem dX9_readCommand_167 : decode cX9_readCommand 167 = .ok (.aload_n 0, 1) := by decide +kernel
theorem dX9_readCommand_168 : decode cX9_readCommand 168 = .ok (.iconst 0, 1) := by decide +kernel
theorem dX9_readCommand_169 : decode cX9_readCommand 169 = .ok (.iconst 3, 1) := by decide +kernel
theorem dX9_readCommand_170 : decode cX9_readCommand 170 = .ok (.invokevirtual 50, 3) := by decide +kernel
theorem dX9_readCommand_173 : decode cX9_readCommand 173 = .ok (.ifCond .eq 14, 3) := by decide +kernel
theorem dX9_readCommand_176 : decode cX9_readCommand 176 = .ok (.aload_n 0, 1) := by decide +kernel
theorem dX9_readCommand_177 : decode cX9_readCommand 177 = .ok (.invokevirtual 54, 3) := by decide +kernel
theorem dX9_readCommand_180 : decode cX9_readCommand 180 = .ok (.ifCond .eq 7, 3) := by decide +kernel
theorem dX9_readCommand_183 : decode cX9_readCommand 183 = .ok (.iconst 1, 1) := by decide +kernel
theorem dX9_readCommand_184 : decode cX9_readCommand 184 = .ok (.goto 4, 3) := by decide +kernel
theorem dX9_readCommand_187 : decode cX9_readCommand 187 = .ok (.iconst 0, 1) := by decide +kernel
theorem dX9_readCommand_188 : decode cX9_readCommand 188 = .ok (.ireturn, 1) := by decide +kernel
theorem dX9_readCommand_189 : decode cX9_readCommand 189 = .ok (.aload_n 0, 1) := by decide +kernel
theorem dX9_readCommand_190 : decode cX9_readCommand 190 = .ok (.bipush 121, 2) := by decide +kernel
theorem dX9_readCommand_192 : decode cX9_readCommand 192 = .ok (.invokevirtual 39, 3) := by decide +kernel
theorem dX9_readCommand_195 : decode cX9_readCommand 195 = .ok (.ifCond .eq 17, 3) := by decide +kernel
theorem dX9_readCommand_198 : decode cX9_readCommand 198 = .ok (.aload_n 0, 1) := by decide +kernel
theorem dX9_readCommand_199 : decode cX9_readCommand 199 = .ok (.iconst 1, 1) := by decide +kernel
theorem dX9_readCommand_200 : decode cX9_readCommand 200 = .ok (.bipush 9, 2) := by decide +kernel
theorem dX9_readCommand_202 : decode cX9_readCommand 202 = .ok (.invokevirtual 50, 3) := by decide +kernel
theorem dX9_readCommand_205 : decode cX9_readCommand 205 = .ok (.ifCond .eq 7, 3) := by decide +kernel
theorem dX9_readCommand_208 : decode cX9_readCommand 208 = .ok (.iconst 1, 1) := by decide +kernel
theorem dX9_readCommand_209 : decode cX9_readCommand 209 = .ok (.goto 4, 3) := by decide +kernel
theorem dX9_readCommand_212 : decode cX9_readCommand 212 = .ok (.iconst 0, 1) := by decide +kernel
theorem dX9_readCommand_213 : decode cX9_readCommand 213 = .ok (.ireturn, 1) := by decide +kernel
theorem dX9_readCommand_214 : decode cX9_readCommand 214 = .ok (.aload_n 0, 1) := by decide +kernel
theorem dX9_readCommand_215 : decode cX9_readCommand 215 = .ok (.bipush 98, 2) := by decide +kernel
theorem dX9_readCommand_217 : decode cX9_readCommand 217 = .ok (.invokevirtual 39, 3) := by decide +kernel
theorem dX9_readCommand_220 : decode cX9_readCommand 220 = .ok (.ifCond .eq 25, 3) := by decide +kernel
theorem dX9_readCommand_223 : decode cX9_readCommand 223 = .ok (.aload_n 0, 1) := by decide +kernel
theorem dX9_readCommand_224 : decode cX9_readCommand 224 = .ok (.bipush 11, 2) := by decide +kernel
theorem dX9_readCommand_226 : decode cX9_readCommand 226 = .ok (.invokevirtual 47, 3) := by decide +kernel
theorem dX9_readCommand_229 : decode cX9_readCommand 229 = .ok (.ifCond .eq 16, 3) := by decide +kernel
theorem dX9_readCommand_232 : decode cX9_readCommand 232 = .ok (.aload_n 0, 1) := by decide +kernel
theorem dX9_readCommand_233 : decode cX9_readCommand 233 = .ok (.iconst 0, 1) := by decide +kernel
theorem dX9_readCommand_234 : decode cX9_readCommand 234 = .ok (.iconst 3, 1) := by decide +kernel
theorem dX9_readCommand_235 : decode cX9_readCommand 235 = .ok (.invokevirtual 50, 3) := by decide +kernel
theorem dX9_readCommand_238 : decode cX9_readCommand 238 = .ok (.ifCond .eq 7, 3) := by decide +kernel
theorem dX9_readCommand_241 : decode cX9_readCommand 241 = .ok (.iconst 1, 1) := by decide +kernel
theorem dX9_readCommand_242 : decode cX9_readCommand 242 = .ok (.goto 4, 3) := by decide +kernel
theorem dX9_readCommand_245 : decode cX9_readCommand 245 = .ok (.iconst 0, 1) := by decide +kernel
theorem dX9_readCommand_246 : decode cX9_readCommand 246 = .ok (.ireturn, 1) := by decide +kernel
theorem dX9_readCommand_247 : decode cX9_readCommand 247 = .ok (.aload_n 0, 1) := by decide +kernel
theorem dX9_readCommand_248 : decode cX9_readCommand 248 = .ok (.bipush 115, 2) := by decide +kernel
theorem dX9_readCommand_250 : decode cX9_readCommand 250 = .ok (.invokevirtual 39, 3) := by decide +kernel
theorem dX9_readCommand_253 : decode cX9_readCommand 253 = .ok (.ifCond .eq 26, 3) := by decide +kernel
theorem dX9_readCommand_256 : decode cX9_readCommand 256 = .ok (.aload_n 0, 1) := by decide +kernel
theorem dX9_readCommand_257 : decode cX9_readCommand 257 = .ok (.iconst 0, 1) := by decide +kernel
theorem dX9_readCommand_258 : decode cX9_readCommand 258 = .ok (.iconst 2, 1) := by decide +kernel
theorem dX9_readCommand_259 : decode cX9_readCommand 259 = .ok (.invokevirtual 50, 3) := by decide +kernel
theorem dX9_readCommand_262 : decode cX9_readCommand 262 = .ok (.ifCond .eq 17, 3) := by decide +kernel
theorem dX9_readCommand_265 : decode cX9_readCommand 265 = .ok (.aload_n 0, 1) := by decide +kernel
theorem dX9_readCommand_266 : decode cX9_readCommand 266 = .ok (.iconst 0, 1) := by decide +kernel
theorem dX9_readCommand_267 : decode cX9_readCommand 267 = .ok (.bipush 9, 2) := by decide +kernel
theorem dX9_readCommand_269 : decode cX9_readCommand 269 = .ok (.invokevirtual 50, 3) := by decide +kernel
theorem dX9_readCommand_272 : decode cX9_readCommand 272 = .ok (.ifCond .eq 7, 3) := by decide +kernel
theorem dX9_readCommand_275 : decode cX9_readCommand 275 = .ok (.iconst 1, 1) := by decide +kernel
theorem dX9_readCommand_276 : decode cX9_readCommand 276 = .ok (.goto 4, 3) := by decide +kernel
theorem dX9_readCommand_279 : decode cX9_readCommand 279 = .ok (.iconst 0, 1) := by decide +kernel
theorem dX9_readCommand_280 : decode cX9_readCommand 280 = .ok (.ireturn, 1) := by decide +kernel
theorem dX9_readCommand_281 : decode cX9_readCommand 281 = .ok (.iconst 0, 1) := by decide +kernel
theorem dX9_readCommand_282 : decode cX9_readCommand 282 = .ok (.ireturn, 1) := by decide +kernel
theorem dX9_here_0 : decode cX9_here 0 = .ok (.aload_n 0, 1) := by decide +kernel
theorem dX9_here_1 : decode cX9_here 1 = .ok (.getfield 19, 3) := by decide +kernel
theorem dX9_here_4 : decode cX9_here 4 = .ok (.aload_n 0, 1) := by decide +kernel
theorem dX9_here_5 : decode cX9_here 5 = .ok (.getfield 15, 3) := by decide +kernel
theorem dX9_here_8 : decode cX9_here 8 = .ok (.if_icmp .ge 15, 3) := by decide +kernel
theorem dX9_here_11 : decode cX9_here 11 = .ok (.aload_n 0, 1) := by decide +kernel
theorem dX9_here_12 : decode cX9_here 12 = .ok (.getfield 9, 3) := by decide +kernel
theorem dX9_here_15 : decode cX9_here 15 = .ok (.aload_n 0, 1) := by decide +kernel
theorem dX9_here_16 : decode cX9_here 16 = .ok (.getfield 19, 3) := by decide +kernel
theorem dX9_here_19 : decode cX9_here 19 = .ok (.caload, 1) := by decide +kernel
theorem dX9_here_20 : decode cX9_here 20 = .ok (.goto 4, 3) := by decide +kernel
theorem dX9_here_23 : decode cX9_here 23 = .ok (.iconst (-1), 1) := by decide +kernel
theorem dX9_here_24 : decode cX9_here 24 = .ok (.ireturn, 1) := by decide +kernel
theorem dX9_reads_0 : decode cX9_reads 0 = .ok (.aload_n 0, 1) := by decide +kernel
theorem dX9_reads_1 : decode cX9_reads 1 = .ok (.invokevirtual 43, 3) := by decide +kernel
theorem dX9_reads_4 : decode cX9_reads 4 = .ok (.iload_n 1, 1) := by decide +kernel
theorem dX9_reads_5 : decode cX9_reads 5 = .ok (.if_icmp .eq 5, 3) := by decide +kernel
theorem dX9_reads_8 : decode cX9_reads 8 = .ok (.iconst 0, 1) := by decide +kernel
theorem dX9_reads_9 : decode cX9_reads 9 = .ok (.ireturn, 1) := by decide +kernel
theorem dX9_reads_10 : decode cX9_reads 10 = .ok (.aload_n 0, 1) := by decide +kernel
theorem dX9_reads_11 : decode cX9_reads 11 = .ok (.dup, 1) := by decide +kernel
theorem dX9_reads_12 : decode cX9_reads 12 = .ok (.getfield 19, 3) := by decide +kernel
theorem dX9_reads_15 : decode cX9_reads 15 = .ok (.iconst 1, 1) := by decide +kernel
theorem dX9_reads_16 : decode cX9_reads 16 = .ok (.iadd, 1) := by decide +kernel
theorem dX9_reads_17 : decode cX9_reads 17 = .ok (.putfield 19, 3) := by decide +kernel
theorem dX9_reads_20 : decode cX9_reads 20 = .ok (.iconst 1, 1) := by decide +kernel
theorem dX9_reads_21 : decode cX9_reads 21 = .ok (.ireturn, 1) := by decide +kernel
theorem dX9_readsDigit_0 : decode cX9_readsDigit 0 = .ok (.aload_n 0, 1) := by decide +kernel
theorem dX9_readsDigit_1 : decode cX9_readsDigit 1 = .ok (.iload_n 1, 1) := by decide +kernel
theorem dX9_readsDigit_2 : decode cX9_readsDigit 2 = .ok (.iload_n 2, 1) := by decide +kernel
theorem dX9_readsDigit_3 : decode cX9_readsDigit 3 = .ok (.invokevirtual 57, 3) := by decide +kernel
theorem dX9_readsDigit_6 : decode cX9_readsDigit 6 = .ok (.istore_n 3, 1) := by decide +kernel
theorem dX9_readsDigit_7 : decode cX9_readsDigit 7 = .ok (.iload_n 3, 1) := by decide +kernel
theorem dX9_readsDigit_8 : decode cX9_readsDigit 8 = .ok (.iconst (-1), 1) := by decide +kernel
theorem dX9_readsDigit_9 : decode cX9_readsDigit 9 = .ok (.if_icmp .eq 15, 3) := by decide +kernel
theorem dX9_readsDigit_12 : decode cX9_readsDigit 12 = .ok (.aload_n 0, 1) := by decide +kernel
theorem dX9_readsDigit_13 : decode cX9_readsDigit 13 = .ok (.iload_n 3, 1) := by decide +kernel
theorem dX9_readsDigit_14 : decode cX9_readsDigit 14 = .ok (.invokevirtual 61, 3) := by decide +kernel
theorem dX9_readsDigit_17 : decode cX9_readsDigit 17 = .ok (.ifCond .eq 7, 3) := by decide +kernel
theorem dX9_readsDigit_20 : decode cX9_readsDigit 20 = .ok (.iconst 1, 1) := by decide +kernel
theorem dX9_readsDigit_21 : decode cX9_readsDigit 21 = .ok (.goto 4, 3) := by decide +kernel
theorem dX9_readsDigit_24 : decode cX9_readsDigit 24 = .ok (.iconst 0, 1) := by decide +kernel
theorem dX9_readsDigit_25 : decode cX9_readsDigit 25 = .ok (.ireturn, 1) := by decide +kernel
theorem dX9_readsPair_0 : decode cX9_readsPair 0 = .ok (.aload_n 0, 1) := by decide +kernel
theorem dX9_readsPair_1 : decode cX9_readsPair 1 = .ok (.iconst 0, 1) := by decide +kernel
theorem dX9_readsPair_2 : decode cX9_readsPair 2 = .ok (.iload_n 1, 1) := by decide +kernel
theorem dX9_readsPair_3 : decode cX9_readsPair 3 = .ok (.bipush 10, 2) := by decide +kernel
theorem dX9_readsPair_5 : decode cX9_readsPair 5 = .ok (.idiv, 1) := by decide +kernel
theorem dX9_readsPair_6 : decode cX9_readsPair 6 = .ok (.invokevirtual 57, 3) := by decide +kernel
theorem dX9_readsPair_9 : decode cX9_readsPair 9 = .ok (.istore_n 2, 1) := by decide +kernel
theorem dX9_readsPair_10 : decode cX9_readsPair 10 = .ok (.iload_n 2, 1) := by decide +kernel
theorem dX9_readsPair_11 : decode cX9_readsPair 11 = .ok (.iconst (-1), 1) := by decide +kernel
theorem dX9_readsPair_12 : decode cX9_readsPair 12 = .ok (.if_icmp .ne 5, 3) := by decide +kernel
theorem dX9_readsPair_15 : decode cX9_readsPair 15 = .ok (.iconst 0, 1) := by decide +kernel
theorem dX9_readsPair_16 : decode cX9_readsPair 16 = .ok (.ireturn, 1) := by decide +kernel
theorem dX9_readsPair_17 : decode cX9_readsPair 17 = .ok (.aload_n 0, 1) := by decide +kernel
theorem dX9_readsPair_18 : decode cX9_readsPair 18 = .ok (.iconst 0, 1) := by decide +kernel
theorem dX9_readsPair_19 : decode cX9_readsPair 19 = .ok (.iload_n 2, 1) := by decide +kernel
theorem dX9_readsPair_20 : decode cX9_readsPair 20 = .ok (.iload_n 1, 1) := by decide +kernel
theorem dX9_readsPair_21 : decode cX9_readsPair 21 = .ok (.bipush 10, 2) := by decide +kernel
theorem dX9_readsPair_23 : decode cX9_readsPair 23 = .ok (.idiv, 1) := by decide +kernel
theorem dX9_readsPair_24 : decode cX9_readsPair 24 = .ok (.if_icmp .ne 10, 3) := by decide +kernel
theorem dX9_readsPair_27 : decode cX9_readsPair 27 = .ok (.iload_n 1, 1) := by decide +kernel
theorem dX9_readsPair_28 : decode cX9_readsPair 28 = .ok (.bipush 10, 2) := by decide +kernel
theorem dX9_readsPair_30 : decode cX9_readsPair 30 = .ok (.irem, 1) := by decide +kernel
theorem dX9_readsPair_31 : decode cX9_readsPair 31 = .ok (.goto 5, 3) := by decide +kernel
theorem dX9_readsPair_34 : decode cX9_readsPair 34 = .ok (.bipush 9, 2) := by decide +kernel
theorem dX9_readsPair_36 : decode cX9_readsPair 36 = .ok (.invokevirtual 57, 3) := by decide +kernel
theorem dX9_readsPair_39 : decode cX9_readsPair 39 = .ok (.istore_n 3, 1) := by decide +kernel
theorem dX9_readsPair_40 : decode cX9_readsPair 40 = .ok (.iload_n 3, 1) := by decide +kernel
theorem dX9_readsPair_41 : decode cX9_readsPair 41 = .ok (.iconst (-1), 1) := by decide +kernel
theorem dX9_readsPair_42 : decode cX9_readsPair 42 = .ok (.if_icmp .eq 20, 3) := by decide +kernel
theorem dX9_readsPair_45 : decode cX9_readsPair 45 = .ok (.aload_n 0, 1) := by decide +kernel
theorem dX9_readsPair_46 : decode cX9_readsPair 46 = .ok (.bipush 10, 2) := by decide +kernel
theorem dX9_readsPair_48 : decode cX9_readsPair 48 = .ok (.iload_n 2, 1) := by decide +kernel
theorem dX9_readsPair_49 : decode cX9_readsPair 49 = .ok (.imul, 1) := by decide +kernel
theorem dX9_readsPair_50 : decode cX9_readsPair 50 = .ok (.iload_n 3, 1) := by decide +kernel
theorem dX9_readsPair_51 : decode cX9_readsPair 51 = .ok (.iadd, 1) := by decide +kernel
theorem dX9_readsPair_52 : decode cX9_readsPair 52 = .ok (.invokevirtual 61, 3) := by decide +kernel
theorem dX9_readsPair_55 : decode cX9_readsPair 55 = .ok (.ifCond .eq 7, 3) := by decide +kernel
theorem dX9_readsPair_58 : decode cX9_readsPair 58 = .ok (.iconst 1, 1) := by decide +kernel
theorem dX9_readsPair_59 : decode cX9_readsPair 59 = .ok (.goto 4, 3) := by decide +kernel
theorem dX9_readsPair_62 : decode cX9_readsPair 62 = .ok (.iconst 0, 1) := by decide +kernel
theorem dX9_readsPair_63 : decode cX9_readsPair 63 = .ok (.ireturn, 1) := by decide +kernel
theorem dX9_takeDigit_0 : decode cX9_takeDigit 0 = .ok (.aload_n 0, 1) := by decide +kernel
theorem dX9_takeDigit_1 : decode cX9_takeDigit 1 = .ok (.invokevirtual 43, 3) := by decide +kernel
theorem dX9_takeDigit_4 : decode cX9_takeDigit 4 = .ok (.bipush 48, 2) := by decide +kernel
theorem dX9_takeDigit_6 : decode cX9_takeDigit 6 = .ok (.isub, 1) := by decide +kernel
theorem dX9_takeDigit_7 : decode cX9_takeDigit 7 = .ok (.istore_n 3, 1) := by decide +kernel
theorem dX9_takeDigit_8 : decode cX9_takeDigit 8 = .ok (.iload_n 3, 1) := by decide +kernel
theorem dX9_takeDigit_9 : decode cX9_takeDigit 9 = .ok (.iload_n 1, 1) := by decide +kernel
theorem dX9_takeDigit_10 : decode cX9_takeDigit 10 = .ok (.if_icmp .lt 8, 3) := by decide +kernel
theorem dX9_takeDigit_13 : decode cX9_takeDigit 13 = .ok (.iload_n 3, 1) := by decide +kernel
theorem dX9_takeDigit_14 : decode cX9_takeDigit 14 = .ok (.iload_n 2, 1) := by decide +kernel
theorem dX9_takeDigit_15 : decode cX9_takeDigit 15 = .ok (.if_icmp .le 5, 3) := by decide +kernel
theorem dX9_takeDigit_18 : decode cX9_takeDigit 18 = .ok (.iconst (-1), 1) := by decide +kernel
theorem dX9_takeDigit_19 : decode cX9_takeDigit 19 = .ok (.ireturn, 1) := by decide +kernel
theorem dX9_takeDigit_20 : decode cX9_takeDigit 20 = .ok (.aload_n 0, 1) := by decide +kernel
theorem dX9_takeDigit_21 : decode cX9_takeDigit 21 = .ok (.dup, 1) := by decide +kernel
theorem dX9_takeDigit_22 : decode cX9_takeDigit 22 = .ok (.getfield 19, 3) := by decide +kernel
theorem dX9_takeDigit_25 : decode cX9_takeDigit 25 = .ok (.iconst 1, 1) := by decide +kernel
theorem dX9_takeDigit_26 : decode cX9_takeDigit 26 = .ok (.iadd, 1) := by decide +kernel
theorem dX9_takeDigit_27 : decode cX9_takeDigit 27 = .ok (.putfield 19, 3) := by decide +kernel
theorem dX9_takeDigit_30 : decode cX9_takeDigit 30 = .ok (.iload_n 3, 1) := by decide +kernel
theorem dX9_takeDigit_31 : decode cX9_takeDigit 31 = .ok (.ireturn, 1) := by decide +kernel
theorem dX9_readsLetters_0 : decode cX9_readsLetters 0 = .ok (.iconst 0, 1) := by decide +kernel
theorem dX9_readsLetters_1 : decode cX9_readsLetters 1 = .ok (.istore_n 1, 1) := by decide +kernel
theorem dX9_readsLetters_2 : decode cX9_readsLetters 2 = .ok (.iconst 0, 1) := by decide +kernel
theorem dX9_readsLetters_3 : decode cX9_readsLetters 3 = .ok (.istore_n 2, 1) := by decide +kernel
theorem dX9_readsLetters_4 : decode cX9_readsLetters 4 = .ok (.iconst 0, 1) := by decide +kernel
theorem dX9_readsLetters_5 : decode cX9_readsLetters 5 = .ok (.istore_n 3, 1) := by decide +kernel
theorem dX9_readsLetters_6 : decode cX9_readsLetters 6 = .ok (.iload_n 3, 1) := by decide +kernel
theorem dX9_readsLetters_7 : decode cX9_readsLetters 7 = .ok (.iconst 4, 1) := by decide +kernel
theorem dX9_readsLetters_8 : decode cX9_readsLetters 8 = .ok (.if_icmp .ge 53, 3) := by decide +kernel
theorem dX9_readsLetters_11 : decode cX9_readsLetters 11 = .ok (.aload_n 0, 1) := by decide +kernel
theorem dX9_readsLetters_12 : decode cX9_readsLetters 12 = .ok (.invokevirtual 43, 3) := by decide +kernel
theorem dX9_readsLetters_15 : decode cX9_readsLetters 15 = .ok (.bipush 65, 2) := by decide +kernel
theorem dX9_readsLetters_17 : decode cX9_readsLetters 17 = .ok (.if_icmp .lt 44, 3) := by decide +kernel
theorem dX9_readsLetters_20 : decode cX9_readsLetters 20 = .ok (.aload_n 0, 1) := by decide +kernel
theorem dX9_readsLetters_21 : decode cX9_readsLetters 21 = .ok (.invokevirtual 43, 3) := by decide +kernel
theorem dX9_readsLetters_24 : decode cX9_readsLetters 24 = .ok (.bipush 90, 2) := by decide +kernel
theorem dX9_readsLetters_26 : decode cX9_readsLetters 26 = .ok (.if_icmp .gt 35, 3) := by decide +kernel
theorem dX9_readsLetters_29 : decode cX9_readsLetters 29 = .ok (.iload_n 2, 1) := by decide +kernel
theorem dX9_readsLetters_30 : decode cX9_readsLetters 30 = .ok (.bipush 26, 2) := by decide +kernel
theorem dX9_readsLetters_32 : decode cX9_readsLetters 32 = .ok (.imul, 1) := by decide +kernel
theorem dX9_readsLetters_33 : decode cX9_readsLetters 33 = .ok (.aload_n 0, 1) := by decide +kernel
theorem dX9_readsLetters_34 : decode cX9_readsLetters 34 = .ok (.invokevirtual 43, 3) := by decide +kernel
theorem dX9_readsLetters_37 : decode cX9_readsLetters 37 = .ok (.bipush 65, 2) := by decide +kernel
theorem dX9_readsLetters_39 : decode cX9_readsLetters 39 = .ok (.isub, 1) := by decide +kernel
theorem dX9_readsLetters_40 : decode cX9_readsLetters 40 = .ok (.iadd, 1) := by decide +kernel
theorem dX9_readsLetters_41 : decode cX9_readsLetters 41 = .ok (.istore_n 2, 1) := by decide +kernel
theorem dX9_readsLetters_42 : decode cX9_readsLetters 42 = .ok (.iinc 1 1, 3) := by decide +kernel
theorem dX9_readsLetters_45 : decode cX9_readsLetters 45 = .ok (.aload_n 0, 1) := by decide +kernel
theorem dX9_readsLetters_46 : decode cX9_readsLetters 46 = .ok (.dup, 1) := by decide +kernel
theorem dX9_readsLetters_47 : decode cX9_readsLetters 47 = .ok (.getfield 19, 3) := by decide +kernel
theorem dX9_readsLetters_50 : decode cX9_readsLetters 50 = .ok (.iconst 1, 1) := by decide +kernel
theorem dX9_readsLetters_51 : decode cX9_readsLetters 51 = .ok (.iadd, 1) := by decide +kernel
theorem dX9_readsLetters_52 : decode cX9_readsLetters 52 = .ok (.putfield 19, 3) := by decide +kernel
theorem dX9_readsLetters_55 : decode cX9_readsLetters 55 = .ok (.iinc 3 1, 3) := by decide +kernel
theorem dX9_readsLetters_58 : decode cX9_readsLetters 58 = .ok (.goto (-52), 3) := by decide +kernel
theorem dX9_readsLetters_61 : decode cX9_readsLetters 61 = .ok (.iload_n 1, 1) := by decide +kernel
theorem dX9_readsLetters_62 : decode cX9_readsLetters 62 = .ok (.ifCond .le 32, 3) := by decide +kernel
theorem dX9_readsLetters_65 : decode cX9_readsLetters 65 = .ok (.aload_n 0, 1) := by decide +kernel
theorem dX9_readsLetters_66 : decode cX9_readsLetters 66 = .ok (.iload_n 1, 1) := by decide +kernel
theorem dX9_readsLetters_67 : decode cX9_readsLetters 67 = .ok (.invokevirtual 61, 3) := by decide +kernel
theorem dX9_readsLetters_70 : decode cX9_readsLetters 70 = .ok (.ifCond .eq 24, 3) := by decide +kernel
theorem dX9_readsLetters_73 : decode cX9_readsLetters 73 = .ok (.aload_n 0, 1) := by decide +kernel
theorem dX9_readsLetters_74 : decode cX9_readsLetters 74 = .ok (.iload_n 2, 1) := by decide +kernel
theorem dX9_readsLetters_75 : decode cX9_readsLetters 75 = .ok (.invokevirtual 61, 3) := by decide +kernel
theorem dX9_readsLetters_78 : decode cX9_readsLetters 78 = .ok (.ifCond .eq 16, 3) := by decide +kernel
theorem dX9_readsLetters_81 : decode cX9_readsLetters 81 = .ok (.aload_n 0, 1) := by decide +kernel
theorem dX9_readsLetters_82 : decode cX9_readsLetters 82 = .ok (.bipush 46, 2) := by decide +kernel
theorem dX9_readsLetters_84 : decode cX9_readsLetters 84 = .ok (.invokevirtual 39, 3) := by decide +kernel
theorem dX9_readsLetters_87 : decode cX9_readsLetters 87 = .ok (.ifCond .eq 7, 3) := by decide +kernel
theorem dX9_readsLetters_90 : decode cX9_readsLetters 90 = .ok (.iconst 1, 1) := by decide +kernel
theorem dX9_readsLetters_91 : decode cX9_readsLetters 91 = .ok (.goto 4, 3) := by decide +kernel
theorem dX9_readsLetters_94 : decode cX9_readsLetters 94 = .ok (.iconst 0, 1) := by decide +kernel
theorem dX9_readsLetters_95 : decode cX9_readsLetters 95 = .ok (.ireturn, 1) := by decide +kernel
theorem dX9_tells_0 : decode cX9_tells 0 = .ok (.aload_n 0, 1) := by decide +kernel
theorem dX9_tells_1 : decode cX9_tells 1 = .ok (.getfield 29, 3) := by decide +kernel
theorem dX9_tells_4 : decode cX9_tells 4 = .ok (.iconst 4, 1) := by decide +kernel
theorem dX9_tells_5 : decode cX9_tells 5 = .ok (.if_icmp .lt 5, 3) := by decide +kernel
theorem dX9_tells_8 : decode cX9_tells 8 = .ok (.iconst 0, 1) := by decide +kernel
theorem dX9_tells_9 : decode cX9_tells 9 = .ok (.ireturn, 1) := by decide +kernel
theorem dX9_tells_10 : decode cX9_tells 10 = .ok (.aload_n 0, 1) := by decide +kernel
theorem dX9_tells_11 : decode cX9_tells 11 = .ok (.getfield 25, 3) := by decide +kernel
theorem dX9_tells_14 : decode cX9_tells 14 = .ok (.aload_n 0, 1) := by decide +kernel
theorem dX9_tells_15 : decode cX9_tells 15 = .ok (.getfield 29, 3) := by decide +kernel
theorem dX9_tells_18 : decode cX9_tells 18 = .ok (.iload_n 1, 1) := by decide +kernel
theorem dX9_tells_19 : decode cX9_tells 19 = .ok (.iastore, 1) := by decide +kernel
theorem dX9_tells_20 : decode cX9_tells 20 = .ok (.aload_n 0, 1) := by decide +kernel
theorem dX9_tells_21 : decode cX9_tells 21 = .ok (.dup, 1) := by decide +kernel
theorem dX9_tells_22 : decode cX9_tells 22 = .ok (.getfield 29, 3) := by decide +kernel
theorem dX9_tells_25 : decode cX9_tells 25 = .ok (.iconst 1, 1) := by decide +kernel
theorem dX9_tells_26 : decode cX9_tells 26 = .ok (.iadd, 1) := by decide +kernel
theorem dX9_tells_27 : decode cX9_tells 27 = .ok (.putfield 29, 3) := by decide +kernel
theorem dX9_tells_30 : decode cX9_tells 30 = .ok (.iconst 1, 1) := by decide +kernel
theorem dX9_tells_31 : decode cX9_tells 31 = .ok (.ireturn, 1) := by decide +kernel
theorem dJ9_max_7cf53_0 : decode cJ9_max_7cf53 0 = .ok (.iload_n 0, 1) := by decide +kernel
theorem dJ9_max_7cf53_1 : decode cJ9_max_7cf53 1 = .ok (.iload_n 1, 1) := by decide +kernel
theorem dJ9_max_7cf53_2 : decode cJ9_max_7cf53 2 = .ok (.if_icmp .lt 7, 3) := by decide +kernel
theorem dJ9_max_7cf53_5 : decode cJ9_max_7cf53 5 = .ok (.iload_n 0, 1) := by decide +kernel
theorem dJ9_max_7cf53_6 : decode cJ9_max_7cf53 6 = .ok (.goto 4, 3) := by decide +kernel
theorem dJ9_max_7cf53_9 : decode cJ9_max_7cf53 9 = .ok (.iload_n 1, 1) := by decide +kernel
theorem dJ9_max_7cf53_10 : decode cJ9_max_7cf53 10 = .ok (.ireturn, 1) := by decide +kernel
theorem dJ9_min_7cf53_0 : decode cJ9_min_7cf53 0 = .ok (.iload_n 0, 1) := by decide +kernel
theorem dJ9_min_7cf53_1 : decode cJ9_min_7cf53 1 = .ok (.iload_n 1, 1) := by decide +kernel
theorem dJ9_min_7cf53_2 : decode cJ9_min_7cf53 2 = .ok (.if_icmp .gt 7, 3) := by decide +kernel
theorem dJ9_min_7cf53_5 : decode cJ9_min_7cf53 5 = .ok (.iload_n 0, 1) := by decide +kernel
theorem dJ9_min_7cf53_6 : decode cJ9_min_7cf53 6 = .ok (.goto 4, 3) := by decide +kernel
theorem dJ9_min_7cf53_9 : decode cJ9_min_7cf53 9 = .ok (.iload_n 1, 1) := by decide +kernel
theorem dJ9_min_7cf53_10 : decode cJ9_min_7cf53 10 = .ok (.ireturn, 1) := by decide +kernel
end
section
theorem dX10_init_0 : decode cX10_init 0 = .ok (.aload_n 0, 1) := by decide +kernel
theorem dX10_init_1 : decode cX10_init 1 = .ok (.invokespecial 3, 3) := by decide +kernel
theorem dX10_init_4 : decode cX10_init 4 = .ok (.aload_n 0, 1) := by decide +kernel
theorem dX10_init_5 : decode cX10_init 5 = .ok (.new 9, 3) := by decide +kernel
theorem dX10_init_8 : decode cX10_init 8 = .ok (.dup, 1) := by decide +kernel
theorem dX10_init_9 : decode cX10_init 9 = .ok (.invokespecial 11, 3) := by decide +kernel
theorem dX10_init_12 : decode cX10_init 12 = .ok (.putfield 12, 3) := by decide +kernel
theorem dX10_init_15 : decode cX10_init 15 = .ok (.aload_n 0, 1) := by decide +kernel
theorem dX10_init_16 : decode cX10_init 16 = .ok (.new 16, 3) := by decide +kernel
theorem dX10_init_19 : decode cX10_init 19 = .ok (.dup, 1) := by decide +kernel
theorem dX10_init_20 : decode cX10_init 20 = .ok (.invokespecial 18, 3) := by decide +kernel
theorem dX10_init_23 : decode cX10_init 23 = .ok (.putfield 19, 3) := by decide +kernel
theorem dX10_init_26 : decode cX10_init 26 = .ok (.aload_n 0, 1) := by decide +kernel
theorem dX10_init_27 : decode cX10_init 27 = .ok (.new 16, 3) := by decide +kernel
theorem dX10_init_30 : decode cX10_init 30 = .ok (.dup, 1) := by decide +kernel
theorem dX10_init_31 : decode cX10_init 31 = .ok (.invokespecial 18, 3) := by decide +kernel
theorem dX10_init_34 : decode cX10_init 34 = .ok (.putfield 23, 3) := by decide +kernel
theorem dX10_init_37 : decode cX10_init 37 = .ok (.aload_n 0, 1) := by decide +kernel
theorem dX10_init_38 : decode cX10_init 38 = .ok (.new 26, 3) := by decide +kernel
theorem dX10_init_41 : decode cX10_init 41 = .ok (.dup, 1) := by decide +kernel
theorem dX10_init_42 : decode cX10_init 42 = .ok (.invokespecial 28, 3) := by decide +kernel
theorem dX10_init_45 : decode cX10_init 45 = .ok (.putfield 29, 3) := by decide +kernel
theorem dX10_init_48 : decode cX10_init 48 = .ok (.aload_n 0, 1) := by decide +kernel
theorem dX10_init_49 : decode cX10_init 49 = .ok (.new 33, 3) := by decide +kernel
theorem dX10_init_52 : decode cX10_init 52 = .ok (.dup, 1) := by decide +kernel
theorem dX10_init_53 : decode cX10_init 53 = .ok (.invokespecial 35, 3) := by decide +kernel
theorem dX10_init_56 : decode cX10_init 56 = .ok (.putfield 36, 3) := by decide +kernel
theorem dX10_init_59 : decode cX10_init 59 = .ok (.aload_n 0, 1) := by decide +kernel
theorem dX10_init_60 : decode cX10_init 60 = .ok (.new 40, 3) := by decide +kernel
theorem dX10_init_63 : decode cX10_init 63 = .ok (.dup, 1) := by decide +kernel
theorem dX10_init_64 : decode cX10_init 64 = .ok (.invokespecial 42, 3) := by decide +kernel
theorem dX10_init_67 : decode cX10_init 67 = .ok (.putfield 43, 3) := by decide +kernel
theorem dX10_init_70 : decode cX10_init 70 = .ok (.return_, 1) := by decide +kernel
theorem dX10_append_0 : decode cX10_append 0 = .ok (.iload_n 1, 1) := by decide +kernel
theorem dX10_append_1 : decode cX10_append 1 = .ok (.ifCond .lt 10, 3) := by decide +kernel
theorem dX10_append_4 : decode cX10_append 4 = .ok (.iload_n 1, 1) := by decide +kernel
theorem dX10_append_5 : decode cX10_append 5 = .ok (.sipush 255, 3) := by decide +kernel
theorem dX10_append_8 : decode cX10_append 8 = .ok (.if_icmp .le 13, 3) := by decide +kernel
theorem dX10_append_11 : decode cX10_append 11 = .ok (.new 47, 3) := by decide +kernel
theorem dX10_append_14 : decode cX10_append 14 = .ok (.dup, 1) := by decide +kernel
theorem dX10_append_15 : decode cX10_append 15 = .ok (.ldc 49, 2) := by decide +kernel
theorem dX10_append_17 : decode cX10_append 17 = .ok (.invokespecial 51, 3) := by decide +kernel
theorem dX10_append_20 : decode cX10_append 20 = .ok (.athrow, 1) := by decide +kernel
theorem dX10_append_21 : decode cX10_append 21 = .ok (.aload_n 0, 1) := by decide +kernel
theorem dX10_append_22 : decode cX10_append 22 = .ok (.getfield 12, 3) := by decide +kernel
theorem dX10_append_25 : decode cX10_append 25 = .ok (.getfield 54, 3) := by decide +kernel
theorem dX10_append_28 : decode cX10_append 28 = .ok (.bipush 120, 2) := by decide +kernel
theorem dX10_append_30 : decode cX10_append 30 = .ok (.if_icmp .lt 13, 3) := by decide +kernel
theorem dX10_append_33 : decode cX10_append 33 = .ok (.new 58, 3) := by decide +kernel
theorem dX10_append_36 : decode cX10_append 36 = .ok (.dup, 1) := by decide +kernel
theorem dX10_append_37 : decode cX10_append 37 = .ok (.ldc 60, 2) := by decide +kernel
theorem dX10_append_39 : decode cX10_append 39 = .ok (.invokespecial 62, 3) := by decide +kernel
theorem dX10_append_42 : decode cX10_append 42 = .ok (.athrow, 1) := by decide +kernel
theorem dX10_append_43 : decode cX10_append 43 = .ok (.aload_n 0, 1) := by decide +kernel
theorem dX10_append_44 : decode cX10_append 44 = .ok (.getfield 12, 3) := by decide +kernel
theorem dX10_append_47 : decode cX10_append 47 = .ok (.iload_n 1, 1) := by decide +kernel
theorem dX10_append_48 : decode cX10_append 48 = .ok (.i2c, 1) := by decide +kernel
theorem dX10_append_49 : decode cX10_append 49 = .ok (.invokevirtual 63, 3) := by decide +kernel
theorem dX10_append_52 : decode cX10_append 52 = .ok (.aload_n 0, 1) := by decide +kernel
theorem dX10_append_53 : decode cX10_append 53 = .ok (.getfield 12, 3) := by decide +kernel
theorem dX10_append_56 : decode cX10_append 56 = .ok (.getfield 54, 3) := by decide +kernel
theorem dX10_append_59 : decode cX10_append 59 = .ok (.ireturn, 1) := by decide +kernel
theorem dX10_clearText_0 : decode cX10_clearText 0 = .ok (.aload_n 0, 1) := by decide +kernel
theorem dX10_clearText_1 : decode cX10_clearText 1 = .ok (.getfield 12, 3) := by decide +kernel
theorem dX10_clearText_4 : decode cX10_clearText 4 = .ok (.getfield 54, 3) := by decide +kernel
theorem dX10_clearText_7 : decode cX10_clearText 7 = .ok (.istore_n 1, 1) := by decide +kernel
theorem dX10_clearText_8 : decode cX10_clearText 8 = .ok (.aload_n 0, 1) := by decide +kernel
theorem dX10_clearText_9 : decode cX10_clearText 9 = .ok (.getfield 12, 3) := by decide +kernel
theorem dX10_clearText_12 : decode cX10_clearText 12 = .ok (.iconst 0, 1) := by decide +kernel
theorem dX10_clearText_13 : decode cX10_clearText 13 = .ok (.putfield 54, 3) := by decide +kernel
theorem dX10_clearText_16 : decode cX10_clearText 16 = .ok (.iload_n 1, 1) := by decide +kernel
theorem dX10_clearText_17 : decode cX10_clearText 17 = .ok (.ireturn, 1) := by decide +kernel
theorem dX10_errorPosition_0 : decode cX10_errorPosition 0 = .ok (.aload_n 0, 1) := by decide +kernel
theorem dX10_errorPosition_1 : decode cX10_errorPosition 1 = .ok (.getfield 12, 3) := by decide +kernel
theorem dX10_errorPosition_4 : decode cX10_errorPosition 4 = .ok (.invokevirtual 67, 3) := by decide +kernel
theorem dX10_errorPosition_7 : decode cX10_errorPosition 7 = .ok (.ireturn, 1) := by decide +kernel
theorem dX10_load_0 : decode cX10_load 0 = .ok (.aload_n 0, 1) := by decide +kernel
theorem dX10_load_1 : decode cX10_load 1 = .ok (.getfield 12, 3) := by decide +kernel
theorem dX10_load_4 : decode cX10_load 4 = .ok (.invokevirtual 67, 3) := by decide +kernel
theorem dX10_load_7 : decode cX10_load 7 = .ok (.iconst (-1), 1) := by decide +kernel
theorem dX10_load_8 : decode cX10_load 8 = .ok (.if_icmp .eq 13, 3) := by decide +kernel
theorem dX10_load_11 : decode cX10_load 11 = .ok (.new 58, 3) := by decide +kernel
theorem dX10_load_14 : decode cX10_load 14 = .ok (.dup, 1) := by decide +kernel
theorem dX10_load_15 : decode cX10_load 15 = .ok (.ldc 71, 2) := by decide +kernel
theorem dX10_load_17 : decode cX10_load 17 = .ok (.invokespecial 62, 3) := by decide +kernel
theorem dX10_load_20 : decode cX10_load 20 = .ok (.athrow, 1) := by decide +kernel
theorem dX10_load_21 : decode cX10_load 21 = .ok (.aload_n 0, 1) := by decide +kernel
theorem dX10_load_22 : decode cX10_load 22 = .ok (.getfield 19, 3) := by decide +kernel
theorem dX10_load_25 : decode cX10_load 25 = .ok (.invokevirtual 73, 3) := by decide +kernel
theorem dX10_load_28 : decode cX10_load 28 = .ok (.aload_n 0, 1) := by decide +kernel
theorem dX10_load_29 : decode cX10_load 29 = .ok (.getfield 29, 3) := by decide +kernel
theorem dX10_load_32 : decode cX10_load 32 = .ok (.invokevirtual 76, 3) := by decide +kernel
theorem dX10_load_35 : decode cX10_load 35 = .ok (.aload_n 0, 1) := by decide +kernel
theorem dX10_load_36 : decode cX10_load 36 = .ok (.getfield 36, 3) := by decide +kernel
theorem dX10_load_39 : decode cX10_load 39 = .ok (.invokevirtual 79, 3) := by decide +kernel
theorem dX10_load_42 : decode cX10_load 42 = .ok (.iconst 0, 1) := by decide +kernel
theorem dX10_load_43 : decode cX10_load 43 = .ok (.istore_n 1, 1) := by decide +kernel
theorem dX10_load_44 : decode cX10_load 44 = .ok (.aload_n 0, 1) := by decide +kernel
theorem dX10_load_45 : decode cX10_load 45 = .ok (.getfield 12, 3) := by decide +kernel
theorem dX10_load_48 : decode cX10_load 48 = .ok (.invokevirtual 80, 3) := by decide +kernel
theorem dX10_load_51 : decode cX10_load 51 = .ok (.pop, 1) := by decide +kernel
theorem dX10_load_52 : decode cX10_load 52 = .ok (.iconst 0, 1) := by decide +kernel
theorem dX10_load_53 : decode cX10_load 53 = .ok (.istore_n 2, 1) := by decide +kernel
theorem dX10_load_54 : decode cX10_load 54 = .ok (.iload_n 2, 1) := by decide +kernel
theorem dX10_load_55 : decode cX10_load 55 = .ok (.bipush 120, 2) := by decide +kernel
theorem dX10_load_57 : decode cX10_load 57 = .ok (.if_icmp .ge 36, 3) := by decide +kernel
theorem dX10_load_60 : decode cX10_load 60 = .ok (.aload_n 0, 1) := by decide +kernel
theorem dX10_load_61 : decode cX10_load 61 = .ok (.getfield 12, 3) := by decide +kernel
theorem dX10_load_64 : decode cX10_load 64 = .ok (.invokevirtual 84, 3) := by decide +kernel
theorem dX10_load_67 : decode cX10_load 67 = .ok (.ifCond .eq 26, 3) := by decide +kernel
theorem dX10_load_70 : decode cX10_load 70 = .ok (.aload_n 0, 1) := by decide +kernel
theorem dX10_load_71 : decode cX10_load 71 = .ok (.getfield 19, 3) := by decide +kernel
theorem dX10_load_74 : decode cX10_load 74 = .ok (.aload_n 0, 1) := by decide +kernel
theorem dX10_load_75 : decode cX10_load 75 = .ok (.getfield 12, 3) := by decide +kernel
theorem dX10_load_78 : decode cX10_load 78 = .ok (.invokevirtual 87, 3) := by decide +kernel
theorem dX10_load_81 : decode cX10_load 81 = .ok (.ifCond .ne 6, 3) := by decide +kernel
theorem dX10_load_84 : decode cX10_load 84 = .ok (.iinc 1 1, 3) := by decide +kernel
theorem dX10_load_87 : decode cX10_load 87 = .ok (.iinc 2 1, 3) := by decide +kernel
theorem dX10_load_90 : decode cX10_load 90 = .ok (.goto (-36), 3) := by decide +kernel
theorem dX10_load_93 : decode cX10_load 93 = .ok (.iload_n 1, 1) := by decide +kernel
theorem dX10_load_94 : decode cX10_load 94 = .ok (.ireturn, 1) := by decide +kernel
theorem dX10_about_0 : decode cX10_about 0 = .ok (.iload_n 1, 1) := by decide +kernel
theorem dX10_about_1 : decode cX10_about 1 = .ok (.tableswitch 230 0 14 #[75, 86, 97, 109, 121, 133, 145, 157, 165, 176, 184, 192, 200, 210, 220], 75) := by decide +kernel
theorem dX10_about_76 : decode cX10_about 76 = .ok (.aload_n 0, 1) := by decide +kernel
theorem dX10_about_77 : decode cX10_about 77 = .ok (.getfield 19, 3) := by decide +kernel
theorem dX10_about_80 : decode cX10_about 80 = .ok (.getfield 91, 3) := by decide +kernel
theorem dX10_about_83 : decode cX10_about 83 = .ok (.getfield 95, 3) := by decide +kernel
theorem dX10_about_86 : decode cX10_about 86 = .ok (.ireturn, 1) := by decide +kernel
theorem dX10_about_87 : decode cX10_about 87 = .ok (.aload_n 0, 1) := by decide +kernel
theorem dX10_about_88 : decode cX10_about 88 = .ok (.getfield 19, 3) := by decide +kernel
theorem dX10_about_91 : decode cX10_about 91 = .ok (.getfield 100, 3) := by decide +kernel
theorem dX10_about_94 : decode cX10_about 94 = .ok (.getfield 104, 3) := by decide +kernel
theorem dX10_about_97 : decode cX10_about 97 = .ok (.ireturn, 1) := by decide +kernel
theorem dX10_about_98 : decode cX10_about 98 = .ok (.aload_n 0, 1) := by decide +kernel
theorem dX10_about_99 : decode cX10_about 99 = .ok (.getfield 19, 3) := by decide +kernel
theorem dX10_about_102 : decode cX10_about 102 = .ok (.getfield 100, 3) := by decide +kernel
theorem dX10_about_105 : decode cX10_about 105 = .ok (.iconst 0, 1) := by decide +kernel
theorem dX10_about_106 : decode cX10_about 106 = .ok (.invokevirtual 107, 3) := by decide +kernel
theorem dX10_about_109 : decode cX10_about 109 = .ok (.ireturn, 1) := by decide +kernel
theorem dX10_about_110 : decode cX10_about 110 = .ok (.aload_n 0, 1) := by decide +kernel
theorem dX10_about_111 : decode cX10_about 111 = .ok (.getfield 19, 3) := by decide +kernel
theorem dX10_about_114 : decode cX10_about 114 = .ok (.getfield 100, 3) := by decide +kernel
theorem dX10_about_117 : decode cX10_about 117 = .ok (.iconst 1, 1) := by decide +kernel
theorem dX10_about_118 : decode cX10_about 118 = .ok (.invokevirtual 107, 3) := by decide +kernel
theorem dX10_about_121 : decode cX10_about 121 = .ok (.ireturn, 1) := by decide +kernel
theorem dX10_about_122 : decode cX10_about 122 = .ok (.aload_n 0, 1) := by decide +kernel
theorem dX10_about_123 : decode cX10_about 123 = .ok (.getfield 19, 3) := by decide +kernel
theorem dX10_about_126 : decode cX10_about 126 = .ok (.getfield 100, 3) := by decide +kernel
theorem dX10_about_129 : decode cX10_about 129 = .ok (.iconst 2, 1) := by decide +kernel
theorem dX10_about_130 : decode cX10_about 130 = .ok (.invokevirtual 107, 3) := by decide +kernel
theorem dX10_about_133 : decode cX10_about 133 = .ok (.ireturn, 1) := by decide +kernel
theorem dX10_about_134 : decode cX10_about 134 = .ok (.aload_n 0, 1) := by decide +kernel
theorem dX10_about_135 : decode cX10_about 135 = .ok (.getfield 19, 3) := by decide +kernel
theorem dX10_about_138 : decode cX10_about 138 = .ok (.getfield 100, 3) := by decide +kernel
theorem dX10_about_141 : decode cX10_about 141 = .ok (.iconst 3, 1) := by decide +kernel
theorem dX10_about_142 : decode cX10_about 142 = .ok (.invokevirtual 107, 3) := by decide +kernel
theorem dX10_about_145 : decode cX10_about 145 = .ok (.ireturn, 1) := by decide +kernel
theorem dX10_about_146 : decode cX10_about 146 = .ok (.aload_n 0, 1) := by decide +kernel
theorem dX10_about_147 : decode cX10_about 147 = .ok (.getfield 19, 3) := by decide +kernel
theorem dX10_about_150 : decode cX10_about 150 = .ok (.getfield 100, 3) := by decide +kernel
theorem dX10_about_153 : decode cX10_about 153 = .ok (.iconst 4, 1) := by decide +kernel
theorem dX10_about_154 : decode cX10_about 154 = .ok (.invokevirtual 107, 3) := by decide +kernel
theorem dX10_about_157 : decode cX10_about 157 = .ok (.ireturn, 1) := by decide +kernel
theorem dX10_about_158 : decode cX10_about 158 = .ok (.aload_n 0, 1) := by decide +kernel
theorem dX10_about_159 : decode cX10_about 159 = .ok (.getfield 19, 3) := by decide +kernel
theorem dX10_about_162 : decode cX10_about 162 = .ok (.getfield 111, 3) := by decide +kernel
theorem dX10_about_165 : decode cX10_about 165 = .ok (.ireturn, 1) := by decide +kernel
theorem dX10_about_166 : decode cX10_about 166 = .ok (.aload_n 0, 1) := by decide +kernel
theorem dX10_about_167 : decode cX10_about 167 = .ok (.getfield 19, 3) := by decide +kernel
theorem dX10_about_170 : decode cX10_about 170 = .ok (.getfield 100, 3) := by decide +kernel
theorem dX10_about_173 : decode cX10_about 173 = .ok (.invokevirtual 114, 3) := by decide +kernel
theorem dX10_about_176 : decode cX10_about 176 = .ok (.ireturn, 1) := by decide +kernel
theorem dX10_about_177 : decode cX10_about 177 = .ok (.aload_n 0, 1) := by decide +kernel
theorem dX10_about_178 : decode cX10_about 178 = .ok (.getfield 19, 3) := by decide +kernel
theorem dX10_about_181 : decode cX10_about 181 = .ok (.getfield 117, 3) := by decide +kernel
theorem dX10_about_184 : decode cX10_about 184 = .ok (.ireturn, 1) := by decide +kernel
theorem dX10_about_185 : decode cX10_about 185 = .ok (.aload_n 0, 1) := by decide +kernel
theorem dX10_about_186 : decode cX10_about 186 = .ok (.getfield 19, 3) := by decide +kernel
theorem dX10_about_189 : decode cX10_about 189 = .ok (.getfield 120, 3) := by decide +kernel
theorem dX10_about_192 : decode cX10_about 192 = .ok (.ireturn, 1) := by decide +kernel
theorem dX10_about_193 : decode cX10_about 193 = .ok (.aload_n 0, 1) := by decide +kernel
theorem dX10_about_194 : decode cX10_about 194 = .ok (.getfield 19, 3) := by decide +kernel
theorem dX10_about_197 : decode cX10_about 197 = .ok (.getfield 123, 3) := by decide +kernel
theorem dX10_about_200 : decode cX10_about 200 = .ok (.ireturn, 1) := by decide +kernel
theorem dX10_about_201 : decode cX10_about 201 = .ok (.aload_n 0, 1) := by decide +kernel
theorem dX10_about_202 : decode cX10_about 202 = .ok (.getfield 19, 3) := by decide +kernel
theorem dX10_about_205 : decode cX10_about 205 = .ok (.getfield 126, 3) := by decide +kernel
theorem dX10_about_208 : decode cX10_about 208 = .ok (.iconst 0, 1) := by decide +kernel
theorem dX10_about_209 : decode cX10_about 209 = .ok (.iaload, 1) := by decide +kernel
theorem dX10_about_210 : decode cX10_about 210 = .ok (.ireturn, 1) := by decide +kernel
theorem dX10_about_211 : decode cX10_about 211 = .ok (.aload_n 0, 1) := by decide +kernel
theorem dX10_about_212 : decode cX10_about 212 = .ok (.getfield 19, 3) := by decide +kernel
theorem dX10_about_215 : decode cX10_about 215 = .ok (.getfield 126, 3) := by decide +kernel
theorem dX10_about_218 : decode cX10_about 218 = .ok (.iconst 1, 1) := by decide +kernel
theorem dX10_about_219 : decode cX10_about 219 = .ok (.iaload, 1) := by decide +kernel
theorem dX10_about_220 : decode cX10_about 220 = .ok (.ireturn, 1) := by decide +kernel
theorem dX10_about_221 : decode cX10_about 221 = .ok (.aload_n 0, 1) := by decide +kernel
theorem dX10_about_222 : decode cX10_about 222 = .ok (.getfield 19, 3) := by decide +kernel
theorem dX10_about_225 : decode cX10_about 225 = .ok (.getfield 126, 3) := by decide +kernel
theorem dX10_about_228 : decode cX10_about 228 = .ok (.iconst 2, 1) := by decide +kernel
theorem dX10_about_229 : decode cX10_about 229 = .ok (.iaload, 1) := by decide +kernel
theorem dX10_about_230 : decode cX10_about 230 = .ok (.ireturn, 1) := by decide +kernel
theorem dX10_about_231 : decode cX10_about 231 = .ok (.new 47, 3) := by decide +kernel
theorem dX10_about_234 : decode cX10_about 234 = .ok (.dup, 1) := by decide +kernel
theorem dX10_about_235 : decode cX10_about 235 = .ok (.ldc 130, 2) := by decide +kernel
theorem dX10_about_237 : decode cX10_about 237 = .ok (.invokespecial 51, 3) := by decide +kernel
theorem dX10_about_240 : decode cX10_about 240 = .ok (.athrow, 1) := by decide +kernel
theorem dX10_personOf_0 : decode cX10_personOf 0 = .ok (.aload_n 0, 1) := by decide +kernel
theorem dX10_personOf_1 : decode cX10_personOf 1 = .ok (.iload_n 1, 1) := by decide +kernel
theorem dX10_personOf_2 : decode cX10_personOf 2 = .ok (.invokevirtual 132, 3) := by decide +kernel
theorem dX10_personOf_5 : decode cX10_personOf 5 = .ok (.iload_n 2, 1) := by decide +kernel
theorem dX10_personOf_6 : decode cX10_personOf 6 = .ok (.tableswitch 163 0 8 #[50, 63, 76, 89, 101, 113, 125, 137, 150], 50) := by decide +kernel
theorem dX10_personOf_56 : decode cX10_personOf 56 = .ok (.aload_n 0, 1) := by decide +kernel
theorem dX10_personOf_57 : decode cX10_personOf 57 = .ok (.getfield 19, 3) := by decide +kernel
theorem dX10_personOf_60 : decode cX10_personOf 60 = .ok (.getfield 91, 3) := by decide +kernel
theorem dX10_personOf_63 : decode cX10_personOf 63 = .ok (.getfield 136, 3) := by decide +kernel
theorem dX10_personOf_66 : decode cX10_personOf 66 = .ok (.iload_n 1, 1) := by decide +kernel
theorem dX10_personOf_67 : decode cX10_personOf 67 = .ok (.iaload, 1) := by decide +kernel
theorem dX10_personOf_68 : decode cX10_personOf 68 = .ok (.ireturn, 1) := by decide +kernel
theorem dX10_personOf_69 : decode cX10_personOf 69 = .ok (.aload_n 0, 1) := by decide +kernel
theorem dX10_personOf_70 : decode cX10_personOf 70 = .ok (.getfield 19, 3) := by decide +kernel
theorem dX10_personOf_73 : decode cX10_personOf 73 = .ok (.getfield 91, 3) := by decide +kernel
theorem dX10_personOf_76 : decode cX10_personOf 76 = .ok (.getfield 139, 3) := by decide +kernel
theorem dX10_personOf_79 : decode cX10_personOf 79 = .ok (.iload_n 1, 1) := by decide +kernel
theorem dX10_personOf_80 : decode cX10_personOf 80 = .ok (.iaload, 1) := by decide +kernel
theorem dX10_personOf_81 : decode cX10_personOf 81 = .ok (.ireturn, 1) := by decide +kernel
theorem dX10_personOf_82 : decode cX10_personOf 82 = .ok (.aload_n 0, 1) := by decide +kernel
theorem dX10_personOf_83 : decode cX10_personOf 83 = .ok (.getfield 19, 3) := by decide +kernel
theorem dX10_personOf_86 : decode cX10_personOf 86 = .ok (.getfield 91, 3) := by decide +kernel
theorem dX10_personOf_89 : decode cX10_personOf 89 = .ok (.getfield 142, 3) := by decide +kernel
theorem dX10_personOf_92 : decode cX10_personOf 92 = .ok (.iload_n 1, 1) := by decide +kernel
theorem dX10_personOf_93 : decode cX10_personOf 93 = .ok (.iaload, 1) := by decide +kernel
theorem dX10_personOf_94 : decode cX10_personOf 94 = .ok (.ireturn, 1) := by decide +kernel
theorem dX10_personOf_95 : decode cX10_personOf 95 = .ok (.aload_n 0, 1) := by decide +kernel
theorem dX10_personOf_96 : decode cX10_personOf 96 = .ok (.getfield 19, 3) := by decide +kernel
theorem dX10_personOf_99 : decode cX10_personOf 99 = .ok (.getfield 100, 3) := by decide +kernel
theorem dX10_personOf_102 : decode cX10_personOf 102 = .ok (.iload_n 1, 1) := by decide +kernel
theorem dX10_personOf_103 : decode cX10_personOf 103 = .ok (.invokevirtual 145, 3) := by decide +kernel
theorem dX10_personOf_106 : decode cX10_personOf 106 = .ok (.ireturn, 1) := by decide +kernel
theorem dX10_personOf_107 : decode cX10_personOf 107 = .ok (.aload_n 0, 1) := by decide +kernel
theorem dX10_personOf_108 : decode cX10_personOf 108 = .ok (.getfield 19, 3) := by decide +kernel
theorem dX10_personOf_111 : decode cX10_personOf 111 = .ok (.getfield 91, 3) := by decide +kernel
theorem dX10_personOf_114 : decode cX10_personOf 114 = .ok (.iload_n 1, 1) := by decide +kernel
theorem dX10_personOf_115 : decode cX10_personOf 115 = .ok (.invokevirtual 148, 3) := by decide +kernel
theorem dX10_personOf_118 : decode cX10_personOf 118 = .ok (.ireturn, 1) := by decide +kernel
theorem dX10_personOf_119 : decode cX10_personOf 119 = .ok (.aload_n 0, 1) := by decide +kernel
theorem dX10_personOf_120 : decode cX10_personOf 120 = .ok (.getfield 19, 3) := by decide +kernel
theorem dX10_personOf_123 : decode cX10_personOf 123 = .ok (.getfield 100, 3) := by decide +kernel
theorem dX10_personOf_126 : decode cX10_personOf 126 = .ok (.iload_n 1, 1) := by decide +kernel
theorem dX10_personOf_127 : decode cX10_personOf 127 = .ok (.invokevirtual 151, 3) := by decide +kernel
theorem dX10_personOf_130 : decode cX10_personOf 130 = .ok (.ireturn, 1) := by decide +kernel
theorem dX10_personOf_131 : decode cX10_personOf 131 = .ok (.aload_n 0, 1) := by decide +kernel
theorem dX10_personOf_132 : decode cX10_personOf 132 = .ok (.getfield 19, 3) := by decide +kernel
theorem dX10_personOf_135 : decode cX10_personOf 135 = .ok (.getfield 100, 3) := by decide +kernel
theorem dX10_personOf_138 : decode cX10_personOf 138 = .ok (.iload_n 1, 1) := by decide +kernel
theorem dX10_personOf_139 : decode cX10_personOf 139 = .ok (.invokevirtual 154, 3) := by decide +kernel
theorem dX10_personOf_142 : decode cX10_personOf 142 = .ok (.ireturn, 1) := by decide +kernel
theorem dX10_personOf_143 : decode cX10_personOf 143 = .ok (.aload_n 0, 1) := by decide +kernel
theorem dX10_personOf_144 : decode cX10_personOf 144 = .ok (.getfield 19, 3) := by decide +kernel
theorem dX10_personOf_147 : decode cX10_personOf 147 = .ok (.getfield 91, 3) := by decide +kernel
theorem dX10_personOf_150 : decode cX10_personOf 150 = .ok (.getfield 157, 3) := by decide +kernel
theorem dX10_personOf_153 : decode cX10_personOf 153 = .ok (.iload_n 1, 1) := by decide +kernel
theorem dX10_personOf_154 : decode cX10_personOf 154 = .ok (.iaload, 1) := by decide +kernel
theorem dX10_personOf_155 : decode cX10_personOf 155 = .ok (.ireturn, 1) := by decide +kernel
theorem dX10_personOf_156 : decode cX10_personOf 156 = .ok (.aload_n 0, 1) := by decide +kernel
theorem dX10_personOf_157 : decode cX10_personOf 157 = .ok (.getfield 19, 3) := by decide +kernel
theorem dX10_personOf_160 : decode cX10_personOf 160 = .ok (.getfield 91, 3) := by decide +kernel
theorem dX10_personOf_163 : decode cX10_personOf 163 = .ok (.getfield 160, 3) := by decide +kernel
theorem dX10_personOf_166 : decode cX10_personOf 166 = .ok (.iload_n 1, 1) := by decide +kernel
theorem dX10_personOf_167 : decode cX10_personOf 167 = .ok (.iaload, 1) := by decide +kernel
theorem dX10_personOf_168 : decode cX10_personOf 168 = .ok (.ireturn, 1) := by decide +kernel
theorem dX10_personOf_169 : decode cX10_personOf 169 = .ok (.new 47, 3) := by decide +kernel
theorem dX10_personOf_172 : decode cX10_personOf 172 = .ok (.dup, 1) := by decide +kernel
theorem dX10_personOf_173 : decode cX10_personOf 173 = .ok (.ldc 163, 2) := by decide +kernel
theorem dX10_personOf_175 : decode cX10_personOf 175 = .ok (.invokespecial 51, 3) := by decide +kernel
theorem dX10_personOf_178 : decode cX10_personOf 178 = .ok (.athrow, 1) := by decide +kernel
theorem dX10_nameOf_0 : decode cX10_nameOf 0 = .ok (.aload_n 0, 1) := by decide +kernel
theorem dX10_nameOf_1 : decode cX10_nameOf 1 = .ok (.iload_n 1, 1) := by decide +kernel
theorem dX10_nameOf_2 : decode cX10_nameOf 2 = .ok (.invokevirtual 165, 3) := by decide +kernel
theorem dX10_nameOf_5 : decode cX10_nameOf 5 = .ok (.iload_n 2, 1) := by decide +kernel
theorem dX10_nameOf_6 : decode cX10_nameOf 6 = .ok (.tableswitch 158 0 7 #[46, 59, 72, 85, 98, 111, 124, 137], 46) := by decide +kernel
theorem dX10_nameOf_52 : decode cX10_nameOf 52 = .ok (.aload_n 0, 1) := by decide +kernel
theorem dX10_nameOf_53 : decode cX10_nameOf 53 = .ok (.getfield 19, 3) := by decide +kernel
theorem dX10_nameOf_56 : decode cX10_nameOf 56 = .ok (.getfield 100, 3) := by decide +kernel
theorem dX10_nameOf_59 : decode cX10_nameOf 59 = .ok (.getfield 168, 3) := by decide +kernel
theorem dX10_nameOf_62 : decode cX10_nameOf 62 = .ok (.iload_n 1, 1) := by decide +kernel
theorem dX10_nameOf_63 : decode cX10_nameOf 63 = .ok (.iaload, 1) := by decide +kernel
theorem dX10_nameOf_64 : decode cX10_nameOf 64 = .ok (.ireturn, 1) := by decide +kernel
theorem dX10_nameOf_65 : decode cX10_nameOf 65 = .ok (.aload_n 0, 1) := by decide +kernel
theorem dX10_nameOf_66 : decode cX10_nameOf 66 = .ok (.getfield 19, 3) := by decide +kernel
theorem dX10_nameOf_69 : decode cX10_nameOf 69 = .ok (.getfield 100, 3) := by decide +kernel
theorem dX10_nameOf_72 : decode cX10_nameOf 72 = .ok (.getfield 171, 3) := by decide +kernel
theorem dX10_nameOf_75 : decode cX10_nameOf 75 = .ok (.iload_n 1, 1) := by decide +kernel
theorem dX10_nameOf_76 : decode cX10_nameOf 76 = .ok (.iaload, 1) := by decide +kernel
theorem dX10_nameOf_77 : decode cX10_nameOf 77 = .ok (.ireturn, 1) := by decide +kernel
theorem dX10_nameOf_78 : decode cX10_nameOf 78 = .ok (.aload_n 0, 1) := by decide +kernel
theorem dX10_nameOf_79 : decode cX10_nameOf 79 = .ok (.getfield 19, 3) := by decide +kernel
theorem dX10_nameOf_82 : decode cX10_nameOf 82 = .ok (.getfield 100, 3) := by decide +kernel
theorem dX10_nameOf_85 : decode cX10_nameOf 85 = .ok (.getfield 174, 3) := by decide +kernel
theorem dX10_nameOf_88 : decode cX10_nameOf 88 = .ok (.iload_n 1, 1) := by decide +kernel
theorem dX10_nameOf_89 : decode cX10_nameOf 89 = .ok (.iaload, 1) := by decide +kernel
theorem dX10_nameOf_90 : decode cX10_nameOf 90 = .ok (.ireturn, 1) := by decide +kernel
theorem dX10_nameOf_91 : decode cX10_nameOf 91 = .ok (.aload_n 0, 1) := by decide +kernel
theorem dX10_nameOf_92 : decode cX10_nameOf 92 = .ok (.getfield 19, 3) := by decide +kernel
theorem dX10_nameOf_95 : decode cX10_nameOf 95 = .ok (.getfield 100, 3) := by decide +kernel
theorem dX10_nameOf_98 : decode cX10_nameOf 98 = .ok (.getfield 177, 3) := by decide +kernel
theorem dX10_nameOf_101 : decode cX10_nameOf 101 = .ok (.iload_n 1, 1) := by decide +kernel
theorem dX10_nameOf_102 : decode cX10_nameOf 102 = .ok (.iaload, 1) := by decide +kernel
theorem dX10_nameOf_103 : decode cX10_nameOf 103 = .ok (.ireturn, 1) := by decide +kernel
theorem dX10_nameOf_104 : decode cX10_nameOf 104 = .ok (.aload_n 0, 1) := by decide +kernel
theorem dX10_nameOf_105 : decode cX10_nameOf 105 = .ok (.getfield 19, 3) := by decide +kernel
theorem dX10_nameOf_108 : decode cX10_nameOf 108 = .ok (.getfield 100, 3) := by decide +kernel
theorem dX10_nameOf_111 : decode cX10_nameOf 111 = .ok (.getfield 180, 3) := by decide +kernel
theorem dX10_nameOf_114 : decode cX10_nameOf 114 = .ok (.iload_n 1, 1) := by decide +kernel
theorem dX10_nameOf_115 : decode cX10_nameOf 115 = .ok (.iaload, 1) := by decide +kernel
theorem dX10_nameOf_116 : decode cX10_nameOf 116 = .ok (.ireturn, 1) := by decide +kernel
theorem dX10_nameOf_117 : decode cX10_nameOf 117 = .ok (.aload_n 0, 1) := by decide +kernel
theorem dX10_nameOf_118 : decode cX10_nameOf 118 = .ok (.getfield 19, 3) := by decide +kernel
theorem dX10_nameOf_121 : decode cX10_nameOf 121 = .ok (.getfield 100, 3) := by decide +kernel
theorem dX10_nameOf_124 : decode cX10_nameOf 124 = .ok (.getfield 183, 3) := by decide +kernel
theorem dX10_nameOf_127 : decode cX10_nameOf 127 = .ok (.iload_n 1, 1) := by decide +kernel
theorem dX10_nameOf_128 : decode cX10_nameOf 128 = .ok (.iaload, 1) := by decide +kernel
theorem dX10_nameOf_129 : decode cX10_nameOf 129 = .ok (.ireturn, 1) := by decide +kernel
theorem dX10_nameOf_130 : decode cX10_nameOf 130 = .ok (.aload_n 0, 1) := by decide +kernel
theorem dX10_nameOf_131 : decode cX10_nameOf 131 = .ok (.getfield 19, 3) := by decide +kernel
theorem dX10_nameOf_134 : decode cX10_nameOf 134 = .ok (.getfield 100, 3) := by decide +kernel
theorem dX10_nameOf_137 : decode cX10_nameOf 137 = .ok (.getfield 186, 3) := by decide +kernel
theorem dX10_nameOf_140 : decode cX10_nameOf 140 = .ok (.iload_n 1, 1) := by decide +kernel
theorem dX10_nameOf_141 : decode cX10_nameOf 141 = .ok (.iaload, 1) := by decide +kernel
theorem dX10_nameOf_142 : decode cX10_nameOf 142 = .ok (.ireturn, 1) := by decide +kernel
theorem dX10_nameOf_143 : decode cX10_nameOf 143 = .ok (.aload_n 0, 1) := by decide +kernel
theorem dX10_nameOf_144 : decode cX10_nameOf 144 = .ok (.getfield 19, 3) := by decide +kernel
theorem dX10_nameOf_147 : decode cX10_nameOf 147 = .ok (.getfield 100, 3) := by decide +kernel
theorem dX10_nameOf_150 : decode cX10_nameOf 150 = .ok (.getfield 189, 3) := by decide +kernel
theorem dX10_nameOf_153 : decode cX10_nameOf 153 = .ok (.iload_n 1, 1) := by decide +kernel
theorem dX10_nameOf_154 : decode cX10_nameOf 154 = .ok (.baload, 1) := by decide +kernel
theorem dX10_nameOf_155 : decode cX10_nameOf 155 = .ok (.ifCond .eq 7, 3) := by decide +kernel
theorem dX10_nameOf_158 : decode cX10_nameOf 158 = .ok (.iconst 1, 1) := by decide +kernel
theorem dX10_nameOf_159 : decode cX10_nameOf 159 = .ok (.goto 4, 3) := by decide +kernel
theorem dX10_nameOf_162 : decode cX10_nameOf 162 = .ok (.iconst 0, 1) := by decide +kernel
theorem dX10_nameOf_163 : decode cX10_nameOf 163 = .ok (.ireturn, 1) := by decide +kernel
theorem dX10_nameOf_164 : decode cX10_nameOf 164 = .ok (.new 47, 3) := by decide +kernel
theorem dX10_nameOf_167 : decode cX10_nameOf 167 = .ok (.dup, 1) := by decide +kernel
theorem dX10_nameOf_168 : decode cX10_nameOf 168 = .ok (.ldc 193, 2) := by decide +kernel
theorem dX10_nameOf_170 : decode cX10_nameOf 170 = .ok (.invokespecial 51, 3) := by decide +kernel
theorem dX10_nameOf_173 : decode cX10_nameOf 173 = .ok (.athrow, 1) := by decide +kernel
theorem dX10_letter_0 : decode cX10_letter 0 = .ok (.aload_n 0, 1) := by decide +kernel
theorem dX10_letter_1 : decode cX10_letter 1 = .ok (.iload_n 1, 1) := by decide +kernel
theorem dX10_letter_2 : decode cX10_letter 2 = .ok (.invokevirtual 165, 3) := by decide +kernel
theorem dX10_letter_5 : decode cX10_letter 5 = .ok (.iload_n 2, 1) := by decide +kernel
theorem dX10_letter_6 : decode cX10_letter 6 = .ok (.ifCond .ge 13, 3) := by decide +kernel
theorem dX10_letter_9 : decode cX10_letter 9 = .ok (.new 195, 3) := by decide +kernel
theorem dX10_letter_12 : decode cX10_letter 12 = .ok (.dup, 1) := by decide +kernel
theorem dX10_letter_13 : decode cX10_letter 13 = .ok (.ldc 197, 2) := by decide +kernel
theorem dX10_letter_15 : decode cX10_letter 15 = .ok (.invokespecial 199, 3) := by decide +kernel
theorem dX10_letter_18 : decode cX10_letter 18 = .ok (.athrow, 1) := by decide +kernel
theorem dX10_letter_19 : decode cX10_letter 19 = .ok (.iload_n 2, 1) := by decide +kernel
theorem dX10_letter_20 : decode cX10_letter 20 = .ok (.aload_n 0, 1) := by decide +kernel
theorem dX10_letter_21 : decode cX10_letter 21 = .ok (.getfield 19, 3) := by decide +kernel
theorem dX10_letter_24 : decode cX10_letter 24 = .ok (.getfield 100, 3) := by decide +kernel
theorem dX10_letter_27 : decode cX10_letter 27 = .ok (.getfield 168, 3) := by decide +kernel
theorem dX10_letter_30 : decode cX10_letter 30 = .ok (.iload_n 1, 1) := by decide +kernel
theorem dX10_letter_31 : decode cX10_letter 31 = .ok (.iaload, 1) := by decide +kernel
theorem dX10_letter_32 : decode cX10_letter 32 = .ok (.if_icmp .lt 5, 3) := by decide +kernel
theorem dX10_letter_35 : decode cX10_letter 35 = .ok (.iconst (-1), 1) := by decide +kernel
theorem dX10_letter_36 : decode cX10_letter 36 = .ok (.ireturn, 1) := by decide +kernel
theorem dX10_letter_37 : decode cX10_letter 37 = .ok (.aload_n 0, 1) := by decide +kernel
theorem dX10_letter_38 : decode cX10_letter 38 = .ok (.getfield 19, 3) := by decide +kernel
theorem dX10_letter_41 : decode cX10_letter 41 = .ok (.getfield 100, 3) := by decide +kernel
theorem dX10_letter_44 : decode cX10_letter 44 = .ok (.getfield 168, 3) := by decide +kernel
theorem dX10_letter_47 : decode cX10_letter 47 = .ok (.iload_n 1, 1) := by decide +kernel
theorem dX10_letter_48 : decode cX10_letter 48 = .ok (.iaload, 1) := by decide +kernel
theorem dX10_letter_49 : decode cX10_letter 49 = .ok (.aload_n 0, 1) := by decide +kernel
theorem dX10_letter_50 : decode cX10_letter 50 = .ok (.getfield 19, 3) := by decide +kernel
theorem dX10_letter_53 : decode cX10_letter 53 = .ok (.getfield 100, 3) := by decide +kernel
theorem dX10_letter_56 : decode cX10_letter 56 = .ok (.getfield 171, 3) := by decide +kernel
theorem dX10_letter_59 : decode cX10_letter 59 = .ok (.iload_n 1, 1) := by decide +kernel
theorem dX10_letter_60 : decode cX10_letter 60 = .ok (.iaload, 1) := by decide +kernel
theorem dX10_letter_61 : decode cX10_letter 61 = .ok (.iload_n 2, 1) := by decide +kernel
theorem dX10_letter_62 : decode cX10_letter 62 = .ok (.invokestatic 200, 3) := by decide +kernel
theorem dX10_letter_65 : decode cX10_letter 65 = .ok (.ireturn, 1) := by decide +kernel
theorem dX10_roll_0 : decode cX10_roll 0 = .ok (.iload_n 1, 1) := by decide +kernel
theorem dX10_roll_1 : decode cX10_roll 1 = .ok (.ifCond .ge 13, 3) := by decide +kernel
theorem dX10_roll_4 : decode cX10_roll 4 = .ok (.new 47, 3) := by decide +kernel
theorem dX10_roll_7 : decode cX10_roll 7 = .ok (.dup, 1) := by decide +kernel
theorem dX10_roll_8 : decode cX10_roll 8 = .ok (.ldc 206, 2) := by decide +kernel
theorem dX10_roll_10 : decode cX10_roll 10 = .ok (.invokespecial 51, 3) := by decide +kernel
theorem dX10_roll_13 : decode cX10_roll 13 = .ok (.athrow, 1) := by decide +kernel
theorem dX10_roll_14 : decode cX10_roll 14 = .ok (.aload_n 0, 1) := by decide +kernel
theorem dX10_roll_15 : decode cX10_roll 15 = .ok (.getfield 19, 3) := by decide +kernel
theorem dX10_roll_18 : decode cX10_roll 18 = .ok (.getfield 100, 3) := by decide +kernel
theorem dX10_roll_21 : decode cX10_roll 21 = .ok (.iload_n 1, 1) := by decide +kernel
theorem dX10_roll_22 : decode cX10_roll 22 = .ok (.invokevirtual 208, 3) := by decide +kernel
theorem dX10_roll_25 : decode cX10_roll 25 = .ok (.ireturn, 1) := by decide +kernel
theorem dX10_meant_0 : decode cX10_meant 0 = .ok (.iload_n 1, 1) := by decide +kernel
theorem dX10_meant_1 : decode cX10_meant 1 = .ok (.invokestatic 211, 3) := by decide +kernel
theorem dX10_meant_4 : decode cX10_meant 4 = .ok (.iload_n 2, 1) := by decide +kernel
theorem dX10_meant_5 : decode cX10_meant 5 = .ok (.iload_n 3, 1) := by decide +kernel
theorem dX10_meant_6 : decode cX10_meant 6 = .ok (.invokestatic 214, 3) := by decide +kernel
theorem dX10_meant_9 : decode cX10_meant 9 = .ok (.iload 4, 2) := by decide +kernel
theorem dX10_meant_11 : decode cX10_meant 11 = .ok (.lookupswitch 47 #[(0, 25), (1, 36)], 25) := by decide +kernel
theorem dX10_meant_36 : decode cX10_meant 36 = .ok (.aload_n 0, 1) := by decide +kernel
theorem dX10_meant_37 : decode cX10_meant 37 = .ok (.getfield 19, 3) := by decide +kernel
theorem dX10_meant_40 : decode cX10_meant 40 = .ok (.iload_n 1, 1) := by decide +kernel
theorem dX10_meant_41 : decode cX10_meant 41 = .ok (.iload_n 2, 1) := by decide +kernel
theorem dX10_meant_42 : decode cX10_meant 42 = .ok (.iload_n 3, 1) := by decide +kernel
theorem dX10_meant_43 : decode cX10_meant 43 = .ok (.invokevirtual 218, 3) := by decide +kernel
theorem dX10_meant_46 : decode cX10_meant 46 = .ok (.ireturn, 1) := by decide +kernel
theorem dX10_meant_47 : decode cX10_meant 47 = .ok (.aload_n 0, 1) := by decide +kernel
theorem dX10_meant_48 : decode cX10_meant 48 = .ok (.getfield 19, 3) := by decide +kernel
theorem dX10_meant_51 : decode cX10_meant 51 = .ok (.iload_n 1, 1) := by decide +kernel
theorem dX10_meant_52 : decode cX10_meant 52 = .ok (.iload_n 2, 1) := by decide +kernel
theorem dX10_meant_53 : decode cX10_meant 53 = .ok (.iload_n 3, 1) := by decide +kernel
theorem dX10_meant_54 : decode cX10_meant 54 = .ok (.invokevirtual 221, 3) := by decide +kernel
theorem dX10_meant_57 : decode cX10_meant 57 = .ok (.ireturn, 1) := by decide +kernel
theorem dX10_meant_58 : decode cX10_meant 58 = .ok (.new 47, 3) := by decide +kernel
theorem dX10_meant_61 : decode cX10_meant 61 = .ok (.dup, 1) := by decide +kernel
theorem dX10_meant_62 : decode cX10_meant 62 = .ok (.ldc 224, 2) := by decide +kernel
theorem dX10_meant_64 : decode cX10_meant 64 = .ok (.invokespecial 51, 3) := by decide +kernel
theorem dX10_meant_67 : decode cX10_meant 67 = .ok (.athrow, 1) := by decide +kernel
theorem dX10_person_0 : decode cX10_person 0 = .ok (.iload_n 2, 1) := by decide +kernel
theorem dX10_person_1 : decode cX10_person 1 = .ok (.invokestatic 226, 3) := by decide +kernel
theorem dX10_person_4 : decode cX10_person 4 = .ok (.ifCond .ne 13, 3) := by decide +kernel
theorem dX10_person_7 : decode cX10_person 7 = .ok (.new 195, 3) := by decide +kernel
theorem dX10_person_10 : decode cX10_person 10 = .ok (.dup, 1) := by decide +kernel
theorem dX10_person_11 : decode cX10_person 11 = .ok (.ldc 230, 2) := by decide +kernel
theorem dX10_person_13 : decode cX10_person 13 = .ok (.invokespecial 199, 3) := by decide +kernel
theorem dX10_person_16 : decode cX10_person 16 = .ok (.athrow, 1) := by decide +kernel
theorem dX10_person_17 : decode cX10_person 17 = .ok (.iload_n 3, 1) := by decide +kernel
theorem dX10_person_18 : decode cX10_person 18 = .ok (.invokestatic 211, 3) := by decide +kernel
theorem dX10_person_21 : decode cX10_person 21 = .ok (.iload_n 1, 1) := by decide +kernel
theorem dX10_person_22 : decode cX10_person 22 = .ok (.invokestatic 232, 3) := by decide +kernel
theorem dX10_person_25 : decode cX10_person 25 = .ok (.ifCond .ne 13, 3) := by decide +kernel
theorem dX10_person_28 : decode cX10_person 28 = .ok (.new 47, 3) := by decide +kernel
theorem dX10_person_31 : decode cX10_person 31 = .ok (.dup, 1) := by decide +kernel
theorem dX10_person_32 : decode cX10_person 32 = .ok (.ldc 235, 2) := by decide +kernel
theorem dX10_person_34 : decode cX10_person 34 = .ok (.invokespecial 51, 3) := by decide +kernel
theorem dX10_person_37 : decode cX10_person 37 = .ok (.athrow, 1) := by decide +kernel
theorem dX10_person_38 : decode cX10_person 38 = .ok (.aload_n 0, 1) := by decide +kernel
theorem dX10_person_39 : decode cX10_person 39 = .ok (.getfield 19, 3) := by decide +kernel
theorem dX10_person_42 : decode cX10_person 42 = .ok (.getfield 91, 3) := by decide +kernel
theorem dX10_person_45 : decode cX10_person 45 = .ok (.invokevirtual 237, 3) := by decide +kernel
theorem dX10_person_48 : decode cX10_person 48 = .ok (.ifCond .eq 13, 3) := by decide +kernel
theorem dX10_person_51 : decode cX10_person 51 = .ok (.new 58, 3) := by decide +kernel
theorem dX10_person_54 : decode cX10_person 54 = .ok (.dup, 1) := by decide +kernel
theorem dX10_person_55 : decode cX10_person 55 = .ok (.ldc 240, 2) := by decide +kernel
theorem dX10_person_57 : decode cX10_person 57 = .ok (.invokespecial 62, 3) := by decide +kernel
theorem dX10_person_60 : decode cX10_person 60 = .ok (.athrow, 1) := by decide +kernel
theorem dX10_person_61 : decode cX10_person 61 = .ok (.aload_n 0, 1) := by decide +kernel
theorem dX10_person_62 : decode cX10_person 62 = .ok (.getfield 29, 3) := by decide +kernel
theorem dX10_person_65 : decode cX10_person 65 = .ok (.aload_n 0, 1) := by decide +kernel
theorem dX10_person_66 : decode cX10_person 66 = .ok (.getfield 19, 3) := by decide +kernel
theorem dX10_person_69 : decode cX10_person 69 = .ok (.invokevirtual 242, 3) := by decide +kernel
theorem dX10_person_72 : decode cX10_person 72 = .ok (.aload_n 0, 1) := by decide +kernel
theorem dX10_person_73 : decode cX10_person 73 = .ok (.getfield 19, 3) := by decide +kernel
theorem dX10_person_76 : decode cX10_person 76 = .ok (.getfield 91, 3) := by decide +kernel
theorem dX10_person_79 : decode cX10_person 79 = .ok (.iload_n 1, 1) := by decide +kernel
theorem dX10_person_80 : decode cX10_person 80 = .ok (.iload_n 2, 1) := by decide +kernel
theorem dX10_person_81 : decode cX10_person 81 = .ok (.iload_n 3, 1) := by decide +kernel
theorem dX10_person_82 : decode cX10_person 82 = .ok (.invokevirtual 246, 3) := by decide +kernel
theorem dX10_person_85 : decode cX10_person 85 = .ok (.aload_n 0, 1) := by decide +kernel
theorem dX10_person_86 : decode cX10_person 86 = .ok (.getfield 19, 3) := by decide +kernel
theorem dX10_person_89 : decode cX10_person 89 = .ok (.getfield 91, 3) := by decide +kernel
theorem dX10_person_92 : decode cX10_person 92 = .ok (.getfield 95, 3) := by decide +kernel
theorem dX10_person_95 : decode cX10_person 95 = .ok (.iconst 1, 1) := by decide +kernel
theorem dX10_person_96 : decode cX10_person 96 = .ok (.isub, 1) := by decide +kernel
theorem dX10_person_97 : decode cX10_person 97 = .ok (.ireturn, 1) := by decide +kernel
theorem dX10_sit_0 : decode cX10_sit 0 = .ok (.aload_n 0, 1) := by decide +kernel
theorem dX10_sit_1 : decode cX10_sit 1 = .ok (.iload_n 1, 1) := by decide +kernel
theorem dX10_sit_2 : decode cX10_sit 2 = .ok (.invokevirtual 132, 3) := by decide +kernel
theorem dX10_sit_5 : decode cX10_sit 5 = .ok (.iload_n 2, 1) := by decide +kernel
theorem dX10_sit_6 : decode cX10_sit 6 = .ok (.invokestatic 211, 3) := by decide +kernel
theorem dX10_sit_9 : decode cX10_sit 9 = .ok (.aload_n 0, 1) := by decide +kernel
theorem dX10_sit_10 : decode cX10_sit 10 = .ok (.getfield 19, 3) := by decide +kernel
theorem dX10_sit_13 : decode cX10_sit 13 = .ok (.iload_n 1, 1) := by decide +kernel
theorem dX10_sit_14 : decode cX10_sit 14 = .ok (.iload_n 2, 1) := by decide +kernel
theorem dX10_sit_15 : decode cX10_sit 15 = .ok (.invokevirtual 250, 3) := by decide +kernel
theorem dX10_sit_18 : decode cX10_sit 18 = .ok (.ifCond .eq 13, 3) := by decide +kernel
theorem dX10_sit_21 : decode cX10_sit 21 = .ok (.new 58, 3) := by decide +kernel
theorem dX10_sit_24 : decode cX10_sit 24 = .ok (.dup, 1) := by decide +kernel
theorem dX10_sit_25 : decode cX10_sit 25 = .ok (.ldc 254, 2) := by decide +kernel
theorem dX10_sit_27 : decode cX10_sit 27 = .ok (.invokespecial 62, 3) := by decide +kernel
theorem dX10_sit_30 : decode cX10_sit 30 = .ok (.athrow, 1) := by decide +kernel
theorem dX10_sit_31 : decode cX10_sit 31 = .ok (.aload_n 0, 1) := by decide +kernel
theorem dX10_sit_32 : decode cX10_sit 32 = .ok (.getfield 29, 3) := by decide +kernel
theorem dX10_sit_35 : decode cX10_sit 35 = .ok (.aload_n 0, 1) := by decide +kernel
theorem dX10_sit_36 : decode cX10_sit 36 = .ok (.getfield 19, 3) := by decide +kernel
theorem dX10_sit_39 : decode cX10_sit 39 = .ok (.invokevirtual 242, 3) := by decide +kernel
theorem dX10_sit_42 : decode cX10_sit 42 = .ok (.aload_n 0, 1) := by decide +kernel
theorem dX10_sit_43 : decode cX10_sit 43 = .ok (.getfield 19, 3) := by decide +kernel
theorem dX10_sit_46 : decode cX10_sit 46 = .ok (.getfield 91, 3) := by decide +kernel
theorem dX10_sit_49 : decode cX10_sit 49 = .ok (.getfield 142, 3) := by decide +kernel
theorem dX10_sit_52 : decode cX10_sit 52 = .ok (.iload_n 1, 1) := by decide +kernel
theorem dX10_sit_53 : decode cX10_sit 53 = .ok (.iaload, 1) := by decide +kernel
theorem dX10_sit_54 : decode cX10_sit 54 = .ok (.istore_n 3, 1) := by decide +kernel
theorem dX10_sit_55 : decode cX10_sit 55 = .ok (.aload_n 0, 1) := by decide +kernel
theorem dX10_sit_56 : decode cX10_sit 56 = .ok (.getfield 19, 3) := by decide +kernel
theorem dX10_sit_59 : decode cX10_sit 59 = .ok (.getfield 91, 3) := by decide +kernel
theorem dX10_sit_62 : decode cX10_sit 62 = .ok (.getfield 142, 3) := by decide +kernel
theorem dX10_sit_65 : decode cX10_sit 65 = .ok (.iload_n 1, 1) := by decide +kernel
theorem dX10_sit_66 : decode cX10_sit 66 = .ok (.iload_n 2, 1) := by decide +kernel
theorem dX10_sit_67 : decode cX10_sit 67 = .ok (.iastore, 1) := by decide +kernel
theorem dX10_sit_68 : decode cX10_sit 68 = .ok (.iload_n 3, 1) := by decide +kernel
theorem dX10_sit_69 : decode cX10_sit 69 = .ok (.ireturn, 1) := by decide +kernel
theorem dX10_give_0 : decode cX10_give 0 = .ok (.aload_n 0, 1) := by decide +kernel
theorem dX10_give_1 : decode cX10_give 1 = .ok (.iload_n 1, 1) := by decide +kernel
theorem dX10_give_2 : decode cX10_give 2 = .ok (.invokevirtual 132, 3) := by decide +kernel
theorem dX10_give_5 : decode cX10_give 5 = .ok (.aload_n 0, 1) := by decide +kernel
theorem dX10_give_6 : decode cX10_give 6 = .ok (.iload_n 2, 1) := by decide +kernel
theorem dX10_give_7 : decode cX10_give 7 = .ok (.invokevirtual 132, 3) := by decide +kernel
theorem dX10_give_10 : decode cX10_give 10 = .ok (.iload_n 3, 1) := by decide +kernel
theorem dX10_give_11 : decode cX10_give 11 = .ok (.iload 4, 2) := by decide +kernel
theorem dX10_give_13 : decode cX10_give 13 = .ok (.invokestatic 214, 3) := by decide +kernel
theorem dX10_give_16 : decode cX10_give 16 = .ok (.aload_n 0, 1) := by decide +kernel
theorem dX10_give_17 : decode cX10_give 17 = .ok (.getfield 29, 3) := by decide +kernel
theorem dX10_give_20 : decode cX10_give 20 = .ok (.aload_n 0, 1) := by decide +kernel
theorem dX10_give_21 : decode cX10_give 21 = .ok (.getfield 19, 3) := by decide +kernel
theorem dX10_give_24 : decode cX10_give 24 = .ok (.invokevirtual 242, 3) := by decide +kernel
theorem dX10_give_27 : decode cX10_give 27 = .ok (.aload_n 0, 1) := by decide +kernel
theorem dX10_give_28 : decode cX10_give 28 = .ok (.getfield 19, 3) := by decide +kernel
theorem dX10_give_31 : decode cX10_give 31 = .ok (.iload_n 1, 1) := by decide +kernel
theorem dX10_give_32 : decode cX10_give 32 = .ok (.iload_n 2, 1) := by decide +kernel
theorem dX10_give_33 : decode cX10_give 33 = .ok (.iload_n 3, 1) := by decide +kernel
theorem dX10_give_34 : decode cX10_give 34 = .ok (.iload 4, 2) := by decide +kernel
theorem dX10_give_36 : decode cX10_give 36 = .ok (.invokevirtual 256, 3) := by decide +kernel
theorem dX10_give_39 : decode cX10_give 39 = .ok (.istore 5, 2) := by decide +kernel
theorem dX10_give_41 : decode cX10_give 41 = .ok (.iload 5, 2) := by decide +kernel
theorem dX10_give_43 : decode cX10_give 43 = .ok (.ifCond .ne 28, 3) := by decide +kernel
theorem dX10_give_46 : decode cX10_give 46 = .ok (.aload_n 0, 1) := by decide +kernel
theorem dX10_give_47 : decode cX10_give 47 = .ok (.getfield 19, 3) := by decide +kernel
theorem dX10_give_50 : decode cX10_give 50 = .ok (.getfield 100, 3) := by decide +kernel
theorem dX10_give_53 : decode cX10_give 53 = .ok (.iload_n 1, 1) := by decide +kernel
theorem dX10_give_54 : decode cX10_give 54 = .ok (.iload_n 2, 1) := by decide +kernel
theorem dX10_give_55 : decode cX10_give 55 = .ok (.iload_n 3, 1) := by decide +kernel
theorem dX10_give_56 : decode cX10_give 56 = .ok (.iload 4, 2) := by decide +kernel
theorem dX10_give_58 : decode cX10_give 58 = .ok (.aload_n 0, 1) := by decide +kernel
theorem dX10_give_59 : decode cX10_give 59 = .ok (.getfield 19, 3) := by decide +kernel
theorem dX10_give_62 : decode cX10_give 62 = .ok (.getfield 111, 3) := by decide +kernel
theorem dX10_give_65 : decode cX10_give 65 = .ok (.invokevirtual 260, 3) := by decide +kernel
theorem dX10_give_68 : decode cX10_give 68 = .ok (.goto 16, 3) := by decide +kernel
theorem dX10_give_71 : decode cX10_give 71 = .ok (.aload_n 0, 1) := by decide +kernel
theorem dX10_give_72 : decode cX10_give 72 = .ok (.getfield 19, 3) := by decide +kernel
theorem dX10_give_75 : decode cX10_give 75 = .ok (.dup, 1) := by decide +kernel
theorem dX10_give_76 : decode cX10_give 76 = .ok (.getfield 123, 3) := by decide +kernel
theorem dX10_give_79 : decode cX10_give 79 = .ok (.iconst 1, 1) := by decide +kernel
theorem dX10_give_80 : decode cX10_give 80 = .ok (.iadd, 1) := by decide +kernel
theorem dX10_give_81 : decode cX10_give 81 = .ok (.putfield 123, 3) := by decide +kernel
theorem dX10_give_84 : decode cX10_give 84 = .ok (.iload 5, 2) := by decide +kernel
theorem dX10_give_86 : decode cX10_give 86 = .ok (.ireturn, 1) := by decide +kernel
theorem dX10_call_0 : decode cX10_call 0 = .ok (.iload_n 1, 1) := by decide +kernel
theorem dX10_call_1 : decode cX10_call 1 = .ok (.invokestatic 211, 3) := by decide +kernel
theorem dX10_call_4 : decode cX10_call 4 = .ok (.iload_n 2, 1) := by decide +kernel
theorem dX10_call_5 : decode cX10_call 5 = .ok (.iload_n 3, 1) := by decide +kernel
theorem dX10_call_6 : decode cX10_call 6 = .ok (.invokestatic 214, 3) := by decide +kernel
theorem dX10_call_9 : decode cX10_call 9 = .ok (.aload_n 0, 1) := by decide +kernel
theorem dX10_call_10 : decode cX10_call 10 = .ok (.getfield 29, 3) := by decide +kernel
theorem dX10_call_13 : decode cX10_call 13 = .ok (.aload_n 0, 1) := by decide +kernel
theorem dX10_call_14 : decode cX10_call 14 = .ok (.getfield 19, 3) := by decide +kernel
theorem dX10_call_17 : decode cX10_call 17 = .ok (.invokevirtual 242, 3) := by decide +kernel
theorem dX10_call_20 : decode cX10_call 20 = .ok (.aload_n 0, 1) := by decide +kernel
theorem dX10_call_21 : decode cX10_call 21 = .ok (.getfield 19, 3) := by decide +kernel
theorem dX10_call_24 : decode cX10_call 24 = .ok (.iload_n 1, 1) := by decide +kernel
theorem dX10_call_25 : decode cX10_call 25 = .ok (.iload_n 2, 1) := by decide +kernel
theorem dX10_call_26 : decode cX10_call 26 = .ok (.iload_n 3, 1) := by decide +kernel
theorem dX10_call_27 : decode cX10_call 27 = .ok (.invokevirtual 263, 3) := by decide +kernel
theorem dX10_call_30 : decode cX10_call 30 = .ok (.istore 4, 2) := by decide +kernel
theorem dX10_call_32 : decode cX10_call 32 = .ok (.iload 4, 2) := by decide +kernel
theorem dX10_call_34 : decode cX10_call 34 = .ok (.iconst (-1), 1) := by decide +kernel
theorem dX10_call_35 : decode cX10_call 35 = .ok (.if_icmp .ne 16, 3) := by decide +kernel
theorem dX10_call_38 : decode cX10_call 38 = .ok (.aload_n 0, 1) := by decide +kernel
theorem dX10_call_39 : decode cX10_call 39 = .ok (.getfield 19, 3) := by decide +kernel
theorem dX10_call_42 : decode cX10_call 42 = .ok (.dup, 1) := by decide +kernel
theorem dX10_call_43 : decode cX10_call 43 = .ok (.getfield 120, 3) := by decide +kernel
theorem dX10_call_46 : decode cX10_call 46 = .ok (.iconst 1, 1) := by decide +kernel
theorem dX10_call_47 : decode cX10_call 47 = .ok (.iadd, 1) := by decide +kernel
theorem dX10_call_48 : decode cX10_call 48 = .ok (.putfield 120, 3) := by decide +kernel
theorem dX10_call_51 : decode cX10_call 51 = .ok (.iload 4, 2) := by decide +kernel
theorem dX10_call_53 : decode cX10_call 53 = .ok (.ireturn, 1) := by decide +kernel
theorem dX10_years_0 : decode cX10_years 0 = .ok (.iload_n 1, 1) := by decide +kernel
theorem dX10_years_1 : decode cX10_years 1 = .ok (.invokestatic 266, 3) := by decide +kernel
theorem dX10_years_4 : decode cX10_years 4 = .ok (.ifCond .ne 14, 3) := by decide +kernel
theorem dX10_years_7 : decode cX10_years 7 = .ok (.new 47, 3) := by decide +kernel
theorem dX10_years_10 : decode cX10_years 10 = .ok (.dup, 1) := by decide +kernel
theorem dX10_years_11 : decode cX10_years 11 = .ok (.ldc_w 269, 3) := by decide +kernel
theorem dX10_years_14 : decode cX10_years 14 = .ok (.invokespecial 51, 3) := by decide +kernel
theorem dX10_years_17 : decode cX10_years 17 = .ok (.athrow, 1) := by decide +kernel
theorem dX10_years_18 : decode cX10_years 18 = .ok (.aload_n 0, 1) := by decide +kernel
theorem dX10_years_19 : decode cX10_years 19 = .ok (.getfield 19, 3) := by decide +kernel
theorem dX10_years_22 : decode cX10_years 22 = .ok (.getfield 111, 3) := by decide +kernel
theorem dX10_years_25 : decode cX10_years 25 = .ok (.iload_n 1, 1) := by decide +kernel
theorem dX10_years_26 : decode cX10_years 26 = .ok (.iadd, 1) := by decide +kernel
theorem dX10_years_27 : decode cX10_years 27 = .ok (.sipush 999, 3) := by decide +kernel
theorem dX10_years_30 : decode cX10_years 30 = .ok (.if_icmp .le 14, 3) := by decide +kernel
theorem dX10_years_33 : decode cX10_years 33 = .ok (.new 58, 3) := by decide +kernel
theorem dX10_years_36 : decode cX10_years 36 = .ok (.dup, 1) := by decide +kernel
theorem dX10_years_37 : decode cX10_years 37 = .ok (.ldc_w 271, 3) := by decide +kernel
theorem dX10_years_40 : decode cX10_years 40 = .ok (.invokespecial 62, 3) := by decide +kernel
theorem dX10_years_43 : decode cX10_years 43 = .ok (.athrow, 1) := by decide +kernel
theorem dX10_years_44 : decode cX10_years 44 = .ok (.aload_n 0, 1) := by decide +kernel
theorem dX10_years_45 : decode cX10_years 45 = .ok (.getfield 29, 3) := by decide +kernel
theorem dX10_years_48 : decode cX10_years 48 = .ok (.aload_n 0, 1) := by decide +kernel
theorem dX10_years_49 : decode cX10_years 49 = .ok (.getfield 19, 3) := by decide +kernel
theorem dX10_years_52 : decode cX10_years 52 = .ok (.invokevirtual 242, 3) := by decide +kernel
theorem dX10_years_55 : decode cX10_years 55 = .ok (.aload_n 0, 1) := by decide +kernel
theorem dX10_years_56 : decode cX10_years 56 = .ok (.getfield 19, 3) := by decide +kernel
theorem dX10_years_59 : decode cX10_years 59 = .ok (.iload_n 1, 1) := by decide +kernel
theorem dX10_years_60 : decode cX10_years 60 = .ok (.invokevirtual 273, 3) := by decide +kernel
theorem dX10_years_63 : decode cX10_years 63 = .ok (.ireturn, 1) := by decide +kernel
theorem dX10_set_0 : decode cX10_set 0 = .ok (.iload_n 1, 1) := by decide +kernel
theorem dX10_set_1 : decode cX10_set 1 = .ok (.iload_n 2, 1) := by decide +kernel
theorem dX10_set_2 : decode cX10_set 2 = .ok (.invokestatic 276, 3) := by decide +kernel
theorem dX10_set_5 : decode cX10_set 5 = .ok (.ifCond .ne 14, 3) := by decide +kernel
theorem dX10_set_8 : decode cX10_set 8 = .ok (.new 47, 3) := by decide +kernel
theorem dX10_set_11 : decode cX10_set 11 = .ok (.dup, 1) := by decide +kernel
theorem dX10_set_12 : decode cX10_set 12 = .ok (.ldc_w 279, 3) := by decide +kernel
theorem dX10_set_15 : decode cX10_set 15 = .ok (.invokespecial 51, 3) := by decide +kernel
theorem dX10_set_18 : decode cX10_set 18 = .ok (.athrow, 1) := by decide +kernel
theorem dX10_set_19 : decode cX10_set 19 = .ok (.aload_n 0, 1) := by decide +kernel
theorem dX10_set_20 : decode cX10_set 20 = .ok (.getfield 29, 3) := by decide +kernel
theorem dX10_set_23 : decode cX10_set 23 = .ok (.aload_n 0, 1) := by decide +kernel
theorem dX10_set_24 : decode cX10_set 24 = .ok (.getfield 19, 3) := by decide +kernel
theorem dX10_set_27 : decode cX10_set 27 = .ok (.invokevirtual 242, 3) := by decide +kernel
theorem dX10_set_30 : decode cX10_set 30 = .ok (.aload_n 0, 1) := by decide +kernel
theorem dX10_set_31 : decode cX10_set 31 = .ok (.getfield 19, 3) := by decide +kernel
theorem dX10_set_34 : decode cX10_set 34 = .ok (.getfield 126, 3) := by decide +kernel
theorem dX10_set_37 : decode cX10_set 37 = .ok (.iload_n 1, 1) := by decide +kernel
theorem dX10_set_38 : decode cX10_set 38 = .ok (.iaload, 1) := by decide +kernel
theorem dX10_set_39 : decode cX10_set 39 = .ok (.istore_n 3, 1) := by decide +kernel
theorem dX10_set_40 : decode cX10_set 40 = .ok (.aload_n 0, 1) := by decide +kernel
theorem dX10_set_41 : decode cX10_set 41 = .ok (.getfield 19, 3) := by decide +kernel
theorem dX10_set_44 : decode cX10_set 44 = .ok (.getfield 126, 3) := by decide +kernel
theorem dX10_set_47 : decode cX10_set 47 = .ok (.iload_n 1, 1) := by decide +kernel
theorem dX10_set_48 : decode cX10_set 48 = .ok (.iload_n 2, 1) := by decide +kernel
theorem dX10_set_49 : decode cX10_set 49 = .ok (.iastore, 1) := by decide +kernel
theorem dX10_set_50 : decode cX10_set 50 = .ok (.iload_n 3, 1) := by decide +kernel
theorem dX10_set_51 : decode cX10_set 51 = .ok (.ireturn, 1) := by decide +kernel
theorem dX10_undo_0 : decode cX10_undo 0 = .ok (.aload_n 0, 1) := by decide +kernel
theorem dX10_undo_1 : decode cX10_undo 1 = .ok (.getfield 29, 3) := by decide +kernel
theorem dX10_undo_4 : decode cX10_undo 4 = .ok (.getfield 281, 3) := by decide +kernel
theorem dX10_undo_7 : decode cX10_undo 7 = .ok (.ifCond .ne 14, 3) := by decide +kernel
theorem dX10_undo_10 : decode cX10_undo 10 = .ok (.new 58, 3) := by decide +kernel
theorem dX10_undo_13 : decode cX10_undo 13 = .ok (.dup, 1) := by decide +kernel
theorem dX10_undo_14 : decode cX10_undo 14 = .ok (.ldc_w 282, 3) := by decide +kernel
theorem dX10_undo_17 : decode cX10_undo 17 = .ok (.invokespecial 62, 3) := by decide +kernel
theorem dX10_undo_20 : decode cX10_undo 20 = .ok (.athrow, 1) := by decide +kernel
theorem dX10_undo_21 : decode cX10_undo 21 = .ok (.aload_n 0, 1) := by decide +kernel
theorem dX10_undo_22 : decode cX10_undo 22 = .ok (.getfield 29, 3) := by decide +kernel
theorem dX10_undo_25 : decode cX10_undo 25 = .ok (.aload_n 0, 1) := by decide +kernel
theorem dX10_undo_26 : decode cX10_undo 26 = .ok (.getfield 19, 3) := by decide +kernel
theorem dX10_undo_29 : decode cX10_undo 29 = .ok (.invokevirtual 284, 3) := by decide +kernel
theorem dX10_undo_32 : decode cX10_undo 32 = .ok (.aload_n 0, 1) := by decide +kernel
theorem dX10_undo_33 : decode cX10_undo 33 = .ok (.getfield 29, 3) := by decide +kernel
theorem dX10_undo_36 : decode cX10_undo 36 = .ok (.getfield 281, 3) := by decide +kernel
theorem dX10_undo_39 : decode cX10_undo 39 = .ok (.ireturn, 1) := by decide +kernel
theorem dX10_why_0 : decode cX10_why 0 = .ok (.aload_n 0, 1) := by decide +kernel
theorem dX10_why_1 : decode cX10_why 1 = .ok (.iload_n 1, 1) := by decide +kernel
theorem dX10_why_2 : decode cX10_why 2 = .ok (.invokevirtual 132, 3) := by decide +kernel
theorem dX10_why_5 : decode cX10_why 5 = .ok (.aload_n 0, 1) := by decide +kernel
theorem dX10_why_6 : decode cX10_why 6 = .ok (.iload_n 2, 1) := by decide +kernel
theorem dX10_why_7 : decode cX10_why 7 = .ok (.invokevirtual 132, 3) := by decide +kernel
theorem dX10_why_10 : decode cX10_why 10 = .ok (.iload_n 3, 1) := by decide +kernel
theorem dX10_why_11 : decode cX10_why 11 = .ok (.iload 4, 2) := by decide +kernel
theorem dX10_why_13 : decode cX10_why 13 = .ok (.invokestatic 214, 3) := by decide +kernel
theorem dX10_why_16 : decode cX10_why 16 = .ok (.aload_n 0, 1) := by decide +kernel
theorem dX10_why_17 : decode cX10_why 17 = .ok (.getfield 19, 3) := by decide +kernel
theorem dX10_why_20 : decode cX10_why 20 = .ok (.iload_n 1, 1) := by decide +kernel
theorem dX10_why_21 : decode cX10_why 21 = .ok (.iload_n 2, 1) := by decide +kernel
theorem dX10_why_22 : decode cX10_why 22 = .ok (.iload_n 3, 1) := by decide +kernel
theorem dX10_why_23 : decode cX10_why 23 = .ok (.iload 4, 2) := by decide +kernel
theorem dX10_why_25 : decode cX10_why 25 = .ok (.invokevirtual 256, 3) := by decide +kernel
theorem dX10_why_28 : decode cX10_why 28 = .ok (.ireturn, 1) := by decide +kernel
theorem dX10_endsIn_0 : decode cX10_endsIn 0 = .ok (.aload_n 0, 1) := by decide +kernel
theorem dX10_endsIn_1 : decode cX10_endsIn 1 = .ok (.iload_n 1, 1) := by decide +kernel
theorem dX10_endsIn_2 : decode cX10_endsIn 2 = .ok (.invokevirtual 165, 3) := by decide +kernel
theorem dX10_endsIn_5 : decode cX10_endsIn 5 = .ok (.aload_n 0, 1) := by decide +kernel
theorem dX10_endsIn_6 : decode cX10_endsIn 6 = .ok (.getfield 19, 3) := by decide +kernel
theorem dX10_endsIn_9 : decode cX10_endsIn 9 = .ok (.iload_n 1, 1) := by decide +kernel
theorem dX10_endsIn_10 : decode cX10_endsIn 10 = .ok (.invokevirtual 287, 3) := by decide +kernel
theorem dX10_endsIn_13 : decode cX10_endsIn 13 = .ok (.ireturn, 1) := by decide +kernel
theorem dX10_bestName_0 : decode cX10_bestName 0 = .ok (.aload_n 0, 1) := by decide +kernel
theorem dX10_bestName_1 : decode cX10_bestName 1 = .ok (.iload_n 1, 1) := by decide +kernel
theorem dX10_bestName_2 : decode cX10_bestName 2 = .ok (.invokevirtual 132, 3) := by decide +kernel
theorem dX10_bestName_5 : decode cX10_bestName 5 = .ok (.aload_n 0, 1) := by decide +kernel
theorem dX10_bestName_6 : decode cX10_bestName 6 = .ok (.iload_n 2, 1) := by decide +kernel
theorem dX10_bestName_7 : decode cX10_bestName 7 = .ok (.invokevirtual 132, 3) := by decide +kernel
theorem dX10_bestName_10 : decode cX10_bestName 10 = .ok (.iload_n 3, 1) := by decide +kernel
theorem dX10_bestName_11 : decode cX10_bestName 11 = .ok (.iconst 1, 1) := by decide +kernel
theorem dX10_bestName_12 : decode cX10_bestName 12 = .ok (.if_icmp .eq 19, 3) := by decide +kernel
theorem dX10_bestName_15 : decode cX10_bestName 15 = .ok (.iload_n 3, 1) := by decide +kernel
theorem dX10_bestName_16 : decode cX10_bestName 16 = .ok (.iconst 2, 1) := by decide +kernel
theorem dX10_bestName_17 : decode cX10_bestName 17 = .ok (.if_icmp .eq 14, 3) := by decide +kernel
theorem dX10_bestName_20 : decode cX10_bestName 20 = .ok (.new 47, 3) := by decide +kernel
theorem dX10_bestName_23 : decode cX10_bestName 23 = .ok (.dup, 1) := by decide +kernel
theorem dX10_bestName_24 : decode cX10_bestName 24 = .ok (.ldc_w 290, 3) := by decide +kernel
theorem dX10_bestName_27 : decode cX10_bestName 27 = .ok (.invokespecial 51, 3) := by decide +kernel
theorem dX10_bestName_30 : decode cX10_bestName 30 = .ok (.athrow, 1) := by decide +kernel
theorem dX10_bestName_31 : decode cX10_bestName 31 = .ok (.aload_n 0, 1) := by decide +kernel
theorem dX10_bestName_32 : decode cX10_bestName 32 = .ok (.getfield 43, 3) := by decide +kernel
theorem dX10_bestName_35 : decode cX10_bestName 35 = .ok (.aload_n 0, 1) := by decide +kernel
theorem dX10_bestName_36 : decode cX10_bestName 36 = .ok (.getfield 19, 3) := by decide +kernel
theorem dX10_bestName_39 : decode cX10_bestName 39 = .ok (.iload_n 1, 1) := by decide +kernel
theorem dX10_bestName_40 : decode cX10_bestName 40 = .ok (.iload_n 2, 1) := by decide +kernel
theorem dX10_bestName_41 : decode cX10_bestName 41 = .ok (.iload_n 3, 1) := by decide +kernel
theorem dX10_bestName_42 : decode cX10_bestName 42 = .ok (.invokevirtual 292, 3) := by decide +kernel
theorem dX10_bestName_45 : decode cX10_bestName 45 = .ok (.ireturn, 1) := by decide +kernel
theorem dX10_bestGiver_0 : decode cX10_bestGiver 0 = .ok (.iconst (-1), 1) := by decide +kernel
theorem dX10_bestGiver_1 : decode cX10_bestGiver 1 = .ok (.istore_n 1, 1) := by decide +kernel
theorem dX10_bestGiver_2 : decode cX10_bestGiver 2 = .ok (.iconst 0, 1) := by decide +kernel
theorem dX10_bestGiver_3 : decode cX10_bestGiver 3 = .ok (.istore_n 2, 1) := by decide +kernel
theorem dX10_bestGiver_4 : decode cX10_bestGiver 4 = .ok (.iload_n 2, 1) := by decide +kernel
theorem dX10_bestGiver_5 : decode cX10_bestGiver 5 = .ok (.aload_n 0, 1) := by decide +kernel
theorem dX10_bestGiver_6 : decode cX10_bestGiver 6 = .ok (.getfield 19, 3) := by decide +kernel
theorem dX10_bestGiver_9 : decode cX10_bestGiver 9 = .ok (.getfield 91, 3) := by decide +kernel
theorem dX10_bestGiver_12 : decode cX10_bestGiver 12 = .ok (.getfield 95, 3) := by decide +kernel
theorem dX10_bestGiver_15 : decode cX10_bestGiver 15 = .ok (.if_icmp .ge 45, 3) := by decide +kernel
theorem dX10_bestGiver_18 : decode cX10_bestGiver 18 = .ok (.aload_n 0, 1) := by decide +kernel
theorem dX10_bestGiver_19 : decode cX10_bestGiver 19 = .ok (.getfield 19, 3) := by decide +kernel
theorem dX10_bestGiver_22 : decode cX10_bestGiver 22 = .ok (.getfield 100, 3) := by decide +kernel
theorem dX10_bestGiver_25 : decode cX10_bestGiver 25 = .ok (.iload_n 2, 1) := by decide +kernel
theorem dX10_bestGiver_26 : decode cX10_bestGiver 26 = .ok (.invokevirtual 151, 3) := by decide +kernel
theorem dX10_bestGiver_29 : decode cX10_bestGiver 29 = .ok (.ifCond .le 25, 3) := by decide +kernel
theorem dX10_bestGiver_32 : decode cX10_bestGiver 32 = .ok (.iload_n 1, 1) := by decide +kernel
theorem dX10_bestGiver_33 : decode cX10_bestGiver 33 = .ok (.iconst (-1), 1) := by decide +kernel
theorem dX10_bestGiver_34 : decode cX10_bestGiver 34 = .ok (.if_icmp .eq 18, 3) := by decide +kernel
theorem dX10_bestGiver_37 : decode cX10_bestGiver 37 = .ok (.aload_n 0, 1) := by decide +kernel
theorem dX10_bestGiver_38 : decode cX10_bestGiver 38 = .ok (.getfield 19, 3) := by decide +kernel
theorem dX10_bestGiver_41 : decode cX10_bestGiver 41 = .ok (.getfield 100, 3) := by decide +kernel
theorem dX10_bestGiver_44 : decode cX10_bestGiver 44 = .ok (.iload_n 2, 1) := by decide +kernel
theorem dX10_bestGiver_45 : decode cX10_bestGiver 45 = .ok (.iload_n 1, 1) := by decide +kernel
theorem dX10_bestGiver_46 : decode cX10_bestGiver 46 = .ok (.invokevirtual 296, 3) := by decide +kernel
theorem dX10_bestGiver_49 : decode cX10_bestGiver 49 = .ok (.ifCond .eq 5, 3) := by decide +kernel
theorem dX10_bestGiver_52 : decode cX10_bestGiver 52 = .ok (.iload_n 2, 1) := by decide +kernel
theorem dX10_bestGiver_53 : decode cX10_bestGiver 53 = .ok (.istore_n 1, 1) := by decide +kernel
theorem dX10_bestGiver_54 : decode cX10_bestGiver 54 = .ok (.iinc 2 1, 3) := by decide +kernel
theorem dX10_bestGiver_57 : decode cX10_bestGiver 57 = .ok (.goto (-53), 3) := by decide +kernel
theorem dX10_bestGiver_60 : decode cX10_bestGiver 60 = .ok (.iload_n 1, 1) := by decide +kernel
theorem dX10_bestGiver_61 : decode cX10_bestGiver 61 = .ok (.ireturn, 1) := by decide +kernel
theorem dX10_mixed_0 : decode cX10_mixed 0 = .ok (.iconst (-1), 1) := by decide +kernel
theorem dX10_mixed_1 : decode cX10_mixed 1 = .ok (.istore_n 1, 1) := by decide +kernel
theorem dX10_mixed_2 : decode cX10_mixed 2 = .ok (.iconst 0, 1) := by decide +kernel
theorem dX10_mixed_3 : decode cX10_mixed 3 = .ok (.istore_n 2, 1) := by decide +kernel
theorem dX10_mixed_4 : decode cX10_mixed 4 = .ok (.iload_n 2, 1) := by decide +kernel
theorem dX10_mixed_5 : decode cX10_mixed 5 = .ok (.aload_n 0, 1) := by decide +kernel
theorem dX10_mixed_6 : decode cX10_mixed 6 = .ok (.getfield 19, 3) := by decide +kernel
theorem dX10_mixed_9 : decode cX10_mixed 9 = .ok (.getfield 91, 3) := by decide +kernel
theorem dX10_mixed_12 : decode cX10_mixed 12 = .ok (.getfield 95, 3) := by decide +kernel
theorem dX10_mixed_15 : decode cX10_mixed 15 = .ok (.if_icmp .ge 47, 3) := by decide +kernel
theorem dX10_mixed_18 : decode cX10_mixed 18 = .ok (.aload_n 0, 1) := by decide +kernel
theorem dX10_mixed_19 : decode cX10_mixed 19 = .ok (.getfield 19, 3) := by decide +kernel
theorem dX10_mixed_22 : decode cX10_mixed 22 = .ok (.getfield 91, 3) := by decide +kernel
theorem dX10_mixed_25 : decode cX10_mixed 25 = .ok (.getfield 157, 3) := by decide +kernel
theorem dX10_mixed_28 : decode cX10_mixed 28 = .ok (.iload_n 2, 1) := by decide +kernel
theorem dX10_mixed_29 : decode cX10_mixed 29 = .ok (.iaload, 1) := by decide +kernel
theorem dX10_mixed_30 : decode cX10_mixed 30 = .ok (.iload_n 1, 1) := by decide +kernel
theorem dX10_mixed_31 : decode cX10_mixed 31 = .ok (.iconst (-1), 1) := by decide +kernel
theorem dX10_mixed_32 : decode cX10_mixed 32 = .ok (.if_icmp .ne 7, 3) := by decide +kernel
theorem dX10_mixed_35 : decode cX10_mixed 35 = .ok (.iconst 0, 1) := by decide +kernel
theorem dX10_mixed_36 : decode cX10_mixed 36 = .ok (.goto 15, 3) := by decide +kernel
theorem dX10_mixed_39 : decode cX10_mixed 39 = .ok (.aload_n 0, 1) := by decide +kernel
theorem dX10_mixed_40 : decode cX10_mixed 40 = .ok (.getfield 19, 3) := by decide +kernel
theorem dX10_mixed_43 : decode cX10_mixed 43 = .ok (.getfield 91, 3) := by decide +kernel
theorem dX10_mixed_46 : decode cX10_mixed 46 = .ok (.getfield 157, 3) := by decide +kernel
theorem dX10_mixed_49 : decode cX10_mixed 49 = .ok (.iload_n 1, 1) := by decide +kernel
theorem dX10_mixed_50 : decode cX10_mixed 50 = .ok (.iaload, 1) := by decide +kernel
theorem dX10_mixed_51 : decode cX10_mixed 51 = .ok (.if_icmp .le 5, 3) := by decide +kernel
theorem dX10_mixed_54 : decode cX10_mixed 54 = .ok (.iload_n 2, 1) := by decide +kernel
theorem dX10_mixed_55 : decode cX10_mixed 55 = .ok (.istore_n 1, 1) := by decide +kernel
theorem dX10_mixed_56 : decode cX10_mixed 56 = .ok (.iinc 2 1, 3) := by decide +kernel
theorem dX10_mixed_59 : decode cX10_mixed 59 = .ok (.goto (-55), 3) := by decide +kernel
theorem dX10_mixed_62 : decode cX10_mixed 62 = .ok (.iload_n 1, 1) := by decide +kernel
theorem dX10_mixed_63 : decode cX10_mixed 63 = .ok (.ireturn, 1) := by decide +kernel
theorem dX10_runScript_0 : decode cX10_runScript 0 = .ok (.iload_n 1, 1) := by decide +kernel
theorem dX10_runScript_1 : decode cX10_runScript 1 = .ok (.iconst 1, 1) := by decide +kernel
theorem dX10_runScript_2 : decode cX10_runScript 2 = .ok (.if_icmp .lt 8, 3) := by decide +kernel
theorem dX10_runScript_5 : decode cX10_runScript 5 = .ok (.iload_n 1, 1) := by decide +kernel
theorem dX10_runScript_6 : decode cX10_runScript 6 = .ok (.iconst 3, 1) := by decide +kernel
theorem dX10_runScript_7 : decode cX10_runScript 7 = .ok (.if_icmp .le 14, 3) := by decide +kernel
theorem dX10_runScript_10 : decode cX10_runScript 10 = .ok (.new 47, 3) := by decide +kernel
theorem dX10_runScript_13 : decode cX10_runScript 13 = .ok (.dup, 1) := by decide +kernel
theorem dX10_runScript_14 : decode cX10_runScript 14 = .ok (.ldc_w 299, 3) := by decide +kernel
theorem dX10_runScript_17 : decode cX10_runScript 17 = .ok (.invokespecial 51, 3) := by decide +kernel
theorem dX10_runScript_20 : decode cX10_runScript 20 = .ok (.athrow, 1) := by decide +kernel
theorem dX10_runScript_21 : decode cX10_runScript 21 = .ok (.lload_n 2, 1) := by decide +kernel
theorem dX10_runScript_22 : decode cX10_runScript 22 = .ok (.lconst 0, 1) := by decide +kernel
theorem dX10_runScript_23 : decode cX10_runScript 23 = .ok (.lcmp, 1) := by decide +kernel
theorem dX10_runScript_24 : decode cX10_runScript 24 = .ok (.ifCond .lt 12, 3) := by decide +kernel
theorem dX10_runScript_27 : decode cX10_runScript 27 = .ok (.lload_n 2, 1) := by decide +kernel
theorem dX10_runScript_28 : decode cX10_runScript 28 = .ok (.iload_n 1, 1) := by decide +kernel
theorem dX10_runScript_29 : decode cX10_runScript 29 = .ok (.invokestatic 301, 3) := by decide +kernel
theorem dX10_runScript_32 : decode cX10_runScript 32 = .ok (.lcmp, 1) := by decide +kernel
theorem dX10_runScript_33 : decode cX10_runScript 33 = .ok (.ifCond .lt 14, 3) := by decide +kernel
theorem dX10_runScript_36 : decode cX10_runScript 36 = .ok (.new 47, 3) := by decide +kernel
theorem dX10_runScript_39 : decode cX10_runScript 39 = .ok (.dup, 1) := by decide +kernel
theorem dX10_runScript_40 : decode cX10_runScript 40 = .ok (.ldc_w 307, 3) := by decide +kernel
theorem dX10_runScript_43 : decode cX10_runScript 43 = .ok (.invokespecial 51, 3) := by decide +kernel
theorem dX10_runScript_46 : decode cX10_runScript 46 = .ok (.athrow, 1) := by decide +kernel
theorem dX10_runScript_47 : decode cX10_runScript 47 = .ok (.aload_n 0, 1) := by decide +kernel
theorem dX10_runScript_48 : decode cX10_runScript 48 = .ok (.getfield 23, 3) := by decide +kernel
theorem dX10_runScript_51 : decode cX10_runScript 51 = .ok (.aload_n 0, 1) := by decide +kernel
theorem dX10_runScript_52 : decode cX10_runScript 52 = .ok (.getfield 19, 3) := by decide +kernel
theorem dX10_runScript_55 : decode cX10_runScript 55 = .ok (.invokevirtual 309, 3) := by decide +kernel
theorem dX10_runScript_58 : decode cX10_runScript 58 = .ok (.iconst 0, 1) := by decide +kernel
theorem dX10_runScript_59 : decode cX10_runScript 59 = .ok (.istore 4, 2) := by decide +kernel
theorem dX10_runScript_61 : decode cX10_runScript 61 = .ok (.iload 4, 2) := by decide +kernel
theorem dX10_runScript_63 : decode cX10_runScript 63 = .ok (.iload_n 1, 1) := by decide +kernel
theorem dX10_runScript_64 : decode cX10_runScript 64 = .ok (.if_icmp .ge 29, 3) := by decide +kernel
theorem dX10_runScript_67 : decode cX10_runScript 67 = .ok (.aload_n 0, 1) := by decide +kernel
theorem dX10_runScript_68 : decode cX10_runScript 68 = .ok (.getfield 23, 3) := by decide +kernel
theorem dX10_runScript_71 : decode cX10_runScript 71 = .ok (.lload_n 2, 1) := by decide +kernel
theorem dX10_runScript_72 : decode cX10_runScript 72 = .ok (.iload_n 1, 1) := by decide +kernel
theorem dX10_runScript_73 : decode cX10_runScript 73 = .ok (.iload 4, 2) := by decide +kernel
theorem dX10_runScript_75 : decode cX10_runScript 75 = .ok (.invokestatic 312, 3) := by decide +kernel
theorem dX10_runScript_78 : decode cX10_runScript 78 = .ok (.invokestatic 316, 3) := by decide +kernel
theorem dX10_runScript_81 : decode cX10_runScript 81 = .ok (.ifCond .ne 6, 3) := by decide +kernel
theorem dX10_runScript_84 : decode cX10_runScript 84 = .ok (.iload 4, 2) := by decide +kernel
theorem dX10_runScript_86 : decode cX10_runScript 86 = .ok (.ireturn, 1) := by decide +kernel
theorem dX10_runScript_87 : decode cX10_runScript 87 = .ok (.iinc 4 1, 3) := by decide +kernel
theorem dX10_runScript_90 : decode cX10_runScript 90 = .ok (.goto (-29), 3) := by decide +kernel
theorem dX10_runScript_93 : decode cX10_runScript 93 = .ok (.iconst (-1), 1) := by decide +kernel
theorem dX10_runScript_94 : decode cX10_runScript 94 = .ok (.ireturn, 1) := by decide +kernel
theorem dX10_simulate_0 : decode cX10_simulate 0 = .ok (.iload_n 3, 1) := by decide +kernel
theorem dX10_simulate_1 : decode cX10_simulate 1 = .ok (.iconst 1, 1) := by decide +kernel
theorem dX10_simulate_2 : decode cX10_simulate 2 = .ok (.if_icmp .lt 9, 3) := by decide +kernel
theorem dX10_simulate_5 : decode cX10_simulate 5 = .ok (.iload_n 3, 1) := by decide +kernel
theorem dX10_simulate_6 : decode cX10_simulate 6 = .ok (.bipush 60, 2) := by decide +kernel
theorem dX10_simulate_8 : decode cX10_simulate 8 = .ok (.if_icmp .le 14, 3) := by decide +kernel
theorem dX10_simulate_11 : decode cX10_simulate 11 = .ok (.new 47, 3) := by decide +kernel
theorem dX10_simulate_14 : decode cX10_simulate 14 = .ok (.dup, 1) := by decide +kernel
theorem dX10_simulate_15 : decode cX10_simulate 15 = .ok (.ldc_w 320, 3) := by decide +kernel
theorem dX10_simulate_18 : decode cX10_simulate 18 = .ok (.invokespecial 51, 3) := by decide +kernel
theorem dX10_simulate_21 : decode cX10_simulate 21 = .ok (.athrow, 1) := by decide +kernel
theorem dX10_simulate_22 : decode cX10_simulate 22 = .ok (.aload_n 0, 1) := by decide +kernel
theorem dX10_simulate_23 : decode cX10_simulate 23 = .ok (.getfield 23, 3) := by decide +kernel
theorem dX10_simulate_26 : decode cX10_simulate 26 = .ok (.aload_n 0, 1) := by decide +kernel
theorem dX10_simulate_27 : decode cX10_simulate 27 = .ok (.getfield 19, 3) := by decide +kernel
theorem dX10_simulate_30 : decode cX10_simulate 30 = .ok (.invokevirtual 309, 3) := by decide +kernel
theorem dX10_simulate_33 : decode cX10_simulate 33 = .ok (.lload_n 1, 1) := by decide +kernel
theorem dX10_simulate_34 : decode cX10_simulate 34 = .ok (.lstore 4, 2) := by decide +kernel
theorem dX10_simulate_36 : decode cX10_simulate 36 = .ok (.iconst 0, 1) := by decide +kernel
theorem dX10_simulate_37 : decode cX10_simulate 37 = .ok (.istore 6, 2) := by decide +kernel
theorem dX10_simulate_39 : decode cX10_simulate 39 = .ok (.iload 6, 2) := by decide +kernel
theorem dX10_simulate_41 : decode cX10_simulate 41 = .ok (.iload_n 3, 1) := by decide +kernel
theorem dX10_simulate_42 : decode cX10_simulate 42 = .ok (.if_icmp .ge 34, 3) := by decide +kernel
theorem dX10_simulate_45 : decode cX10_simulate 45 = .ok (.lload 4, 2) := by decide +kernel
theorem dX10_simulate_47 : decode cX10_simulate 47 = .ok (.ldc2_w 322, 3) := by decide +kernel
theorem dX10_simulate_50 : decode cX10_simulate 50 = .ok (.lmul, 1) := by decide +kernel
theorem dX10_simulate_51 : decode cX10_simulate 51 = .ok (.ldc2_w 324, 3) := by decide +kernel
theorem dX10_simulate_54 : decode cX10_simulate 54 = .ok (.ladd, 1) := by decide +kernel
theorem dX10_simulate_55 : decode cX10_simulate 55 = .ok (.lstore 4, 2) := by decide +kernel
theorem dX10_simulate_57 : decode cX10_simulate 57 = .ok (.aload_n 0, 1) := by decide +kernel
theorem dX10_simulate_58 : decode cX10_simulate 58 = .ok (.getfield 23, 3) := by decide +kernel
theorem dX10_simulate_61 : decode cX10_simulate 61 = .ok (.lload 4, 2) := by decide +kernel
theorem dX10_simulate_63 : decode cX10_simulate 63 = .ok (.bipush 33, 2) := by decide +kernel
theorem dX10_simulate_65 : decode cX10_simulate 65 = .ok (.lushr, 1) := by decide +kernel
theorem dX10_simulate_66 : decode cX10_simulate 66 = .ok (.l2i, 1) := by decide +kernel
theorem dX10_simulate_67 : decode cX10_simulate 67 = .ok (.invokestatic 326, 3) := by decide +kernel
theorem dX10_simulate_70 : decode cX10_simulate 70 = .ok (.iinc 6 1, 3) := by decide +kernel
theorem dX10_simulate_73 : decode cX10_simulate 73 = .ok (.goto (-34), 3) := by decide +kernel
theorem dX10_simulate_76 : decode cX10_simulate 76 = .ok (.sipush 10000, 3) := by decide +kernel
theorem dX10_simulate_79 : decode cX10_simulate 79 = .ok (.aload_n 0, 1) := by decide +kernel
theorem dX10_simulate_80 : decode cX10_simulate 80 = .ok (.getfield 23, 3) := by decide +kernel
theorem dX10_simulate_83 : decode cX10_simulate 83 = .ok (.getfield 100, 3) := by decide +kernel
theorem dX10_simulate_86 : decode cX10_simulate 86 = .ok (.invokevirtual 332, 3) := by decide +kernel
theorem dX10_simulate_89 : decode cX10_simulate 89 = .ok (.imul, 1) := by decide +kernel
theorem dX10_simulate_90 : decode cX10_simulate 90 = .ok (.bipush 100, 2) := by decide +kernel
theorem dX10_simulate_92 : decode cX10_simulate 92 = .ok (.aload_n 0, 1) := by decide +kernel
theorem dX10_simulate_93 : decode cX10_simulate 93 = .ok (.getfield 23, 3) := by decide +kernel
theorem dX10_simulate_96 : decode cX10_simulate 96 = .ok (.getfield 91, 3) := by decide +kernel
theorem dX10_simulate_99 : decode cX10_simulate 99 = .ok (.getfield 95, 3) := by decide +kernel
theorem dX10_simulate_102 : decode cX10_simulate 102 = .ok (.imul, 1) := by decide +kernel
theorem dX10_simulate_103 : decode cX10_simulate 103 = .ok (.iadd, 1) := by decide +kernel
theorem dX10_simulate_104 : decode cX10_simulate 104 = .ok (.aload_n 0, 1) := by decide +kernel
theorem dX10_simulate_105 : decode cX10_simulate 105 = .ok (.getfield 23, 3) := by decide +kernel
theorem dX10_simulate_108 : decode cX10_simulate 108 = .ok (.getfield 117, 3) := by decide +kernel
theorem dX10_simulate_111 : decode cX10_simulate 111 = .ok (.aload_n 0, 1) := by decide +kernel
theorem dX10_simulate_112 : decode cX10_simulate 112 = .ok (.getfield 19, 3) := by decide +kernel
theorem dX10_simulate_115 : decode cX10_simulate 115 = .ok (.getfield 117, 3) := by decide +kernel
theorem dX10_simulate_118 : decode cX10_simulate 118 = .ok (.isub, 1) := by decide +kernel
theorem dX10_simulate_119 : decode cX10_simulate 119 = .ok (.iadd, 1) := by decide +kernel
theorem dX10_simulate_120 : decode cX10_simulate 120 = .ok (.ireturn, 1) := by decide +kernel
theorem dX10_save_0 : decode cX10_save 0 = .ok (.iload_n 1, 1) := by decide +kernel
theorem dX10_save_1 : decode cX10_save 1 = .ok (.invokestatic 335, 3) := by decide +kernel
theorem dX10_save_4 : decode cX10_save 4 = .ok (.aload_n 0, 1) := by decide +kernel
theorem dX10_save_5 : decode cX10_save 5 = .ok (.getfield 36, 3) := by decide +kernel
theorem dX10_save_8 : decode cX10_save 8 = .ok (.getfield 338, 3) := by decide +kernel
theorem dX10_save_11 : decode cX10_save 11 = .ok (.iload_n 1, 1) := by decide +kernel
theorem dX10_save_12 : decode cX10_save 12 = .ok (.aaload, 1) := by decide +kernel
theorem dX10_save_13 : decode cX10_save 13 = .ok (.aload_n 0, 1) := by decide +kernel
theorem dX10_save_14 : decode cX10_save 14 = .ok (.getfield 19, 3) := by decide +kernel
theorem dX10_save_17 : decode cX10_save 17 = .ok (.invokevirtual 309, 3) := by decide +kernel
theorem dX10_save_20 : decode cX10_save 20 = .ok (.aload_n 0, 1) := by decide +kernel
theorem dX10_save_21 : decode cX10_save 21 = .ok (.getfield 36, 3) := by decide +kernel
theorem dX10_save_24 : decode cX10_save 24 = .ok (.getfield 342, 3) := by decide +kernel
theorem dX10_save_27 : decode cX10_save 27 = .ok (.iload_n 1, 1) := by decide +kernel
theorem dX10_save_28 : decode cX10_save 28 = .ok (.iconst 1, 1) := by decide +kernel
theorem dX10_save_29 : decode cX10_save 29 = .ok (.bastore, 1) := by decide +kernel
theorem dX10_save_30 : decode cX10_save 30 = .ok (.aload_n 0, 1) := by decide +kernel
theorem dX10_save_31 : decode cX10_save 31 = .ok (.getfield 19, 3) := by decide +kernel
theorem dX10_save_34 : decode cX10_save 34 = .ok (.getfield 100, 3) := by decide +kernel
theorem dX10_save_37 : decode cX10_save 37 = .ok (.getfield 104, 3) := by decide +kernel
theorem dX10_save_40 : decode cX10_save 40 = .ok (.ireturn, 1) := by decide +kernel
theorem dX10_restore_0 : decode cX10_restore 0 = .ok (.iload_n 1, 1) := by decide +kernel
theorem dX10_restore_1 : decode cX10_restore 1 = .ok (.invokestatic 335, 3) := by decide +kernel
theorem dX10_restore_4 : decode cX10_restore 4 = .ok (.aload_n 0, 1) := by decide +kernel
theorem dX10_restore_5 : decode cX10_restore 5 = .ok (.getfield 36, 3) := by decide +kernel
theorem dX10_restore_8 : decode cX10_restore 8 = .ok (.getfield 342, 3) := by decide +kernel
theorem dX10_restore_11 : decode cX10_restore 11 = .ok (.iload_n 1, 1) := by decide +kernel
theorem dX10_restore_12 : decode cX10_restore 12 = .ok (.baload, 1) := by decide +kernel
theorem dX10_restore_13 : decode cX10_restore 13 = .ok (.ifCond .ne 14, 3) := by decide +kernel
theorem dX10_restore_16 : decode cX10_restore 16 = .ok (.new 58, 3) := by decide +kernel
theorem dX10_restore_19 : decode cX10_restore 19 = .ok (.dup, 1) := by decide +kernel
theorem dX10_restore_20 : decode cX10_restore 20 = .ok (.ldc_w 345, 3) := by decide +kernel
theorem dX10_restore_23 : decode cX10_restore 23 = .ok (.invokespecial 62, 3) := by decide +kernel
theorem dX10_restore_26 : decode cX10_restore 26 = .ok (.athrow, 1) := by decide +kernel
theorem dX10_restore_27 : decode cX10_restore 27 = .ok (.aload_n 0, 1) := by decide +kernel
theorem dX10_restore_28 : decode cX10_restore 28 = .ok (.getfield 19, 3) := by decide +kernel
theorem dX10_restore_31 : decode cX10_restore 31 = .ok (.aload_n 0, 1) := by decide +kernel
theorem dX10_restore_32 : decode cX10_restore 32 = .ok (.getfield 36, 3) := by decide +kernel
theorem dX10_restore_35 : decode cX10_restore 35 = .ok (.getfield 338, 3) := by decide +kernel
theorem dX10_restore_38 : decode cX10_restore 38 = .ok (.iload_n 1, 1) := by decide +kernel
theorem dX10_restore_39 : decode cX10_restore 39 = .ok (.aaload, 1) := by decide +kernel
theorem dX10_restore_40 : decode cX10_restore 40 = .ok (.invokevirtual 309, 3) := by decide +kernel
theorem dX10_restore_43 : decode cX10_restore 43 = .ok (.aload_n 0, 1) := by decide +kernel
theorem dX10_restore_44 : decode cX10_restore 44 = .ok (.getfield 29, 3) := by decide +kernel
theorem dX10_restore_47 : decode cX10_restore 47 = .ok (.invokevirtual 76, 3) := by decide +kernel
theorem dX10_restore_50 : decode cX10_restore 50 = .ok (.aload_n 0, 1) := by decide +kernel
theorem dX10_restore_51 : decode cX10_restore 51 = .ok (.getfield 19, 3) := by decide +kernel
theorem dX10_restore_54 : decode cX10_restore 54 = .ok (.getfield 100, 3) := by decide +kernel
theorem dX10_restore_57 : decode cX10_restore 57 = .ok (.getfield 104, 3) := by decide +kernel
theorem dX10_restore_60 : decode cX10_restore 60 = .ok (.ireturn, 1) := by decide +kernel
theorem dX10_requirePerson_0 : decode cX10_requirePerson 0 = .ok (.aload_n 0, 1) := by decide +kernel
theorem dX10_requirePerson_1 : decode cX10_requirePerson 1 = .ok (.getfield 19, 3) := by decide +kernel
theorem dX10_requirePerson_4 : decode cX10_requirePerson 4 = .ok (.getfield 91, 3) := by decide +kernel
theorem dX10_requirePerson_7 : decode cX10_requirePerson 7 = .ok (.iload_n 1, 1) := by decide +kernel
theorem dX10_requirePerson_8 : decode cX10_requirePerson 8 = .ok (.invokevirtual 347, 3) := by decide +kernel
theorem dX10_requirePerson_11 : decode cX10_requirePerson 11 = .ok (.ifCond .ne 14, 3) := by decide +kernel
theorem dX10_requirePerson_14 : decode cX10_requirePerson 14 = .ok (.new 195, 3) := by decide +kernel
theorem dX10_requirePerson_17 : decode cX10_requirePerson 17 = .ok (.dup, 1) := by decide +kernel
theorem dX10_requirePerson_18 : decode cX10_requirePerson 18 = .ok (.ldc_w 350, 3) := by decide +kernel
theorem dX10_requirePerson_21 : decode cX10_requirePerson 21 = .ok (.invokespecial 199, 3) := by decide +kernel
theorem dX10_requirePerson_24 : decode cX10_requirePerson 24 = .ok (.athrow, 1) := by decide +kernel
theorem dX10_requirePerson_25 : decode cX10_requirePerson 25 = .ok (.return_, 1) := by decide +kernel
theorem dX10_requireName_0 : decode cX10_requireName 0 = .ok (.aload_n 0, 1) := by decide +kernel
theorem dX10_requireName_1 : decode cX10_requireName 1 = .ok (.getfield 19, 3) := by decide +kernel
theorem dX10_requireName_4 : decode cX10_requireName 4 = .ok (.getfield 100, 3) := by decide +kernel
theorem dX10_requireName_7 : decode cX10_requireName 7 = .ok (.iload_n 1, 1) := by decide +kernel
theorem dX10_requireName_8 : decode cX10_requireName 8 = .ok (.invokevirtual 352, 3) := by decide +kernel
theorem dX10_requireName_11 : decode cX10_requireName 11 = .ok (.ifCond .ne 14, 3) := by decide +kernel
theorem dX10_requireName_14 : decode cX10_requireName 14 = .ok (.new 195, 3) := by decide +kernel
theorem dX10_requireName_17 : decode cX10_requireName 17 = .ok (.dup, 1) := by decide +kernel
theorem dX10_requireName_18 : decode cX10_requireName 18 = .ok (.ldc_w 353, 3) := by decide +kernel
theorem dX10_requireName_21 : decode cX10_requireName 21 = .ok (.invokespecial 199, 3) := by decide +kernel
theorem dX10_requireName_24 : decode cX10_requireName 24 = .ok (.athrow, 1) := by decide +kernel
theorem dX10_requireName_25 : decode cX10_requireName 25 = .ok (.return_, 1) := by decide +kernel
theorem dX10_requireBench_0 : decode cX10_requireBench 0 = .ok (.iload_n 0, 1) := by decide +kernel
theorem dX10_requireBench_1 : decode cX10_requireBench 1 = .ok (.invokestatic 355, 3) := by decide +kernel
theorem dX10_requireBench_4 : decode cX10_requireBench 4 = .ok (.ifCond .ne 14, 3) := by decide +kernel
theorem dX10_requireBench_7 : decode cX10_requireBench 7 = .ok (.new 195, 3) := by decide +kernel
theorem dX10_requireBench_10 : decode cX10_requireBench 10 = .ok (.dup, 1) := by decide +kernel
theorem dX10_requireBench_11 : decode cX10_requireBench 11 = .ok (.ldc_w 358, 3) := by decide +kernel
theorem dX10_requireBench_14 : decode cX10_requireBench 14 = .ok (.invokespecial 199, 3) := by decide +kernel
theorem dX10_requireBench_17 : decode cX10_requireBench 17 = .ok (.athrow, 1) := by decide +kernel
theorem dX10_requireBench_18 : decode cX10_requireBench 18 = .ok (.return_, 1) := by decide +kernel
theorem dX10_requireCode_0 : decode cX10_requireCode 0 = .ok (.iload_n 0, 1) := by decide +kernel
theorem dX10_requireCode_1 : decode cX10_requireCode 1 = .ok (.iload_n 1, 1) := by decide +kernel
theorem dX10_requireCode_2 : decode cX10_requireCode 2 = .ok (.invokestatic 360, 3) := by decide +kernel
theorem dX10_requireCode_5 : decode cX10_requireCode 5 = .ok (.ifCond .ne 14, 3) := by decide +kernel
theorem dX10_requireCode_8 : decode cX10_requireCode 8 = .ok (.new 47, 3) := by decide +kernel
theorem dX10_requireCode_11 : decode cX10_requireCode 11 = .ok (.dup, 1) := by decide +kernel
theorem dX10_requireCode_12 : decode cX10_requireCode 12 = .ok (.ldc_w 363, 3) := by decide +kernel
theorem dX10_requireCode_15 : decode cX10_requireCode 15 = .ok (.invokespecial 51, 3) := by decide +kernel
theorem dX10_requireCode_18 : decode cX10_requireCode 18 = .ok (.athrow, 1) := by decide +kernel
theorem dX10_requireCode_19 : decode cX10_requireCode 19 = .ok (.return_, 1) := by decide +kernel
theorem dX10_requireSlot_0 : decode cX10_requireSlot 0 = .ok (.iload_n 0, 1) := by decide +kernel
theorem dX10_requireSlot_1 : decode cX10_requireSlot 1 = .ok (.ifCond .lt 8, 3) := by decide +kernel
theorem dX10_requireSlot_4 : decode cX10_requireSlot 4 = .ok (.iload_n 0, 1) := by decide +kernel
theorem dX10_requireSlot_5 : decode cX10_requireSlot 5 = .ok (.iconst 2, 1) := by decide +kernel
theorem dX10_requireSlot_6 : decode cX10_requireSlot 6 = .ok (.if_icmp .lt 14, 3) := by decide +kernel
theorem dX10_requireSlot_9 : decode cX10_requireSlot 9 = .ok (.new 195, 3) := by decide +kernel
theorem dX10_requireSlot_12 : decode cX10_requireSlot 12 = .ok (.dup, 1) := by decide +kernel
theorem dX10_requireSlot_13 : decode cX10_requireSlot 13 = .ok (.ldc_w 365, 3) := by decide +kernel
theorem dX10_requireSlot_16 : decode cX10_requireSlot 16 = .ok (.invokespecial 199, 3) := by decide +kernel
theorem dX10_requireSlot_19 : decode cX10_requireSlot 19 = .ok (.athrow, 1) := by decide +kernel
theorem dX10_requireSlot_20 : decode cX10_requireSlot 20 = .ok (.return_, 1) := by decide +kernel
theorem dX10_isBench_0 : decode cX10_isBench 0 = .ok (.iload_n 0, 1) := by decide +kernel
theorem dX10_isBench_1 : decode cX10_isBench 1 = .ok (.ifCond .lt 12, 3) := by decide +kernel
theorem dX10_isBench_4 : decode cX10_isBench 4 = .ok (.iload_n 0, 1) := by decide +kernel
theorem dX10_isBench_5 : decode cX10_isBench 5 = .ok (.iconst 4, 1) := by decide +kernel
theorem dX10_isBench_6 : decode cX10_isBench 6 = .ok (.if_icmp .ge 7, 3) := by decide +kernel
theorem dX10_isBench_9 : decode cX10_isBench 9 = .ok (.iconst 1, 1) := by decide +kernel
theorem dX10_isBench_10 : decode cX10_isBench 10 = .ok (.goto 4, 3) := by decide +kernel
theorem dX10_isBench_13 : decode cX10_isBench 13 = .ok (.iconst 0, 1) := by decide +kernel
theorem dX10_isBench_14 : decode cX10_isBench 14 = .ok (.ireturn, 1) := by decide +kernel
theorem dX10_isFamily_0 : decode cX10_isFamily 0 = .ok (.iload_n 0, 1) := by decide +kernel
theorem dX10_isFamily_1 : decode cX10_isFamily 1 = .ok (.ifCond .lt 13, 3) := by decide +kernel
theorem dX10_isFamily_4 : decode cX10_isFamily 4 = .ok (.iload_n 0, 1) := by decide +kernel
theorem dX10_isFamily_5 : decode cX10_isFamily 5 = .ok (.bipush 6, 2) := by decide +kernel
theorem dX10_isFamily_7 : decode cX10_isFamily 7 = .ok (.if_icmp .ge 7, 3) := by decide +kernel
theorem dX10_isFamily_10 : decode cX10_isFamily 10 = .ok (.iconst 1, 1) := by decide +kernel
theorem dX10_isFamily_11 : decode cX10_isFamily 11 = .ok (.goto 4, 3) := by decide +kernel
theorem dX10_isFamily_14 : decode cX10_isFamily 14 = .ok (.iconst 0, 1) := by decide +kernel
theorem dX10_isFamily_15 : decode cX10_isFamily 15 = .ok (.ireturn, 1) := by decide +kernel
theorem dX10_isAgeToCome_0 : decode cX10_isAgeToCome 0 = .ok (.iload_n 0, 1) := by decide +kernel
theorem dX10_isAgeToCome_1 : decode cX10_isAgeToCome 1 = .ok (.ifCond .lt 13, 3) := by decide +kernel
theorem dX10_isAgeToCome_4 : decode cX10_isAgeToCome 4 = .ok (.iload_n 0, 1) := by decide +kernel
theorem dX10_isAgeToCome_5 : decode cX10_isAgeToCome 5 = .ok (.bipush 99, 2) := by decide +kernel
theorem dX10_isAgeToCome_7 : decode cX10_isAgeToCome 7 = .ok (.if_icmp .gt 7, 3) := by decide +kernel
theorem dX10_isAgeToCome_10 : decode cX10_isAgeToCome 10 = .ok (.iconst 1, 1) := by decide +kernel
theorem dX10_isAgeToCome_11 : decode cX10_isAgeToCome 11 = .ok (.goto 4, 3) := by decide +kernel
theorem dX10_isAgeToCome_14 : decode cX10_isAgeToCome 14 = .ok (.iconst 0, 1) := by decide +kernel
theorem dX10_isAgeToCome_15 : decode cX10_isAgeToCome 15 = .ok (.ireturn, 1) := by decide +kernel
theorem dX10_isYearsAtOnce_0 : decode cX10_isYearsAtOnce 0 = .ok (.iload_n 0, 1) := by decide +kernel
theorem dX10_isYearsAtOnce_1 : decode cX10_isYearsAtOnce 1 = .ok (.iconst 1, 1) := by decide +kernel
theorem dX10_isYearsAtOnce_2 : decode cX10_isYearsAtOnce 2 = .ok (.if_icmp .lt 13, 3) := by decide +kernel
theorem dX10_isYearsAtOnce_5 : decode cX10_isYearsAtOnce 5 = .ok (.iload_n 0, 1) := by decide +kernel
theorem dX10_isYearsAtOnce_6 : decode cX10_isYearsAtOnce 6 = .ok (.bipush 9, 2) := by decide +kernel
theorem dX10_isYearsAtOnce_8 : decode cX10_isYearsAtOnce 8 = .ok (.if_icmp .gt 7, 3) := by decide +kernel
theorem dX10_isYearsAtOnce_11 : decode cX10_isYearsAtOnce 11 = .ok (.iconst 1, 1) := by decide +kernel
theorem dX10_isYearsAtOnce_12 : decode cX10_isYearsAtOnce 12 = .ok (.goto 4, 3) := by decide +kernel
theorem dX10_isYearsAtOnce_15 : decode cX10_isYearsAtOnce 15 = .ok (.iconst 0, 1) := by decide +kernel
theorem dX10_isYearsAtOnce_16 : decode cX10_isYearsAtOnce 16 = .ok (.ireturn, 1) := by decide +kernel
theorem dX10_isSettingWith_0 : decode cX10_isSettingWith 0 = .ok (.iload_n 0, 1) := by decide +kernel
theorem dX10_isSettingWith_1 : decode cX10_isSettingWith 1 = .ok (.ifCond .lt 8, 3) := by decide +kernel
theorem dX10_isSettingWith_4 : decode cX10_isSettingWith 4 = .ok (.iload_n 0, 1) := by decide +kernel
theorem dX10_isSettingWith_5 : decode cX10_isSettingWith 5 = .ok (.iconst 3, 1) := by decide +kernel
theorem dX10_isSettingWith_6 : decode cX10_isSettingWith 6 = .ok (.if_icmp .lt 5, 3) := by decide +kernel
theorem dX10_isSettingWith_9 : decode cX10_isSettingWith 9 = .ok (.iconst 0, 1) := by decide +kernel
theorem dX10_isSettingWith_10 : decode cX10_isSettingWith 10 = .ok (.ireturn, 1) := by decide +kernel
theorem dX10_isSettingWith_11 : decode cX10_isSettingWith 11 = .ok (.iload_n 0, 1) := by decide +kernel
theorem dX10_isSettingWith_12 : decode cX10_isSettingWith 12 = .ok (.iconst 2, 1) := by decide +kernel
theorem dX10_isSettingWith_13 : decode cX10_isSettingWith 13 = .ok (.if_icmp .ne 7, 3) := by decide +kernel
theorem dX10_isSettingWith_16 : decode cX10_isSettingWith 16 = .ok (.iconst 0, 1) := by decide +kernel
theorem dX10_isSettingWith_17 : decode cX10_isSettingWith 17 = .ok (.goto 4, 3) := by decide +kernel
theorem dX10_isSettingWith_20 : decode cX10_isSettingWith 20 = .ok (.iconst 1, 1) := by decide +kernel
theorem dX10_isSettingWith_21 : decode cX10_isSettingWith 21 = .ok (.istore_n 2, 1) := by decide +kernel
theorem dX10_isSettingWith_22 : decode cX10_isSettingWith 22 = .ok (.iload_n 1, 1) := by decide +kernel
theorem dX10_isSettingWith_23 : decode cX10_isSettingWith 23 = .ok (.iload_n 2, 1) := by decide +kernel
theorem dX10_isSettingWith_24 : decode cX10_isSettingWith 24 = .ok (.if_icmp .lt 13, 3) := by decide +kernel
theorem dX10_isSettingWith_27 : decode cX10_isSettingWith 27 = .ok (.iload_n 1, 1) := by decide +kernel
theorem dX10_isSettingWith_28 : decode cX10_isSettingWith 28 = .ok (.bipush 9, 2) := by decide +kernel
theorem dX10_isSettingWith_30 : decode cX10_isSettingWith 30 = .ok (.if_icmp .gt 7, 3) := by decide +kernel
theorem dX10_isSettingWith_33 : decode cX10_isSettingWith 33 = .ok (.iconst 1, 1) := by decide +kernel
theorem dX10_isSettingWith_34 : decode cX10_isSettingWith 34 = .ok (.goto 4, 3) := by decide +kernel
theorem dX10_isSettingWith_37 : decode cX10_isSettingWith 37 = .ok (.iconst 0, 1) := by decide +kernel
theorem dX10_isSettingWith_38 : decode cX10_isSettingWith 38 = .ok (.ireturn, 1) := by decide +kernel
theorem dL_draw_0 : decode cL_draw 0 = .ok (.iload_n 1, 1) := by decide +kernel
theorem dL_draw_1 : decode cL_draw 1 = .ok (.aload_n 0, 1) := by decide +kernel
theorem dL_draw_2 : decode cL_draw 2 = .ok (.arraylength, 1) := by decide +kernel
theorem dL_draw_3 : decode cL_draw 3 = .ok (.if_icmp .ge 9, 3) := by decide +kernel
theorem dL_draw_6 : decode cL_draw 6 = .ok (.aload_n 0, 1) := by decide +kernel
theorem dL_draw_7 : decode cL_draw 7 = .ok (.iload_n 1, 1) := by decide +kernel
theorem dL_draw_8 : decode cL_draw 8 = .ok (.iaload, 1) := by decide +kernel
theorem dL_draw_9 : decode cL_draw 9 = .ok (.goto 11, 3) := by decide +kernel
theorem dL_draw_12 : decode cL_draw 12 = .ok (.ldc 7, 2) := by decide +kernel
theorem dL_draw_14 : decode cL_draw 14 = .ok (.iload_n 1, 1) := by decide +kernel
theorem dL_draw_15 : decode cL_draw 15 = .ok (.imul, 1) := by decide +kernel
theorem dL_draw_16 : decode cL_draw 16 = .ok (.sipush 10859, 3) := by decide +kernel
theorem dL_draw_19 : decode cL_draw 19 = .ok (.iadd, 1) := by decide +kernel
theorem dL_draw_20 : decode cL_draw 20 = .ok (.ldc 8, 2) := by decide +kernel
theorem dL_draw_22 : decode cL_draw 22 = .ok (.iand, 1) := by decide +kernel
theorem dL_draw_23 : decode cL_draw 23 = .ok (.ireturn, 1) := by decide +kernel
theorem dL_in_0 : decode cL_in 0 = .ok (.lload_n 0, 1) := by decide +kernel
theorem dL_in_1 : decode cL_in 1 = .ok (.lload_n 2, 1) := by decide +kernel
theorem dL_in_2 : decode cL_in 2 = .ok (.lcmp, 1) := by decide +kernel
theorem dL_in_3 : decode cL_in 3 = .ok (.ifCond .lt 14, 3) := by decide +kernel
theorem dL_in_6 : decode cL_in 6 = .ok (.lload_n 0, 1) := by decide +kernel
theorem dL_in_7 : decode cL_in 7 = .ok (.lload 4, 2) := by decide +kernel
theorem dL_in_9 : decode cL_in 9 = .ok (.lcmp, 1) := by decide +kernel
theorem dL_in_10 : decode cL_in 10 = .ok (.ifCond .gt 7, 3) := by decide +kernel
theorem dL_in_13 : decode cL_in 13 = .ok (.iconst 1, 1) := by decide +kernel
theorem dL_in_14 : decode cL_in 14 = .ok (.goto 4, 3) := by decide +kernel
theorem dL_in_17 : decode cL_in 17 = .ok (.iconst 0, 1) := by decide +kernel
theorem dL_in_18 : decode cL_in 18 = .ok (.ireturn, 1) := by decide +kernel
theorem dL_append_0 : decode cL_append 0 = .ok (.aload_n 0, 1) := by decide +kernel
theorem dL_append_1 : decode cL_append 1 = .ok (.iload_n 1, 1) := by decide +kernel
theorem dL_append_2 : decode cL_append 2 = .ok (.invokevirtual 9, 3) := by decide +kernel
theorem dL_append_5 : decode cL_append 5 = .ok (.i2l, 1) := by decide +kernel
theorem dL_append_6 : decode cL_append 6 = .ok (.lreturn, 1) := by decide +kernel
theorem dL_append_7 : decode cL_append 7 = .ok (.astore_n 2, 1) := by decide +kernel
theorem dL_append_8 : decode cL_append 8 = .ok (.ldc2_w 17, 3) := by decide +kernel
theorem dL_append_11 : decode cL_append 11 = .ok (.lreturn, 1) := by decide +kernel
theorem dL_append_12 : decode cL_append 12 = .ok (.astore_n 2, 1) := by decide +kernel
theorem dL_append_13 : decode cL_append 13 = .ok (.ldc2_w 21, 3) := by decide +kernel
theorem dL_append_16 : decode cL_append 16 = .ok (.lreturn, 1) := by decide +kernel
theorem dL_load_0 : decode cL_load 0 = .ok (.aload_n 0, 1) := by decide +kernel
theorem dL_load_1 : decode cL_load 1 = .ok (.invokevirtual 23, 3) := by decide +kernel
theorem dL_load_4 : decode cL_load 4 = .ok (.i2l, 1) := by decide +kernel
theorem dL_load_5 : decode cL_load 5 = .ok (.lreturn, 1) := by decide +kernel
theorem dL_load_6 : decode cL_load 6 = .ok (.astore_n 1, 1) := by decide +kernel
theorem dL_load_7 : decode cL_load 7 = .ok (.ldc2_w 21, 3) := by decide +kernel
theorem dL_load_10 : decode cL_load 10 = .ok (.lreturn, 1) := by decide +kernel
theorem dL_about_0 : decode cL_about 0 = .ok (.aload_n 0, 1) := by decide +kernel
theorem dL_about_1 : decode cL_about 1 = .ok (.iload_n 1, 1) := by decide +kernel
theorem dL_about_2 : decode cL_about 2 = .ok (.invokevirtual 27, 3) := by decide +kernel
theorem dL_about_5 : decode cL_about 5 = .ok (.i2l, 1) := by decide +kernel
theorem dL_about_6 : decode cL_about 6 = .ok (.lreturn, 1) := by decide +kernel
theorem dL_about_7 : decode cL_about 7 = .ok (.astore_n 2, 1) := by decide +kernel
theorem dL_about_8 : decode cL_about 8 = .ok (.ldc2_w 17, 3) := by decide +kernel
theorem dL_about_11 : decode cL_about 11 = .ok (.lreturn, 1) := by decide +kernel
theorem dL_personOf_0 : decode cL_personOf 0 = .ok (.aload_n 0, 1) := by decide +kernel
theorem dL_personOf_1 : decode cL_personOf 1 = .ok (.iload_n 1, 1) := by decide +kernel
theorem dL_personOf_2 : decode cL_personOf 2 = .ok (.iload_n 2, 1) := by decide +kernel
theorem dL_personOf_3 : decode cL_personOf 3 = .ok (.invokevirtual 30, 3) := by decide +kernel
theorem dL_personOf_6 : decode cL_personOf 6 = .ok (.i2l, 1) := by decide +kernel
theorem dL_personOf_7 : decode cL_personOf 7 = .ok (.lreturn, 1) := by decide +kernel
theorem dL_personOf_8 : decode cL_personOf 8 = .ok (.astore_n 3, 1) := by decide +kernel
theorem dL_personOf_9 : decode cL_personOf 9 = .ok (.ldc2_w 36, 3) := by decide +kernel
theorem dL_personOf_12 : decode cL_personOf 12 = .ok (.lreturn, 1) := by decide +kernel
theorem dL_personOf_13 : decode cL_personOf 13 = .ok (.astore_n 3, 1) := by decide +kernel
theorem dL_personOf_14 : decode cL_personOf 14 = .ok (.ldc2_w 17, 3) := by decide +kernel
theorem dL_personOf_17 : decode cL_personOf 17 = .ok (.lreturn, 1) := by decide +kernel
theorem dL_nameOf_0 : decode cL_nameOf 0 = .ok (.aload_n 0, 1) := by decide +kernel
theorem dL_nameOf_1 : decode cL_nameOf 1 = .ok (.iload_n 1, 1) := by decide +kernel
theorem dL_nameOf_2 : decode cL_nameOf 2 = .ok (.iload_n 2, 1) := by decide +kernel
theorem dL_nameOf_3 : decode cL_nameOf 3 = .ok (.invokevirtual 38, 3) := by decide +kernel
theorem dL_nameOf_6 : decode cL_nameOf 6 = .ok (.i2l, 1) := by decide +kernel
theorem dL_nameOf_7 : decode cL_nameOf 7 = .ok (.lreturn, 1) := by decide +kernel
theorem dL_nameOf_8 : decode cL_nameOf 8 = .ok (.astore_n 3, 1) := by decide +kernel
theorem dL_nameOf_9 : decode cL_nameOf 9 = .ok (.ldc2_w 36, 3) := by decide +kernel
theorem dL_nameOf_12 : decode cL_nameOf 12 = .ok (.lreturn, 1) := by decide +kernel
theorem dL_nameOf_13 : decode cL_nameOf 13 = .ok (.astore_n 3, 1) := by decide +kernel
theorem dL_nameOf_14 : decode cL_nameOf 14 = .ok (.ldc2_w 17, 3) := by decide +kernel
theorem dL_nameOf_17 : decode cL_nameOf 17 = .ok (.lreturn, 1) := by decide +kernel
theorem dL_letter_0 : decode cL_letter 0 = .ok (.aload_n 0, 1) := by decide +kernel
theorem dL_letter_1 : decode cL_letter 1 = .ok (.iload_n 1, 1) := by decide +kernel
theorem dL_letter_2 : decode cL_letter 2 = .ok (.iload_n 2, 1) := by decide +kernel
theorem dL_letter_3 : decode cL_letter 3 = .ok (.invokevirtual 41, 3) := by decide +kernel
theorem dL_letter_6 : decode cL_letter 6 = .ok (.i2l, 1) := by decide +kernel
theorem dL_letter_7 : decode cL_letter 7 = .ok (.lreturn, 1) := by decide +kernel
theorem dL_letter_8 : decode cL_letter 8 = .ok (.astore_n 3, 1) := by decide +kernel
theorem dL_letter_9 : decode cL_letter 9 = .ok (.ldc2_w 36, 3) := by decide +kernel
theorem dL_letter_12 : decode cL_letter 12 = .ok (.lreturn, 1) := by decide +kernel
theorem dL_roll_0 : decode cL_roll 0 = .ok (.aload_n 0, 1) := by decide +kernel
theorem dL_roll_1 : decode cL_roll 1 = .ok (.iload_n 1, 1) := by decide +kernel
theorem dL_roll_2 : decode cL_roll 2 = .ok (.invokevirtual 44, 3) := by decide +kernel
theorem dL_roll_5 : decode cL_roll 5 = .ok (.i2l, 1) := by decide +kernel
theorem dL_roll_6 : decode cL_roll 6 = .ok (.lreturn, 1) := by decide +kernel
theorem dL_roll_7 : decode cL_roll 7 = .ok (.astore_n 2, 1) := by decide +kernel
theorem dL_roll_8 : decode cL_roll 8 = .ok (.ldc2_w 17, 3) := by decide +kernel
theorem dL_roll_11 : decode cL_roll 11 = .ok (.lreturn, 1) := by decide +kernel
theorem dL_meant_0 : decode cL_meant 0 = .ok (.aload_n 0, 1) := by decide +kernel
theorem dL_meant_1 : decode cL_meant 1 = .ok (.iload_n 1, 1) := by decide +kernel
theorem dL_meant_2 : decode cL_meant 2 = .ok (.iload_n 2, 1) := by decide +kernel
theorem dL_meant_3 : decode cL_meant 3 = .ok (.iload_n 3, 1) := by decide +kernel
theorem dL_meant_4 : decode cL_meant 4 = .ok (.iload 4, 2) := by decide +kernel
theorem dL_meant_6 : decode cL_meant 6 = .ok (.invokevirtual 47, 3) := by decide +kernel
theorem dL_meant_9 : decode cL_meant 9 = .ok (.i2l, 1) := by decide +kernel
theorem dL_meant_10 : decode cL_meant 10 = .ok (.lreturn, 1) := by decide +kernel
theorem dL_meant_11 : decode cL_meant 11 = .ok (.astore 5, 2) := by decide +kernel
theorem dL_meant_13 : decode cL_meant 13 = .ok (.ldc2_w 36, 3) := by decide +kernel
theorem dL_meant_16 : decode cL_meant 16 = .ok (.lreturn, 1) := by decide +kernel
theorem dL_meant_17 : decode cL_meant 17 = .ok (.astore 5, 2) := by decide +kernel
theorem dL_meant_19 : decode cL_meant 19 = .ok (.ldc2_w 17, 3) := by decide +kernel
theorem dL_meant_22 : decode cL_meant 22 = .ok (.lreturn, 1) := by decide +kernel
theorem dL_person_0 : decode cL_person 0 = .ok (.aload_n 0, 1) := by decide +kernel
theorem dL_person_1 : decode cL_person 1 = .ok (.iload_n 1, 1) := by decide +kernel
theorem dL_person_2 : decode cL_person 2 = .ok (.iload_n 2, 1) := by decide +kernel
theorem dL_person_3 : decode cL_person 3 = .ok (.iload_n 3, 1) := by decide +kernel
theorem dL_person_4 : decode cL_person 4 = .ok (.invokevirtual 51, 3) := by decide +kernel
theorem dL_person_7 : decode cL_person 7 = .ok (.i2l, 1) := by decide +kernel
theorem dL_person_8 : decode cL_person 8 = .ok (.lreturn, 1) := by decide +kernel
theorem dL_person_9 : decode cL_person 9 = .ok (.astore 4, 2) := by decide +kernel
theorem dL_person_11 : decode cL_person 11 = .ok (.ldc2_w 36, 3) := by decide +kernel
theorem dL_person_14 : decode cL_person 14 = .ok (.lreturn, 1) := by decide +kernel
theorem dL_person_15 : decode cL_person 15 = .ok (.astore 4, 2) := by decide +kernel
theorem dL_person_17 : decode cL_person 17 = .ok (.ldc2_w 17, 3) := by decide +kernel
theorem dL_person_20 : decode cL_person 20 = .ok (.lreturn, 1) := by decide +kernel
theorem dL_person_21 : decode cL_person 21 = .ok (.astore 4, 2) := by decide +kernel
theorem dL_person_23 : decode cL_person 23 = .ok (.ldc2_w 21, 3) := by decide +kernel
theorem dL_person_26 : decode cL_person 26 = .ok (.lreturn, 1) := by decide +kernel
theorem dL_sit_0 : decode cL_sit 0 = .ok (.aload_n 0, 1) := by decide +kernel
theorem dL_sit_1 : decode cL_sit 1 = .ok (.iload_n 1, 1) := by decide +kernel
theorem dL_sit_2 : decode cL_sit 2 = .ok (.iload_n 2, 1) := by decide +kernel
theorem dL_sit_3 : decode cL_sit 3 = .ok (.invokevirtual 55, 3) := by decide +kernel
theorem dL_sit_6 : decode cL_sit 6 = .ok (.i2l, 1) := by decide +kernel
theorem dL_sit_7 : decode cL_sit 7 = .ok (.lreturn, 1) := by decide +kernel
theorem dL_sit_8 : decode cL_sit 8 = .ok (.astore_n 3, 1) := by decide +kernel
theorem dL_sit_9 : decode cL_sit 9 = .ok (.ldc2_w 36, 3) := by decide +kernel
theorem dL_sit_12 : decode cL_sit 12 = .ok (.lreturn, 1) := by decide +kernel
theorem dL_sit_13 : decode cL_sit 13 = .ok (.astore_n 3, 1) := by decide +kernel
theorem dL_sit_14 : decode cL_sit 14 = .ok (.ldc2_w 21, 3) := by decide +kernel
theorem dL_sit_17 : decode cL_sit 17 = .ok (.lreturn, 1) := by decide +kernel
theorem dL_give_0 : decode cL_give 0 = .ok (.aload_n 0, 1) := by decide +kernel
theorem dL_give_1 : decode cL_give 1 = .ok (.iload_n 1, 1) := by decide +kernel
theorem dL_give_2 : decode cL_give 2 = .ok (.iload_n 2, 1) := by decide +kernel
theorem dL_give_3 : decode cL_give 3 = .ok (.iload_n 3, 1) := by decide +kernel
theorem dL_give_4 : decode cL_give 4 = .ok (.iload 4, 2) := by decide +kernel
theorem dL_give_6 : decode cL_give 6 = .ok (.invokevirtual 58, 3) := by decide +kernel
theorem dL_give_9 : decode cL_give 9 = .ok (.i2l, 1) := by decide +kernel
theorem dL_give_10 : decode cL_give 10 = .ok (.lreturn, 1) := by decide +kernel
theorem dL_give_11 : decode cL_give 11 = .ok (.astore 5, 2) := by decide +kernel
theorem dL_give_13 : decode cL_give 13 = .ok (.ldc2_w 36, 3) := by decide +kernel
theorem dL_give_16 : decode cL_give 16 = .ok (.lreturn, 1) := by decide +kernel
theorem dL_give_17 : decode cL_give 17 = .ok (.astore 5, 2) := by decide +kernel
theorem dL_give_19 : decode cL_give 19 = .ok (.ldc2_w 17, 3) := by decide +kernel
theorem dL_give_22 : decode cL_give 22 = .ok (.lreturn, 1) := by decide +kernel
theorem dL_call_0 : decode cL_call 0 = .ok (.aload_n 0, 1) := by decide +kernel
theorem dL_call_1 : decode cL_call 1 = .ok (.iload_n 1, 1) := by decide +kernel
theorem dL_call_2 : decode cL_call 2 = .ok (.iload_n 2, 1) := by decide +kernel
theorem dL_call_3 : decode cL_call 3 = .ok (.iload_n 3, 1) := by decide +kernel
theorem dL_call_4 : decode cL_call 4 = .ok (.invokevirtual 61, 3) := by decide +kernel
theorem dL_call_7 : decode cL_call 7 = .ok (.i2l, 1) := by decide +kernel
theorem dL_call_8 : decode cL_call 8 = .ok (.lreturn, 1) := by decide +kernel
theorem dL_call_9 : decode cL_call 9 = .ok (.astore 4, 2) := by decide +kernel
theorem dL_call_11 : decode cL_call 11 = .ok (.ldc2_w 36, 3) := by decide +kernel
theorem dL_call_14 : decode cL_call 14 = .ok (.lreturn, 1) := by decide +kernel
theorem dL_call_15 : decode cL_call 15 = .ok (.astore 4, 2) := by decide +kernel
theorem dL_call_17 : decode cL_call 17 = .ok (.ldc2_w 17, 3) := by decide +kernel
theorem dL_call_20 : decode cL_call 20 = .ok (.lreturn, 1) := by decide +kernel
theorem dL_years_0 : decode cL_years 0 = .ok (.aload_n 0, 1) := by decide +kernel
theorem dL_years_1 : decode cL_years 1 = .ok (.iload_n 1, 1) := by decide +kernel
theorem dL_years_2 : decode cL_years 2 = .ok (.invokevirtual 64, 3) := by decide +kernel
theorem dL_years_5 : decode cL_years 5 = .ok (.i2l, 1) := by decide +kernel
theorem dL_years_6 : decode cL_years 6 = .ok (.lreturn, 1) := by decide +kernel
theorem dL_years_7 : decode cL_years 7 = .ok (.astore_n 2, 1) := by decide +kernel
theorem dL_years_8 : decode cL_years 8 = .ok (.ldc2_w 17, 3) := by decide +kernel
theorem dL_years_11 : decode cL_years 11 = .ok (.lreturn, 1) := by decide +kernel
theorem dL_years_12 : decode cL_years 12 = .ok (.astore_n 2, 1) := by decide +kernel
theorem dL_years_13 : decode cL_years 13 = .ok (.ldc2_w 21, 3) := by decide +kernel
theorem dL_years_16 : decode cL_years 16 = .ok (.lreturn, 1) := by decide +kernel
theorem dL_set_0 : decode cL_set 0 = .ok (.aload_n 0, 1) := by decide +kernel
theorem dL_set_1 : decode cL_set 1 = .ok (.iload_n 1, 1) := by decide +kernel
theorem dL_set_2 : decode cL_set 2 = .ok (.iload_n 2, 1) := by decide +kernel
theorem dL_set_3 : decode cL_set 3 = .ok (.invokevirtual 67, 3) := by decide +kernel
theorem dL_set_6 : decode cL_set 6 = .ok (.i2l, 1) := by decide +kernel
theorem dL_set_7 : decode cL_set 7 = .ok (.lreturn, 1) := by decide +kernel
theorem dL_set_8 : decode cL_set 8 = .ok (.astore_n 3, 1) := by decide +kernel
theorem dL_set_9 : decode cL_set 9 = .ok (.ldc2_w 17, 3) := by decide +kernel
theorem dL_set_12 : decode cL_set 12 = .ok (.lreturn, 1) := by decide +kernel
theorem dL_undo_0 : decode cL_undo 0 = .ok (.aload_n 0, 1) := by decide +kernel
theorem dL_undo_1 : decode cL_undo 1 = .ok (.invokevirtual 70, 3) := by decide +kernel
theorem dL_undo_4 : decode cL_undo 4 = .ok (.i2l, 1) := by decide +kernel
theorem dL_undo_5 : decode cL_undo 5 = .ok (.lreturn, 1) := by decide +kernel
theorem dL_undo_6 : decode cL_undo 6 = .ok (.astore_n 1, 1) := by decide +kernel
theorem dL_undo_7 : decode cL_undo 7 = .ok (.ldc2_w 21, 3) := by decide +kernel
theorem dL_undo_10 : decode cL_undo 10 = .ok (.lreturn, 1) := by decide +kernel
theorem dL_why_0 : decode cL_why 0 = .ok (.aload_n 0, 1) := by decide +kernel
theorem dL_why_1 : decode cL_why 1 = .ok (.iload_n 1, 1) := by decide +kernel
theorem dL_why_2 : decode cL_why 2 = .ok (.iload_n 2, 1) := by decide +kernel
theorem dL_why_3 : decode cL_why 3 = .ok (.iload_n 3, 1) := by decide +kernel
theorem dL_why_4 : decode cL_why 4 = .ok (.iload 4, 2) := by decide +kernel
theorem dL_why_6 : decode cL_why 6 = .ok (.invokevirtual 73, 3) := by decide +kernel
theorem dL_why_9 : decode cL_why 9 = .ok (.i2l, 1) := by decide +kernel
theorem dL_why_10 : decode cL_why 10 = .ok (.lreturn, 1) := by decide +kernel
theorem dL_why_11 : decode cL_why 11 = .ok (.astore 5, 2) := by decide +kernel
theorem dL_why_13 : decode cL_why 13 = .ok (.ldc2_w 36, 3) := by decide +kernel
theorem dL_why_16 : decode cL_why 16 = .ok (.lreturn, 1) := by decide +kernel
theorem dL_why_17 : decode cL_why 17 = .ok (.astore 5, 2) := by decide +kernel
theorem dL_why_19 : decode cL_why 19 = .ok (.ldc2_w 17, 3) := by decide +kernel
theorem dL_why_22 : decode cL_why 22 = .ok (.lreturn, 1) := by decide +kernel
theorem dL_endsIn_0 : decode cL_endsIn 0 = .ok (.aload_n 0, 1) := by decide +kernel
theorem dL_endsIn_1 : decode cL_endsIn 1 = .ok (.iload_n 1, 1) := by decide +kernel
theorem dL_endsIn_2 : decode cL_endsIn 2 = .ok (.invokevirtual 76, 3) := by decide +kernel
theorem dL_endsIn_5 : decode cL_endsIn 5 = .ok (.i2l, 1) := by decide +kernel
theorem dL_endsIn_6 : decode cL_endsIn 6 = .ok (.lreturn, 1) := by decide +kernel
theorem dL_endsIn_7 : decode cL_endsIn 7 = .ok (.astore_n 2, 1) := by decide +kernel
theorem dL_endsIn_8 : decode cL_endsIn 8 = .ok (.ldc2_w 36, 3) := by decide +kernel
theorem dL_endsIn_11 : decode cL_endsIn 11 = .ok (.lreturn, 1) := by decide +kernel
theorem dL_bestName_0 : decode cL_bestName 0 = .ok (.aload_n 0, 1) := by decide +kernel
theorem dL_bestName_1 : decode cL_bestName 1 = .ok (.iload_n 1, 1) := by decide +kernel
theorem dL_bestName_2 : decode cL_bestName 2 = .ok (.iload_n 2, 1) := by decide +kernel
theorem dL_bestName_3 : decode cL_bestName 3 = .ok (.iload_n 3, 1) := by decide +kernel
theorem dL_bestName_4 : decode cL_bestName 4 = .ok (.invokevirtual 79, 3) := by decide +kernel
theorem dL_bestName_7 : decode cL_bestName 7 = .ok (.i2l, 1) := by decide +kernel
theorem dL_bestName_8 : decode cL_bestName 8 = .ok (.lreturn, 1) := by decide +kernel
theorem dL_bestName_9 : decode cL_bestName 9 = .ok (.astore 4, 2) := by decide +kernel
theorem dL_bestName_11 : decode cL_bestName 11 = .ok (.ldc2_w 36, 3) := by decide +kernel
theorem dL_bestName_14 : decode cL_bestName 14 = .ok (.lreturn, 1) := by decide +kernel
theorem dL_bestName_15 : decode cL_bestName 15 = .ok (.astore 4, 2) := by decide +kernel
theorem dL_bestName_17 : decode cL_bestName 17 = .ok (.ldc2_w 17, 3) := by decide +kernel
theorem dL_bestName_20 : decode cL_bestName 20 = .ok (.lreturn, 1) := by decide +kernel
theorem dL_script_0 : decode cL_script 0 = .ok (.aload_n 0, 1) := by decide +kernel
theorem dL_script_1 : decode cL_script 1 = .ok (.iload_n 1, 1) := by decide +kernel
theorem dL_script_2 : decode cL_script 2 = .ok (.lload_n 2, 1) := by decide +kernel
theorem dL_script_3 : decode cL_script 3 = .ok (.invokevirtual 82, 3) := by decide +kernel
theorem dL_script_6 : decode cL_script 6 = .ok (.i2l, 1) := by decide +kernel
theorem dL_script_7 : decode cL_script 7 = .ok (.lreturn, 1) := by decide +kernel
theorem dL_script_8 : decode cL_script 8 = .ok (.astore 4, 2) := by decide +kernel
theorem dL_script_10 : decode cL_script 10 = .ok (.ldc2_w 17, 3) := by decide +kernel
theorem dL_script_13 : decode cL_script 13 = .ok (.lreturn, 1) := by decide +kernel
theorem dL_simulate_0 : decode cL_simulate 0 = .ok (.aload_n 0, 1) := by decide +kernel
theorem dL_simulate_1 : decode cL_simulate 1 = .ok (.lload_n 1, 1) := by decide +kernel
theorem dL_simulate_2 : decode cL_simulate 2 = .ok (.iload_n 3, 1) := by decide +kernel
theorem dL_simulate_3 : decode cL_simulate 3 = .ok (.invokevirtual 86, 3) := by decide +kernel
theorem dL_simulate_6 : decode cL_simulate 6 = .ok (.i2l, 1) := by decide +kernel
theorem dL_simulate_7 : decode cL_simulate 7 = .ok (.lreturn, 1) := by decide +kernel
theorem dL_simulate_8 : decode cL_simulate 8 = .ok (.astore 4, 2) := by decide +kernel
theorem dL_simulate_10 : decode cL_simulate 10 = .ok (.ldc2_w 17, 3) := by decide +kernel
theorem dL_simulate_13 : decode cL_simulate 13 = .ok (.lreturn, 1) := by decide +kernel
theorem dL_save_0 : decode cL_save 0 = .ok (.aload_n 0, 1) := by decide +kernel
theorem dL_save_1 : decode cL_save 1 = .ok (.iload_n 1, 1) := by decide +kernel
theorem dL_save_2 : decode cL_save 2 = .ok (.invokevirtual 90, 3) := by decide +kernel
theorem dL_save_5 : decode cL_save 5 = .ok (.i2l, 1) := by decide +kernel
theorem dL_save_6 : decode cL_save 6 = .ok (.lreturn, 1) := by decide +kernel
theorem dL_save_7 : decode cL_save 7 = .ok (.astore_n 2, 1) := by decide +kernel
theorem dL_save_8 : decode cL_save 8 = .ok (.ldc2_w 36, 3) := by decide +kernel
theorem dL_save_11 : decode cL_save 11 = .ok (.lreturn, 1) := by decide +kernel
theorem dL_restore_0 : decode cL_restore 0 = .ok (.aload_n 0, 1) := by decide +kernel
theorem dL_restore_1 : decode cL_restore 1 = .ok (.iload_n 1, 1) := by decide +kernel
theorem dL_restore_2 : decode cL_restore 2 = .ok (.invokevirtual 93, 3) := by decide +kernel
theorem dL_restore_5 : decode cL_restore 5 = .ok (.i2l, 1) := by decide +kernel
theorem dL_restore_6 : decode cL_restore 6 = .ok (.lreturn, 1) := by decide +kernel
theorem dL_restore_7 : decode cL_restore 7 = .ok (.astore_n 2, 1) := by decide +kernel
theorem dL_restore_8 : decode cL_restore 8 = .ok (.ldc2_w 36, 3) := by decide +kernel
theorem dL_restore_11 : decode cL_restore 11 = .ok (.lreturn, 1) := by decide +kernel
theorem dL_restore_12 : decode cL_restore 12 = .ok (.astore_n 2, 1) := by decide +kernel
theorem dL_restore_13 : decode cL_restore 13 = .ok (.ldc2_w 21, 3) := by decide +kernel
theorem dL_restore_16 : decode cL_restore 16 = .ok (.lreturn, 1) := by decide +kernel
theorem dL_now_0 : decode cL_now 0 = .ok (.ldc2_w 96, 3) := by decide +kernel
theorem dL_now_3 : decode cL_now 3 = .ok (.lstore_n 1, 1) := by decide +kernel
theorem dL_now_4 : decode cL_now 4 = .ok (.iconst 0, 1) := by decide +kernel
theorem dL_now_5 : decode cL_now 5 = .ok (.istore_n 3, 1) := by decide +kernel
theorem dL_now_6 : decode cL_now 6 = .ok (.iload_n 3, 1) := by decide +kernel
theorem dL_now_7 : decode cL_now 7 = .ok (.bipush 15, 2) := by decide +kernel
theorem dL_now_9 : decode cL_now 9 = .ok (.if_icmp .ge 21, 3) := by decide +kernel
theorem dL_now_12 : decode cL_now 12 = .ok (.ldc2_w 98, 3) := by decide +kernel
theorem dL_now_15 : decode cL_now 15 = .ok (.lload_n 1, 1) := by decide +kernel
theorem dL_now_16 : decode cL_now 16 = .ok (.lmul, 1) := by decide +kernel
theorem dL_now_17 : decode cL_now 17 = .ok (.aload_n 0, 1) := by decide +kernel
theorem dL_now_18 : decode cL_now 18 = .ok (.iload_n 3, 1) := by decide +kernel
theorem dL_now_19 : decode cL_now 19 = .ok (.invokestatic 100, 3) := by decide +kernel
theorem dL_now_22 : decode cL_now 22 = .ok (.ladd, 1) := by decide +kernel
theorem dL_now_23 : decode cL_now 23 = .ok (.lstore_n 1, 1) := by decide +kernel
theorem dL_now_24 : decode cL_now 24 = .ok (.iinc 3 1, 3) := by decide +kernel
theorem dL_now_27 : decode cL_now 27 = .ok (.goto (-21), 3) := by decide +kernel
theorem dL_now_30 : decode cL_now 30 = .ok (.iconst 0, 1) := by decide +kernel
theorem dL_now_31 : decode cL_now 31 = .ok (.istore_n 3, 1) := by decide +kernel
theorem dL_now_32 : decode cL_now 32 = .ok (.iload_n 3, 1) := by decide +kernel
theorem dL_now_33 : decode cL_now 33 = .ok (.i2l, 1) := by decide +kernel
theorem dL_now_34 : decode cL_now 34 = .ok (.aload_n 0, 1) := by decide +kernel
theorem dL_now_35 : decode cL_now 35 = .ok (.iconst 0, 1) := by decide +kernel
theorem dL_now_36 : decode cL_now 36 = .ok (.invokestatic 100, 3) := by decide +kernel
theorem dL_now_39 : decode cL_now 39 = .ok (.lcmp, 1) := by decide +kernel
theorem dL_now_40 : decode cL_now 40 = .ok (.ifCond .ge 39, 3) := by decide +kernel
theorem dL_now_43 : decode cL_now 43 = .ok (.iconst 0, 1) := by decide +kernel
theorem dL_now_44 : decode cL_now 44 = .ok (.istore 4, 2) := by decide +kernel
theorem dL_now_46 : decode cL_now 46 = .ok (.iload 4, 2) := by decide +kernel
theorem dL_now_48 : decode cL_now 48 = .ok (.bipush 9, 2) := by decide +kernel
theorem dL_now_50 : decode cL_now 50 = .ok (.if_icmp .ge 23, 3) := by decide +kernel
theorem dL_now_53 : decode cL_now 53 = .ok (.ldc2_w 98, 3) := by decide +kernel
theorem dL_now_56 : decode cL_now 56 = .ok (.lload_n 1, 1) := by decide +kernel
theorem dL_now_57 : decode cL_now 57 = .ok (.lmul, 1) := by decide +kernel
theorem dL_now_58 : decode cL_now 58 = .ok (.aload_n 0, 1) := by decide +kernel
theorem dL_now_59 : decode cL_now 59 = .ok (.iload_n 3, 1) := by decide +kernel
theorem dL_now_60 : decode cL_now 60 = .ok (.iload 4, 2) := by decide +kernel
theorem dL_now_62 : decode cL_now 62 = .ok (.invokestatic 105, 3) := by decide +kernel
theorem dL_now_65 : decode cL_now 65 = .ok (.ladd, 1) := by decide +kernel
theorem dL_now_66 : decode cL_now 66 = .ok (.lstore_n 1, 1) := by decide +kernel
theorem dL_now_67 : decode cL_now 67 = .ok (.iinc 4 1, 3) := by decide +kernel
theorem dL_now_70 : decode cL_now 70 = .ok (.goto (-24), 3) := by decide +kernel
theorem dL_now_73 : decode cL_now 73 = .ok (.iinc 3 1, 3) := by decide +kernel
theorem dL_now_76 : decode cL_now 76 = .ok (.goto (-44), 3) := by decide +kernel
theorem dL_now_79 : decode cL_now 79 = .ok (.iconst 0, 1) := by decide +kernel
theorem dL_now_80 : decode cL_now 80 = .ok (.istore_n 3, 1) := by decide +kernel
theorem dL_now_81 : decode cL_now 81 = .ok (.iload_n 3, 1) := by decide +kernel
theorem dL_now_82 : decode cL_now 82 = .ok (.i2l, 1) := by decide +kernel
theorem dL_now_83 : decode cL_now 83 = .ok (.aload_n 0, 1) := by decide +kernel
theorem dL_now_84 : decode cL_now 84 = .ok (.iconst 1, 1) := by decide +kernel
theorem dL_now_85 : decode cL_now 85 = .ok (.invokestatic 100, 3) := by decide +kernel
theorem dL_now_88 : decode cL_now 88 = .ok (.lcmp, 1) := by decide +kernel
theorem dL_now_89 : decode cL_now 89 = .ok (.ifCond .ge 39, 3) := by decide +kernel
theorem dL_now_92 : decode cL_now 92 = .ok (.iconst 0, 1) := by decide +kernel
theorem dL_now_93 : decode cL_now 93 = .ok (.istore 4, 2) := by decide +kernel
theorem dL_now_95 : decode cL_now 95 = .ok (.iload 4, 2) := by decide +kernel
theorem dL_now_97 : decode cL_now 97 = .ok (.bipush 8, 2) := by decide +kernel
theorem dL_now_99 : decode cL_now 99 = .ok (.if_icmp .ge 23, 3) := by decide +kernel
theorem dL_now_102 : decode cL_now 102 = .ok (.ldc2_w 98, 3) := by decide +kernel
theorem dL_now_105 : decode cL_now 105 = .ok (.lload_n 1, 1) := by decide +kernel
theorem dL_now_106 : decode cL_now 106 = .ok (.lmul, 1) := by decide +kernel
theorem dL_now_107 : decode cL_now 107 = .ok (.aload_n 0, 1) := by decide +kernel
theorem dL_now_108 : decode cL_now 108 = .ok (.iload_n 3, 1) := by decide +kernel
theorem dL_now_109 : decode cL_now 109 = .ok (.iload 4, 2) := by decide +kernel
theorem dL_now_111 : decode cL_now 111 = .ok (.invokestatic 108, 3) := by decide +kernel
theorem dL_now_114 : decode cL_now 114 = .ok (.ladd, 1) := by decide +kernel
theorem dL_now_115 : decode cL_now 115 = .ok (.lstore_n 1, 1) := by decide +kernel
theorem dL_now_116 : decode cL_now 116 = .ok (.iinc 4 1, 3) := by decide +kernel
theorem dL_now_119 : decode cL_now 119 = .ok (.goto (-24), 3) := by decide +kernel
theorem dL_now_122 : decode cL_now 122 = .ok (.iinc 3 1, 3) := by decide +kernel
theorem dL_now_125 : decode cL_now 125 = .ok (.goto (-44), 3) := by decide +kernel
theorem dL_now_128 : decode cL_now 128 = .ok (.lload_n 1, 1) := by decide +kernel
theorem dL_now_129 : decode cL_now 129 = .ok (.lreturn, 1) := by decide +kernel
theorem dL_errors_0 : decode cL_errors 0 = .ok (.aload_n 0, 1) := by decide +kernel
theorem dL_errors_1 : decode cL_errors 1 = .ok (.invokestatic 110, 3) := by decide +kernel
theorem dL_errors_4 : decode cL_errors 4 = .ok (.lstore_n 1, 1) := by decide +kernel
theorem dL_errors_5 : decode cL_errors 5 = .ok (.aload_n 0, 1) := by decide +kernel
theorem dL_errors_6 : decode cL_errors 6 = .ok (.iconst 0, 1) := by decide +kernel
theorem dL_errors_7 : decode cL_errors 7 = .ok (.invokestatic 100, 3) := by decide +kernel
theorem dL_errors_10 : decode cL_errors 10 = .ok (.l2i, 1) := by decide +kernel
theorem dL_errors_11 : decode cL_errors 11 = .ok (.istore_n 3, 1) := by decide +kernel
theorem dL_errors_12 : decode cL_errors 12 = .ok (.aload_n 0, 1) := by decide +kernel
theorem dL_errors_13 : decode cL_errors 13 = .ok (.iconst 1, 1) := by decide +kernel
theorem dL_errors_14 : decode cL_errors 14 = .ok (.invokestatic 100, 3) := by decide +kernel
theorem dL_errors_17 : decode cL_errors 17 = .ok (.l2i, 1) := by decide +kernel
theorem dL_errors_18 : decode cL_errors 18 = .ok (.istore 4, 2) := by decide +kernel
theorem dL_errors_20 : decode cL_errors 20 = .ok (.aload_n 0, 1) := by decide +kernel
theorem dL_errors_21 : decode cL_errors 21 = .ok (.iconst (-1), 1) := by decide +kernel
theorem dL_errors_22 : decode cL_errors 22 = .ok (.invokestatic 100, 3) := by decide +kernel
theorem dL_errors_25 : decode cL_errors 25 = .ok (.ldc2_w 17, 3) := by decide +kernel
theorem dL_errors_28 : decode cL_errors 28 = .ok (.lcmp, 1) := by decide +kernel
theorem dL_errors_29 : decode cL_errors 29 = .ok (.ifCond .ne 314, 3) := by decide +kernel
theorem dL_errors_32 : decode cL_errors 32 = .ok (.aload_n 0, 1) := by decide +kernel
theorem dL_errors_33 : decode cL_errors 33 = .ok (.bipush 15, 2) := by decide +kernel
theorem dL_errors_35 : decode cL_errors 35 = .ok (.invokestatic 100, 3) := by decide +kernel
theorem dL_errors_38 : decode cL_errors 38 = .ok (.ldc2_w 17, 3) := by decide +kernel
theorem dL_errors_41 : decode cL_errors 41 = .ok (.lcmp, 1) := by decide +kernel
theorem dL_errors_42 : decode cL_errors 42 = .ok (.ifCond .ne 301, 3) := by decide +kernel
theorem dL_errors_45 : decode cL_errors 45 = .ok (.aload_n 0, 1) := by decide +kernel
theorem dL_errors_46 : decode cL_errors 46 = .ok (.iload_n 3, 1) := by decide +kernel
theorem dL_errors_47 : decode cL_errors 47 = .ok (.bipush 9, 2) := by decide +kernel
theorem dL_errors_49 : decode cL_errors 49 = .ok (.invokestatic 105, 3) := by decide +kernel
theorem dL_errors_52 : decode cL_errors 52 = .ok (.ldc2_w 36, 3) := by decide +kernel
theorem dL_errors_55 : decode cL_errors 55 = .ok (.lcmp, 1) := by decide +kernel
theorem dL_errors_56 : decode cL_errors 56 = .ok (.ifCond .ne 287, 3) := by decide +kernel
theorem dL_errors_59 : decode cL_errors 59 = .ok (.aload_n 0, 1) := by decide +kernel
theorem dL_errors_60 : decode cL_errors 60 = .ok (.iconst (-1), 1) := by decide +kernel
theorem dL_errors_61 : decode cL_errors 61 = .ok (.iconst 0, 1) := by decide +kernel
theorem dL_errors_62 : decode cL_errors 62 = .ok (.invokestatic 105, 3) := by decide +kernel
theorem dL_errors_65 : decode cL_errors 65 = .ok (.ldc2_w 36, 3) := by decide +kernel
theorem dL_errors_68 : decode cL_errors 68 = .ok (.lcmp, 1) := by decide +kernel
theorem dL_errors_69 : decode cL_errors 69 = .ok (.ifCond .ne 274, 3) := by decide +kernel
theorem dL_errors_72 : decode cL_errors 72 = .ok (.aload_n 0, 1) := by decide +kernel
theorem dL_errors_73 : decode cL_errors 73 = .ok (.iload 4, 2) := by decide +kernel
theorem dL_errors_75 : decode cL_errors 75 = .ok (.bipush 8, 2) := by decide +kernel
theorem dL_errors_77 : decode cL_errors 77 = .ok (.invokestatic 108, 3) := by decide +kernel
theorem dL_errors_80 : decode cL_errors 80 = .ok (.ldc2_w 36, 3) := by decide +kernel
theorem dL_errors_83 : decode cL_errors 83 = .ok (.lcmp, 1) := by decide +kernel
theorem dL_errors_84 : decode cL_errors 84 = .ok (.ifCond .ne 259, 3) := by decide +kernel
theorem dL_errors_87 : decode cL_errors 87 = .ok (.aload_n 0, 1) := by decide +kernel
theorem dL_errors_88 : decode cL_errors 88 = .ok (.iload 4, 2) := by decide +kernel
theorem dL_errors_90 : decode cL_errors 90 = .ok (.iconst 0, 1) := by decide +kernel
theorem dL_errors_91 : decode cL_errors 91 = .ok (.invokestatic 114, 3) := by decide +kernel
theorem dL_errors_94 : decode cL_errors 94 = .ok (.ldc2_w 36, 3) := by decide +kernel
theorem dL_errors_97 : decode cL_errors 97 = .ok (.lcmp, 1) := by decide +kernel
theorem dL_errors_98 : decode cL_errors 98 = .ok (.ifCond .ne 245, 3) := by decide +kernel
theorem dL_errors_101 : decode cL_errors 101 = .ok (.aload_n 0, 1) := by decide +kernel
theorem dL_errors_102 : decode cL_errors 102 = .ok (.iconst (-1), 1) := by decide +kernel
theorem dL_errors_103 : decode cL_errors 103 = .ok (.invokestatic 116, 3) := by decide +kernel
theorem dL_errors_106 : decode cL_errors 106 = .ok (.ldc2_w 17, 3) := by decide +kernel
theorem dL_errors_109 : decode cL_errors 109 = .ok (.lcmp, 1) := by decide +kernel
theorem dL_errors_110 : decode cL_errors 110 = .ok (.ifCond .ne 233, 3) := by decide +kernel
theorem dL_errors_113 : decode cL_errors 113 = .ok (.aload_n 0, 1) := by decide +kernel
theorem dL_errors_114 : decode cL_errors 114 = .ok (.iconst 4, 1) := by decide +kernel
theorem dL_errors_115 : decode cL_errors 115 = .ok (.iconst 5, 1) := by decide +kernel
theorem dL_errors_116 : decode cL_errors 116 = .ok (.iconst 0, 1) := by decide +kernel
theorem dL_errors_117 : decode cL_errors 117 = .ok (.iconst 2, 1) := by decide +kernel
theorem dL_errors_118 : decode cL_errors 118 = .ok (.invokestatic 118, 3) := by decide +kernel
theorem dL_errors_121 : decode cL_errors 121 = .ok (.ldc2_w 36, 3) := by decide +kernel
theorem dL_errors_124 : decode cL_errors 124 = .ok (.lcmp, 1) := by decide +kernel
theorem dL_errors_125 : decode cL_errors 125 = .ok (.ifCond .ne 218, 3) := by decide +kernel
theorem dL_errors_128 : decode cL_errors 128 = .ok (.aload_n 0, 1) := by decide +kernel
theorem dL_errors_129 : decode cL_errors 129 = .ok (.iconst 0, 1) := by decide +kernel
theorem dL_errors_130 : decode cL_errors 130 = .ok (.iconst 5, 1) := by decide +kernel
theorem dL_errors_131 : decode cL_errors 131 = .ok (.iconst 0, 1) := by decide +kernel
theorem dL_errors_132 : decode cL_errors 132 = .ok (.iconst 0, 1) := by decide +kernel
theorem dL_errors_133 : decode cL_errors 133 = .ok (.invokestatic 118, 3) := by decide +kernel
theorem dL_errors_136 : decode cL_errors 136 = .ok (.ldc2_w 17, 3) := by decide +kernel
theorem dL_errors_139 : decode cL_errors 139 = .ok (.lcmp, 1) := by decide +kernel
theorem dL_errors_140 : decode cL_errors 140 = .ok (.ifCond .ne 203, 3) := by decide +kernel
theorem dL_errors_143 : decode cL_errors 143 = .ok (.aload_n 0, 1) := by decide +kernel
theorem dL_errors_144 : decode cL_errors 144 = .ok (.iconst 0, 1) := by decide +kernel
theorem dL_errors_145 : decode cL_errors 145 = .ok (.iconst 1, 1) := by decide +kernel
theorem dL_errors_146 : decode cL_errors 146 = .ok (.iconst (-1), 1) := by decide +kernel
theorem dL_errors_147 : decode cL_errors 147 = .ok (.iconst 0, 1) := by decide +kernel
theorem dL_errors_148 : decode cL_errors 148 = .ok (.invokestatic 118, 3) := by decide +kernel
theorem dL_errors_151 : decode cL_errors 151 = .ok (.ldc2_w 17, 3) := by decide +kernel
theorem dL_errors_154 : decode cL_errors 154 = .ok (.lcmp, 1) := by decide +kernel
theorem dL_errors_155 : decode cL_errors 155 = .ok (.ifCond .ne 188, 3) := by decide +kernel
theorem dL_errors_158 : decode cL_errors 158 = .ok (.aload_n 0, 1) := by decide +kernel
theorem dL_errors_159 : decode cL_errors 159 = .ok (.iconst 0, 1) := by decide +kernel
theorem dL_errors_160 : decode cL_errors 160 = .ok (.bipush 6, 2) := by decide +kernel
theorem dL_errors_162 : decode cL_errors 162 = .ok (.iconst 0, 1) := by decide +kernel
theorem dL_errors_163 : decode cL_errors 163 = .ok (.invokestatic 121, 3) := by decide +kernel
theorem dL_errors_166 : decode cL_errors 166 = .ok (.ldc2_w 36, 3) := by decide +kernel
theorem dL_errors_169 : decode cL_errors 169 = .ok (.lcmp, 1) := by decide +kernel
theorem dL_errors_170 : decode cL_errors 170 = .ok (.ifCond .ne 173, 3) := by decide +kernel
theorem dL_errors_173 : decode cL_errors 173 = .ok (.aload_n 0, 1) := by decide +kernel
theorem dL_errors_174 : decode cL_errors 174 = .ok (.iconst 0, 1) := by decide +kernel
theorem dL_errors_175 : decode cL_errors 175 = .ok (.iconst 0, 1) := by decide +kernel
theorem dL_errors_176 : decode cL_errors 176 = .ok (.iconst (-1), 1) := by decide +kernel
theorem dL_errors_177 : decode cL_errors 177 = .ok (.invokestatic 121, 3) := by decide +kernel
theorem dL_errors_180 : decode cL_errors 180 = .ok (.ldc2_w 36, 3) := by decide +kernel
theorem dL_errors_183 : decode cL_errors 183 = .ok (.lcmp, 1) := by decide +kernel
theorem dL_errors_184 : decode cL_errors 184 = .ok (.ifCond .ne 159, 3) := by decide +kernel
theorem dL_errors_187 : decode cL_errors 187 = .ok (.aload_n 0, 1) := by decide +kernel
theorem dL_errors_188 : decode cL_errors 188 = .ok (.iconst (-1), 1) := by decide +kernel
theorem dL_errors_189 : decode cL_errors 189 = .ok (.iconst 0, 1) := by decide +kernel
theorem dL_errors_190 : decode cL_errors 190 = .ok (.iconst 0, 1) := by decide +kernel
theorem dL_errors_191 : decode cL_errors 191 = .ok (.invokestatic 121, 3) := by decide +kernel
theorem dL_errors_194 : decode cL_errors 194 = .ok (.ldc2_w 17, 3) := by decide +kernel
theorem dL_errors_197 : decode cL_errors 197 = .ok (.lcmp, 1) := by decide +kernel
theorem dL_errors_198 : decode cL_errors 198 = .ok (.ifCond .ne 145, 3) := by decide +kernel
theorem dL_errors_201 : decode cL_errors 201 = .ok (.aload_n 0, 1) := by decide +kernel
theorem dL_errors_202 : decode cL_errors 202 = .ok (.iload_n 3, 1) := by decide +kernel
theorem dL_errors_203 : decode cL_errors 203 = .ok (.iconst 0, 1) := by decide +kernel
theorem dL_errors_204 : decode cL_errors 204 = .ok (.invokestatic 124, 3) := by decide +kernel
theorem dL_errors_207 : decode cL_errors 207 = .ok (.ldc2_w 36, 3) := by decide +kernel
theorem dL_errors_210 : decode cL_errors 210 = .ok (.lcmp, 1) := by decide +kernel
theorem dL_errors_211 : decode cL_errors 211 = .ok (.ifCond .ne 132, 3) := by decide +kernel
theorem dL_errors_214 : decode cL_errors 214 = .ok (.aload_n 0, 1) := by decide +kernel
theorem dL_errors_215 : decode cL_errors 215 = .ok (.iload_n 3, 1) := by decide +kernel
theorem dL_errors_216 : decode cL_errors 216 = .ok (.iconst 0, 1) := by decide +kernel
theorem dL_errors_217 : decode cL_errors 217 = .ok (.iconst 5, 1) := by decide +kernel
theorem dL_errors_218 : decode cL_errors 218 = .ok (.iconst 0, 1) := by decide +kernel
theorem dL_errors_219 : decode cL_errors 219 = .ok (.invokestatic 126, 3) := by decide +kernel
theorem dL_errors_222 : decode cL_errors 222 = .ok (.ldc2_w 36, 3) := by decide +kernel
theorem dL_errors_225 : decode cL_errors 225 = .ok (.lcmp, 1) := by decide +kernel
theorem dL_errors_226 : decode cL_errors 226 = .ok (.ifCond .ne 117, 3) := by decide +kernel
theorem dL_errors_229 : decode cL_errors 229 = .ok (.aload_n 0, 1) := by decide +kernel
theorem dL_errors_230 : decode cL_errors 230 = .ok (.iconst 0, 1) := by decide +kernel
theorem dL_errors_231 : decode cL_errors 231 = .ok (.iload_n 3, 1) := by decide +kernel
theorem dL_errors_232 : decode cL_errors 232 = .ok (.iconst 1, 1) := by decide +kernel
theorem dL_errors_233 : decode cL_errors 233 = .ok (.iconst 0, 1) := by decide +kernel
theorem dL_errors_234 : decode cL_errors 234 = .ok (.invokestatic 126, 3) := by decide +kernel
theorem dL_errors_237 : decode cL_errors 237 = .ok (.ldc2_w 36, 3) := by decide +kernel
theorem dL_errors_240 : decode cL_errors 240 = .ok (.lcmp, 1) := by decide +kernel
theorem dL_errors_241 : decode cL_errors 241 = .ok (.ifCond .ne 102, 3) := by decide +kernel
theorem dL_errors_244 : decode cL_errors 244 = .ok (.aload_n 0, 1) := by decide +kernel
theorem dL_errors_245 : decode cL_errors 245 = .ok (.iconst (-1), 1) := by decide +kernel
theorem dL_errors_246 : decode cL_errors 246 = .ok (.iconst 1, 1) := by decide +kernel
theorem dL_errors_247 : decode cL_errors 247 = .ok (.iconst 0, 1) := by decide +kernel
theorem dL_errors_248 : decode cL_errors 248 = .ok (.invokestatic 128, 3) := by decide +kernel
theorem dL_errors_251 : decode cL_errors 251 = .ok (.ldc2_w 36, 3) := by decide +kernel
theorem dL_errors_254 : decode cL_errors 254 = .ok (.lcmp, 1) := by decide +kernel
theorem dL_errors_255 : decode cL_errors 255 = .ok (.ifCond .ne 88, 3) := by decide +kernel
theorem dL_errors_258 : decode cL_errors 258 = .ok (.aload_n 0, 1) := by decide +kernel
theorem dL_errors_259 : decode cL_errors 259 = .ok (.iconst 0, 1) := by decide +kernel
theorem dL_errors_260 : decode cL_errors 260 = .ok (.iconst 0, 1) := by decide +kernel
theorem dL_errors_261 : decode cL_errors 261 = .ok (.iconst 0, 1) := by decide +kernel
theorem dL_errors_262 : decode cL_errors 262 = .ok (.invokestatic 128, 3) := by decide +kernel
theorem dL_errors_265 : decode cL_errors 265 = .ok (.ldc2_w 17, 3) := by decide +kernel
theorem dL_errors_268 : decode cL_errors 268 = .ok (.lcmp, 1) := by decide +kernel
theorem dL_errors_269 : decode cL_errors 269 = .ok (.ifCond .ne 74, 3) := by decide +kernel
theorem dL_errors_272 : decode cL_errors 272 = .ok (.aload_n 0, 1) := by decide +kernel
theorem dL_errors_273 : decode cL_errors 273 = .ok (.iconst 0, 1) := by decide +kernel
theorem dL_errors_274 : decode cL_errors 274 = .ok (.iconst 2, 1) := by decide +kernel
theorem dL_errors_275 : decode cL_errors 275 = .ok (.sipush 676, 3) := by decide +kernel
theorem dL_errors_278 : decode cL_errors 278 = .ok (.invokestatic 128, 3) := by decide +kernel
theorem dL_errors_281 : decode cL_errors 281 = .ok (.ldc2_w 17, 3) := by decide +kernel
theorem dL_errors_284 : decode cL_errors 284 = .ok (.lcmp, 1) := by decide +kernel
theorem dL_errors_285 : decode cL_errors 285 = .ok (.ifCond .ne 58, 3) := by decide +kernel
theorem dL_errors_288 : decode cL_errors 288 = .ok (.aload_n 0, 1) := by decide +kernel
theorem dL_errors_289 : decode cL_errors 289 = .ok (.iconst 0, 1) := by decide +kernel
theorem dL_errors_290 : decode cL_errors 290 = .ok (.invokestatic 130, 3) := by decide +kernel
theorem dL_errors_293 : decode cL_errors 293 = .ok (.ldc2_w 17, 3) := by decide +kernel
theorem dL_errors_296 : decode cL_errors 296 = .ok (.lcmp, 1) := by decide +kernel
theorem dL_errors_297 : decode cL_errors 297 = .ok (.ifCond .ne 46, 3) := by decide +kernel
theorem dL_errors_300 : decode cL_errors 300 = .ok (.aload_n 0, 1) := by decide +kernel
theorem dL_errors_301 : decode cL_errors 301 = .ok (.iconst 3, 1) := by decide +kernel
theorem dL_errors_302 : decode cL_errors 302 = .ok (.iconst 1, 1) := by decide +kernel
theorem dL_errors_303 : decode cL_errors 303 = .ok (.invokestatic 132, 3) := by decide +kernel
theorem dL_errors_306 : decode cL_errors 306 = .ok (.ldc2_w 17, 3) := by decide +kernel
theorem dL_errors_309 : decode cL_errors 309 = .ok (.lcmp, 1) := by decide +kernel
theorem dL_errors_310 : decode cL_errors 310 = .ok (.ifCond .ne 33, 3) := by decide +kernel
theorem dL_errors_313 : decode cL_errors 313 = .ok (.aload_n 0, 1) := by decide +kernel
theorem dL_errors_314 : decode cL_errors 314 = .ok (.iconst 1, 1) := by decide +kernel
theorem dL_errors_315 : decode cL_errors 315 = .ok (.iconst 0, 1) := by decide +kernel
theorem dL_errors_316 : decode cL_errors 316 = .ok (.invokestatic 132, 3) := by decide +kernel
theorem dL_errors_319 : decode cL_errors 319 = .ok (.ldc2_w 17, 3) := by decide +kernel
theorem dL_errors_322 : decode cL_errors 322 = .ok (.lcmp, 1) := by decide +kernel
theorem dL_errors_323 : decode cL_errors 323 = .ok (.ifCond .ne 20, 3) := by decide +kernel
theorem dL_errors_326 : decode cL_errors 326 = .ok (.aload_n 0, 1) := by decide +kernel
theorem dL_errors_327 : decode cL_errors 327 = .ok (.iconst 2, 1) := by decide +kernel
theorem dL_errors_328 : decode cL_errors 328 = .ok (.iconst (-1), 1) := by decide +kernel
theorem dL_errors_329 : decode cL_errors 329 = .ok (.invokestatic 132, 3) := by decide +kernel
theorem dL_errors_332 : decode cL_errors 332 = .ok (.ldc2_w 17, 3) := by decide +kernel
theorem dL_errors_335 : decode cL_errors 335 = .ok (.lcmp, 1) := by decide +kernel
theorem dL_errors_336 : decode cL_errors 336 = .ok (.ifCond .ne 7, 3) := by decide +kernel
theorem dL_errors_339 : decode cL_errors 339 = .ok (.iconst 1, 1) := by decide +kernel
theorem dL_errors_340 : decode cL_errors 340 = .ok (.goto 4, 3) := by decide +kernel
theorem dL_errors_343 : decode cL_errors 343 = .ok (.iconst 0, 1) := by decide +kernel
theorem dL_errors_344 : decode cL_errors 344 = .ok (.istore 5, 2) := by decide +kernel
theorem dL_errors_346 : decode cL_errors 346 = .ok (.iload 5, 2) := by decide +kernel
theorem dL_errors_348 : decode cL_errors 348 = .ok (.ifCond .eq 257, 3) := by decide +kernel
theorem dL_errors_351 : decode cL_errors 351 = .ok (.aload_n 0, 1) := by decide +kernel
theorem dL_errors_352 : decode cL_errors 352 = .ok (.iload_n 3, 1) := by decide +kernel
theorem dL_errors_353 : decode cL_errors 353 = .ok (.iconst 0, 1) := by decide +kernel
theorem dL_errors_354 : decode cL_errors 354 = .ok (.iconst 5, 1) := by decide +kernel
theorem dL_errors_355 : decode cL_errors 355 = .ok (.iconst 0, 1) := by decide +kernel
theorem dL_errors_356 : decode cL_errors 356 = .ok (.invokestatic 134, 3) := by decide +kernel
theorem dL_errors_359 : decode cL_errors 359 = .ok (.ldc2_w 36, 3) := by decide +kernel
theorem dL_errors_362 : decode cL_errors 362 = .ok (.lcmp, 1) := by decide +kernel
theorem dL_errors_363 : decode cL_errors 363 = .ok (.ifCond .ne 242, 3) := by decide +kernel
theorem dL_errors_366 : decode cL_errors 366 = .ok (.aload_n 0, 1) := by decide +kernel
theorem dL_errors_367 : decode cL_errors 367 = .ok (.iload 4, 2) := by decide +kernel
theorem dL_errors_369 : decode cL_errors 369 = .ok (.invokestatic 136, 3) := by decide +kernel
theorem dL_errors_372 : decode cL_errors 372 = .ok (.ldc2_w 36, 3) := by decide +kernel
theorem dL_errors_375 : decode cL_errors 375 = .ok (.lcmp, 1) := by decide +kernel
theorem dL_errors_376 : decode cL_errors 376 = .ok (.ifCond .ne 229, 3) := by decide +kernel
theorem dL_errors_379 : decode cL_errors 379 = .ok (.aload_n 0, 1) := by decide +kernel
theorem dL_errors_380 : decode cL_errors 380 = .ok (.iload_n 3, 1) := by decide +kernel
theorem dL_errors_381 : decode cL_errors 381 = .ok (.iconst 0, 1) := by decide +kernel
theorem dL_errors_382 : decode cL_errors 382 = .ok (.iconst 3, 1) := by decide +kernel
theorem dL_errors_383 : decode cL_errors 383 = .ok (.invokestatic 138, 3) := by decide +kernel
theorem dL_errors_386 : decode cL_errors 386 = .ok (.ldc2_w 36, 3) := by decide +kernel
theorem dL_errors_389 : decode cL_errors 389 = .ok (.lcmp, 1) := by decide +kernel
theorem dL_errors_390 : decode cL_errors 390 = .ok (.ifCond .ne 215, 3) := by decide +kernel
theorem dL_errors_393 : decode cL_errors 393 = .ok (.iload_n 3, 1) := by decide +kernel
theorem dL_errors_394 : decode cL_errors 394 = .ok (.ifCond .eq 76, 3) := by decide +kernel
theorem dL_errors_397 : decode cL_errors 397 = .ok (.aload_n 0, 1) := by decide +kernel
theorem dL_errors_398 : decode cL_errors 398 = .ok (.iconst 0, 1) := by decide +kernel
theorem dL_errors_399 : decode cL_errors 399 = .ok (.iconst 4, 1) := by decide +kernel
theorem dL_errors_400 : decode cL_errors 400 = .ok (.invokestatic 124, 3) := by decide +kernel
theorem dL_errors_403 : decode cL_errors 403 = .ok (.ldc2_w 36, 3) := by decide +kernel
theorem dL_errors_406 : decode cL_errors 406 = .ok (.lcmp, 1) := by decide +kernel
theorem dL_errors_407 : decode cL_errors 407 = .ok (.ifCond .ne 198, 3) := by decide +kernel
theorem dL_errors_410 : decode cL_errors 410 = .ok (.aload_n 0, 1) := by decide +kernel
theorem dL_errors_411 : decode cL_errors 411 = .ok (.iconst 0, 1) := by decide +kernel
theorem dL_errors_412 : decode cL_errors 412 = .ok (.iconst 0, 1) := by decide +kernel
theorem dL_errors_413 : decode cL_errors 413 = .ok (.iconst 0, 1) := by decide +kernel
theorem dL_errors_414 : decode cL_errors 414 = .ok (.iconst 0, 1) := by decide +kernel
theorem dL_errors_415 : decode cL_errors 415 = .ok (.invokestatic 126, 3) := by decide +kernel
theorem dL_errors_418 : decode cL_errors 418 = .ok (.ldc2_w 17, 3) := by decide +kernel
theorem dL_errors_421 : decode cL_errors 421 = .ok (.lcmp, 1) := by decide +kernel
theorem dL_errors_422 : decode cL_errors 422 = .ok (.ifCond .ne 183, 3) := by decide +kernel
theorem dL_errors_425 : decode cL_errors 425 = .ok (.aload_n 0, 1) := by decide +kernel
theorem dL_errors_426 : decode cL_errors 426 = .ok (.iconst 0, 1) := by decide +kernel
theorem dL_errors_427 : decode cL_errors 427 = .ok (.iconst 0, 1) := by decide +kernel
theorem dL_errors_428 : decode cL_errors 428 = .ok (.iconst 3, 1) := by decide +kernel
theorem dL_errors_429 : decode cL_errors 429 = .ok (.sipush 17576, 3) := by decide +kernel
theorem dL_errors_432 : decode cL_errors 432 = .ok (.invokestatic 134, 3) := by decide +kernel
theorem dL_errors_435 : decode cL_errors 435 = .ok (.ldc2_w 17, 3) := by decide +kernel
theorem dL_errors_438 : decode cL_errors 438 = .ok (.lcmp, 1) := by decide +kernel
theorem dL_errors_439 : decode cL_errors 439 = .ok (.ifCond .ne 166, 3) := by decide +kernel
theorem dL_errors_442 : decode cL_errors 442 = .ok (.aload_n 0, 1) := by decide +kernel
theorem dL_errors_443 : decode cL_errors 443 = .ok (.iconst 0, 1) := by decide +kernel
theorem dL_errors_444 : decode cL_errors 444 = .ok (.iconst 0, 1) := by decide +kernel
theorem dL_errors_445 : decode cL_errors 445 = .ok (.iconst 0, 1) := by decide +kernel
theorem dL_errors_446 : decode cL_errors 446 = .ok (.invokestatic 138, 3) := by decide +kernel
theorem dL_errors_449 : decode cL_errors 449 = .ok (.ldc2_w 17, 3) := by decide +kernel
theorem dL_errors_452 : decode cL_errors 452 = .ok (.lcmp, 1) := by decide +kernel
theorem dL_errors_453 : decode cL_errors 453 = .ok (.ifCond .ne 152, 3) := by decide +kernel
theorem dL_errors_456 : decode cL_errors 456 = .ok (.aload_n 0, 1) := by decide +kernel
theorem dL_errors_457 : decode cL_errors 457 = .ok (.iconst 0, 1) := by decide +kernel
theorem dL_errors_458 : decode cL_errors 458 = .ok (.bipush 9, 2) := by decide +kernel
theorem dL_errors_460 : decode cL_errors 460 = .ok (.invokestatic 105, 3) := by decide +kernel
theorem dL_errors_463 : decode cL_errors 463 = .ok (.ldc2_w 17, 3) := by decide +kernel
theorem dL_errors_466 : decode cL_errors 466 = .ok (.lcmp, 1) := by decide +kernel
theorem dL_errors_467 : decode cL_errors 467 = .ok (.ifCond .ne 138, 3) := by decide +kernel
theorem dL_errors_470 : decode cL_errors 470 = .ok (.iload 4, 2) := by decide +kernel
theorem dL_errors_472 : decode cL_errors 472 = .ok (.ifCond .eq 30, 3) := by decide +kernel
theorem dL_errors_475 : decode cL_errors 475 = .ok (.aload_n 0, 1) := by decide +kernel
theorem dL_errors_476 : decode cL_errors 476 = .ok (.iconst 0, 1) := by decide +kernel
theorem dL_errors_477 : decode cL_errors 477 = .ok (.bipush 8, 2) := by decide +kernel
theorem dL_errors_479 : decode cL_errors 479 = .ok (.invokestatic 108, 3) := by decide +kernel
theorem dL_errors_482 : decode cL_errors 482 = .ok (.ldc2_w 17, 3) := by decide +kernel
theorem dL_errors_485 : decode cL_errors 485 = .ok (.lcmp, 1) := by decide +kernel
theorem dL_errors_486 : decode cL_errors 486 = .ok (.ifCond .ne 119, 3) := by decide +kernel
theorem dL_errors_489 : decode cL_errors 489 = .ok (.aload_n 0, 1) := by decide +kernel
theorem dL_errors_490 : decode cL_errors 490 = .ok (.iconst 0, 1) := by decide +kernel
theorem dL_errors_491 : decode cL_errors 491 = .ok (.iconst (-1), 1) := by decide +kernel
theorem dL_errors_492 : decode cL_errors 492 = .ok (.invokestatic 114, 3) := by decide +kernel
theorem dL_errors_495 : decode cL_errors 495 = .ok (.ldc2_w 36, 3) := by decide +kernel
theorem dL_errors_498 : decode cL_errors 498 = .ok (.lcmp, 1) := by decide +kernel
theorem dL_errors_499 : decode cL_errors 499 = .ok (.ifCond .ne 106, 3) := by decide +kernel
theorem dL_errors_502 : decode cL_errors 502 = .ok (.iload_n 3, 1) := by decide +kernel
theorem dL_errors_503 : decode cL_errors 503 = .ok (.bipush 12, 2) := by decide +kernel
theorem dL_errors_505 : decode cL_errors 505 = .ok (.if_icmp .lt 17, 3) := by decide +kernel
theorem dL_errors_508 : decode cL_errors 508 = .ok (.aload_n 0, 1) := by decide +kernel
theorem dL_errors_509 : decode cL_errors 509 = .ok (.iconst 0, 1) := by decide +kernel
theorem dL_errors_510 : decode cL_errors 510 = .ok (.iconst 0, 1) := by decide +kernel
theorem dL_errors_511 : decode cL_errors 511 = .ok (.iconst 0, 1) := by decide +kernel
theorem dL_errors_512 : decode cL_errors 512 = .ok (.invokestatic 121, 3) := by decide +kernel
theorem dL_errors_515 : decode cL_errors 515 = .ok (.ldc2_w 21, 3) := by decide +kernel
theorem dL_errors_518 : decode cL_errors 518 = .ok (.lcmp, 1) := by decide +kernel
theorem dL_errors_519 : decode cL_errors 519 = .ok (.ifCond .ne 86, 3) := by decide +kernel
theorem dL_errors_522 : decode cL_errors 522 = .ok (.aload_n 0, 1) := by decide +kernel
theorem dL_errors_523 : decode cL_errors 523 = .ok (.iconst 0, 1) := by decide +kernel
theorem dL_errors_524 : decode cL_errors 524 = .ok (.lconst 0, 1) := by decide +kernel
theorem dL_errors_525 : decode cL_errors 525 = .ok (.invokestatic 140, 3) := by decide +kernel
theorem dL_errors_528 : decode cL_errors 528 = .ok (.ldc2_w 17, 3) := by decide +kernel
theorem dL_errors_531 : decode cL_errors 531 = .ok (.lcmp, 1) := by decide +kernel
theorem dL_errors_532 : decode cL_errors 532 = .ok (.ifCond .ne 73, 3) := by decide +kernel
theorem dL_errors_535 : decode cL_errors 535 = .ok (.aload_n 0, 1) := by decide +kernel
theorem dL_errors_536 : decode cL_errors 536 = .ok (.iconst 3, 1) := by decide +kernel
theorem dL_errors_537 : decode cL_errors 537 = .ok (.ldc2_w 144, 3) := by decide +kernel
theorem dL_errors_540 : decode cL_errors 540 = .ok (.invokestatic 140, 3) := by decide +kernel
theorem dL_errors_543 : decode cL_errors 543 = .ok (.ldc2_w 17, 3) := by decide +kernel
theorem dL_errors_546 : decode cL_errors 546 = .ok (.lcmp, 1) := by decide +kernel
theorem dL_errors_547 : decode cL_errors 547 = .ok (.ifCond .ne 58, 3) := by decide +kernel
theorem dL_errors_550 : decode cL_errors 550 = .ok (.aload_n 0, 1) := by decide +kernel
theorem dL_errors_551 : decode cL_errors 551 = .ok (.lconst 1, 1) := by decide +kernel
theorem dL_errors_552 : decode cL_errors 552 = .ok (.iconst 0, 1) := by decide +kernel
theorem dL_errors_553 : decode cL_errors 553 = .ok (.invokestatic 146, 3) := by decide +kernel
theorem dL_errors_556 : decode cL_errors 556 = .ok (.ldc2_w 17, 3) := by decide +kernel
theorem dL_errors_559 : decode cL_errors 559 = .ok (.lcmp, 1) := by decide +kernel
theorem dL_errors_560 : decode cL_errors 560 = .ok (.ifCond .ne 45, 3) := by decide +kernel
theorem dL_errors_563 : decode cL_errors 563 = .ok (.aload_n 0, 1) := by decide +kernel
theorem dL_errors_564 : decode cL_errors 564 = .ok (.iconst 2, 1) := by decide +kernel
theorem dL_errors_565 : decode cL_errors 565 = .ok (.invokestatic 149, 3) := by decide +kernel
theorem dL_errors_568 : decode cL_errors 568 = .ok (.ldc2_w 36, 3) := by decide +kernel
theorem dL_errors_571 : decode cL_errors 571 = .ok (.lcmp, 1) := by decide +kernel
theorem dL_errors_572 : decode cL_errors 572 = .ok (.ifCond .ne 33, 3) := by decide +kernel
theorem dL_errors_575 : decode cL_errors 575 = .ok (.aload_n 0, 1) := by decide +kernel
theorem dL_errors_576 : decode cL_errors 576 = .ok (.iconst 2, 1) := by decide +kernel
theorem dL_errors_577 : decode cL_errors 577 = .ok (.invokestatic 151, 3) := by decide +kernel
theorem dL_errors_580 : decode cL_errors 580 = .ok (.ldc2_w 36, 3) := by decide +kernel
theorem dL_errors_583 : decode cL_errors 583 = .ok (.lcmp, 1) := by decide +kernel
theorem dL_errors_584 : decode cL_errors 584 = .ok (.ifCond .ne 21, 3) := by decide +kernel
theorem dL_errors_587 : decode cL_errors 587 = .ok (.aload_n 0, 1) := by decide +kernel
theorem dL_errors_588 : decode cL_errors 588 = .ok (.sipush 256, 3) := by decide +kernel
theorem dL_errors_591 : decode cL_errors 591 = .ok (.invokestatic 153, 3) := by decide +kernel
theorem dL_errors_594 : decode cL_errors 594 = .ok (.ldc2_w 17, 3) := by decide +kernel
theorem dL_errors_597 : decode cL_errors 597 = .ok (.lcmp, 1) := by decide +kernel
theorem dL_errors_598 : decode cL_errors 598 = .ok (.ifCond .ne 7, 3) := by decide +kernel
theorem dL_errors_601 : decode cL_errors 601 = .ok (.iconst 1, 1) := by decide +kernel
theorem dL_errors_602 : decode cL_errors 602 = .ok (.goto 4, 3) := by decide +kernel
theorem dL_errors_605 : decode cL_errors 605 = .ok (.iconst 0, 1) := by decide +kernel
theorem dL_errors_606 : decode cL_errors 606 = .ok (.istore 5, 2) := by decide +kernel
theorem dL_errors_608 : decode cL_errors 608 = .ok (.iload 5, 2) := by decide +kernel
theorem dL_errors_610 : decode cL_errors 610 = .ok (.ifCond .eq 16, 3) := by decide +kernel
theorem dL_errors_613 : decode cL_errors 613 = .ok (.aload_n 0, 1) := by decide +kernel
theorem dL_errors_614 : decode cL_errors 614 = .ok (.invokestatic 110, 3) := by decide +kernel
theorem dL_errors_617 : decode cL_errors 617 = .ok (.lload_n 1, 1) := by decide +kernel
theorem dL_errors_618 : decode cL_errors 618 = .ok (.lcmp, 1) := by decide +kernel
theorem dL_errors_619 : decode cL_errors 619 = .ok (.ifCond .ne 7, 3) := by decide +kernel
theorem dL_errors_622 : decode cL_errors 622 = .ok (.iconst 1, 1) := by decide +kernel
theorem dL_errors_623 : decode cL_errors 623 = .ok (.goto 4, 3) := by decide +kernel
theorem dL_errors_626 : decode cL_errors 626 = .ok (.iconst 0, 1) := by decide +kernel
theorem dL_errors_627 : decode cL_errors 627 = .ok (.ireturn, 1) := by decide +kernel
theorem dL_kept_0 : decode cL_kept 0 = .ok (.aload_n 0, 1) := by decide +kernel
theorem dL_kept_1 : decode cL_kept 1 = .ok (.iconst 1, 1) := by decide +kernel
theorem dL_kept_2 : decode cL_kept 2 = .ok (.invokestatic 100, 3) := by decide +kernel
theorem dL_kept_5 : decode cL_kept 5 = .ok (.l2i, 1) := by decide +kernel
theorem dL_kept_6 : decode cL_kept 6 = .ok (.istore_n 1, 1) := by decide +kernel
theorem dL_kept_7 : decode cL_kept 7 = .ok (.iconst 1, 1) := by decide +kernel
theorem dL_kept_8 : decode cL_kept 8 = .ok (.istore_n 2, 1) := by decide +kernel
theorem dL_kept_9 : decode cL_kept 9 = .ok (.lconst 0, 1) := by decide +kernel
theorem dL_kept_10 : decode cL_kept 10 = .ok (.lstore_n 3, 1) := by decide +kernel
theorem dL_kept_11 : decode cL_kept 11 = .ok (.lconst 0, 1) := by decide +kernel
theorem dL_kept_12 : decode cL_kept 12 = .ok (.lstore 5, 2) := by decide +kernel
theorem dL_kept_14 : decode cL_kept 14 = .ok (.lconst 0, 1) := by decide +kernel
theorem dL_kept_15 : decode cL_kept 15 = .ok (.lstore 7, 2) := by decide +kernel
theorem dL_kept_17 : decode cL_kept 17 = .ok (.lconst 0, 1) := by decide +kernel
theorem dL_kept_18 : decode cL_kept 18 = .ok (.lstore 9, 2) := by decide +kernel
theorem dL_kept_20 : decode cL_kept 20 = .ok (.lconst 0, 1) := by decide +kernel
theorem dL_kept_21 : decode cL_kept 21 = .ok (.lstore 11, 2) := by decide +kernel
theorem dL_kept_23 : decode cL_kept 23 = .ok (.iconst 0, 1) := by decide +kernel
theorem dL_kept_24 : decode cL_kept 24 = .ok (.istore 13, 2) := by decide +kernel
theorem dL_kept_26 : decode cL_kept 26 = .ok (.iconst 0, 1) := by decide +kernel
theorem dL_kept_27 : decode cL_kept 27 = .ok (.istore 14, 2) := by decide +kernel
theorem dL_kept_29 : decode cL_kept 29 = .ok (.iload 14, 2) := by decide +kernel
theorem dL_kept_31 : decode cL_kept 31 = .ok (.iload_n 1, 1) := by decide +kernel
theorem dL_kept_32 : decode cL_kept 32 = .ok (.if_icmp .ge 423, 3) := by decide +kernel
theorem dL_kept_35 : decode cL_kept 35 = .ok (.iload_n 2, 1) := by decide +kernel
theorem dL_kept_36 : decode cL_kept 36 = .ok (.ifCond .eq 419, 3) := by decide +kernel
theorem dL_kept_39 : decode cL_kept 39 = .ok (.aload_n 0, 1) := by decide +kernel
theorem dL_kept_40 : decode cL_kept 40 = .ok (.iload 14, 2) := by decide +kernel
theorem dL_kept_42 : decode cL_kept 42 = .ok (.bipush 6, 2) := by decide +kernel
theorem dL_kept_44 : decode cL_kept 44 = .ok (.invokestatic 108, 3) := by decide +kernel
theorem dL_kept_47 : decode cL_kept 47 = .ok (.ldc2_w 155, 3) := by decide +kernel
theorem dL_kept_50 : decode cL_kept 50 = .ok (.lcmp, 1) := by decide +kernel
theorem dL_kept_51 : decode cL_kept 51 = .ok (.ifCond .ge 7, 3) := by decide +kernel
theorem dL_kept_54 : decode cL_kept 54 = .ok (.iconst 1, 1) := by decide +kernel
theorem dL_kept_55 : decode cL_kept 55 = .ok (.goto 4, 3) := by decide +kernel
theorem dL_kept_58 : decode cL_kept 58 = .ok (.iconst 0, 1) := by decide +kernel
theorem dL_kept_59 : decode cL_kept 59 = .ok (.istore 15, 2) := by decide +kernel
theorem dL_kept_61 : decode cL_kept 61 = .ok (.aload_n 0, 1) := by decide +kernel
theorem dL_kept_62 : decode cL_kept 62 = .ok (.iload 14, 2) := by decide +kernel
theorem dL_kept_64 : decode cL_kept 64 = .ok (.iconst 3, 1) := by decide +kernel
theorem dL_kept_65 : decode cL_kept 65 = .ok (.invokestatic 108, 3) := by decide +kernel
theorem dL_kept_68 : decode cL_kept 68 = .ok (.l2i, 1) := by decide +kernel
theorem dL_kept_69 : decode cL_kept 69 = .ok (.istore 16, 2) := by decide +kernel
theorem dL_kept_71 : decode cL_kept 71 = .ok (.aload_n 0, 1) := by decide +kernel
theorem dL_kept_72 : decode cL_kept 72 = .ok (.iload 16, 2) := by decide +kernel
theorem dL_kept_74 : decode cL_kept 74 = .ok (.iconst 2, 1) := by decide +kernel
theorem dL_kept_75 : decode cL_kept 75 = .ok (.invokestatic 105, 3) := by decide +kernel
theorem dL_kept_78 : decode cL_kept 78 = .ok (.l2i, 1) := by decide +kernel
theorem dL_kept_79 : decode cL_kept 79 = .ok (.istore 17, 2) := by decide +kernel
theorem dL_kept_81 : decode cL_kept 81 = .ok (.aload_n 0, 1) := by decide +kernel
theorem dL_kept_82 : decode cL_kept 82 = .ok (.iload 14, 2) := by decide +kernel
theorem dL_kept_84 : decode cL_kept 84 = .ok (.iconst 2, 1) := by decide +kernel
theorem dL_kept_85 : decode cL_kept 85 = .ok (.invokestatic 108, 3) := by decide +kernel
theorem dL_kept_88 : decode cL_kept 88 = .ok (.iload 16, 2) := by decide +kernel
theorem dL_kept_90 : decode cL_kept 90 = .ok (.i2l, 1) := by decide +kernel
theorem dL_kept_91 : decode cL_kept 91 = .ok (.lcmp, 1) := by decide +kernel
theorem dL_kept_92 : decode cL_kept 92 = .ok (.ifCond .eq 158, 3) := by decide +kernel
theorem dL_kept_95 : decode cL_kept 95 = .ok (.aload_n 0, 1) := by decide +kernel
theorem dL_kept_96 : decode cL_kept 96 = .ok (.iload 14, 2) := by decide +kernel
theorem dL_kept_98 : decode cL_kept 98 = .ok (.iconst 5, 1) := by decide +kernel
theorem dL_kept_99 : decode cL_kept 99 = .ok (.invokestatic 108, 3) := by decide +kernel
theorem dL_kept_102 : decode cL_kept 102 = .ok (.aload_n 0, 1) := by decide +kernel
theorem dL_kept_103 : decode cL_kept 103 = .ok (.bipush 7, 2) := by decide +kernel
theorem dL_kept_105 : decode cL_kept 105 = .ok (.invokestatic 100, 3) := by decide +kernel
theorem dL_kept_108 : decode cL_kept 108 = .ok (.lcmp, 1) := by decide +kernel
theorem dL_kept_109 : decode cL_kept 109 = .ok (.ifCond .gt 141, 3) := by decide +kernel
theorem dL_kept_112 : decode cL_kept 112 = .ok (.aload_n 0, 1) := by decide +kernel
theorem dL_kept_113 : decode cL_kept 113 = .ok (.iload 14, 2) := by decide +kernel
theorem dL_kept_115 : decode cL_kept 115 = .ok (.bipush 6, 2) := by decide +kernel
theorem dL_kept_117 : decode cL_kept 117 = .ok (.invokestatic 108, 3) := by decide +kernel
theorem dL_kept_120 : decode cL_kept 120 = .ok (.lconst 1, 1) := by decide +kernel
theorem dL_kept_121 : decode cL_kept 121 = .ok (.lcmp, 1) := by decide +kernel
theorem dL_kept_122 : decode cL_kept 122 = .ok (.ifCond .eq 18, 3) := by decide +kernel
theorem dL_kept_125 : decode cL_kept 125 = .ok (.aload_n 0, 1) := by decide +kernel
theorem dL_kept_126 : decode cL_kept 126 = .ok (.iload 14, 2) := by decide +kernel
theorem dL_kept_128 : decode cL_kept 128 = .ok (.bipush 6, 2) := by decide +kernel
theorem dL_kept_130 : decode cL_kept 130 = .ok (.invokestatic 108, 3) := by decide +kernel
theorem dL_kept_133 : decode cL_kept 133 = .ok (.ldc2_w 157, 3) := by decide +kernel
theorem dL_kept_136 : decode cL_kept 136 = .ok (.lcmp, 1) := by decide +kernel
theorem dL_kept_137 : decode cL_kept 137 = .ok (.ifCond .ne 16, 3) := by decide +kernel
theorem dL_kept_140 : decode cL_kept 140 = .ok (.aload_n 0, 1) := by decide +kernel
theorem dL_kept_141 : decode cL_kept 141 = .ok (.iload 14, 2) := by decide +kernel
theorem dL_kept_143 : decode cL_kept 143 = .ok (.bipush 7, 2) := by decide +kernel
theorem dL_kept_145 : decode cL_kept 145 = .ok (.invokestatic 108, 3) := by decide +kernel
theorem dL_kept_148 : decode cL_kept 148 = .ok (.lconst 1, 1) := by decide +kernel
theorem dL_kept_149 : decode cL_kept 149 = .ok (.lcmp, 1) := by decide +kernel
theorem dL_kept_150 : decode cL_kept 150 = .ok (.ifCond .ne 100, 3) := by decide +kernel
theorem dL_kept_153 : decode cL_kept 153 = .ok (.aload_n 0, 1) := by decide +kernel
theorem dL_kept_154 : decode cL_kept 154 = .ok (.iload 14, 2) := by decide +kernel
theorem dL_kept_156 : decode cL_kept 156 = .ok (.bipush 6, 2) := by decide +kernel
theorem dL_kept_158 : decode cL_kept 158 = .ok (.invokestatic 108, 3) := by decide +kernel
theorem dL_kept_161 : decode cL_kept 161 = .ok (.lconst 0, 1) := by decide +kernel
theorem dL_kept_162 : decode cL_kept 162 = .ok (.lcmp, 1) := by decide +kernel
theorem dL_kept_163 : decode cL_kept 163 = .ok (.ifCond .ne 16, 3) := by decide +kernel
theorem dL_kept_166 : decode cL_kept 166 = .ok (.aload_n 0, 1) := by decide +kernel
theorem dL_kept_167 : decode cL_kept 167 = .ok (.iload 14, 2) := by decide +kernel
theorem dL_kept_169 : decode cL_kept 169 = .ok (.bipush 7, 2) := by decide +kernel
theorem dL_kept_171 : decode cL_kept 171 = .ok (.invokestatic 108, 3) := by decide +kernel
theorem dL_kept_174 : decode cL_kept 174 = .ok (.lconst 0, 1) := by decide +kernel
theorem dL_kept_175 : decode cL_kept 175 = .ok (.lcmp, 1) := by decide +kernel
theorem dL_kept_176 : decode cL_kept 176 = .ok (.ifCond .ne 74, 3) := by decide +kernel
theorem dL_kept_179 : decode cL_kept 179 = .ok (.aload_n 0, 1) := by decide +kernel
theorem dL_kept_180 : decode cL_kept 180 = .ok (.iload 14, 2) := by decide +kernel
theorem dL_kept_182 : decode cL_kept 182 = .ok (.invokestatic 136, 3) := by decide +kernel
theorem dL_kept_185 : decode cL_kept 185 = .ok (.lconst 0, 1) := by decide +kernel
theorem dL_kept_186 : decode cL_kept 186 = .ok (.lcmp, 1) := by decide +kernel
theorem dL_kept_187 : decode cL_kept 187 = .ok (.ifCond .ne 7, 3) := by decide +kernel
theorem dL_kept_190 : decode cL_kept 190 = .ok (.iconst 1, 1) := by decide +kernel
theorem dL_kept_191 : decode cL_kept 191 = .ok (.goto 4, 3) := by decide +kernel
theorem dL_kept_194 : decode cL_kept 194 = .ok (.iconst 0, 1) := by decide +kernel
theorem dL_kept_195 : decode cL_kept 195 = .ok (.iload 15, 2) := by decide +kernel
theorem dL_kept_197 : decode cL_kept 197 = .ok (.ifCond .ne 7, 3) := by decide +kernel
theorem dL_kept_200 : decode cL_kept 200 = .ok (.iconst 1, 1) := by decide +kernel
theorem dL_kept_201 : decode cL_kept 201 = .ok (.goto 4, 3) := by decide +kernel
theorem dL_kept_204 : decode cL_kept 204 = .ok (.iconst 0, 1) := by decide +kernel
theorem dL_kept_205 : decode cL_kept 205 = .ok (.if_icmp .ne 45, 3) := by decide +kernel
theorem dL_kept_208 : decode cL_kept 208 = .ok (.aload_n 0, 1) := by decide +kernel
theorem dL_kept_209 : decode cL_kept 209 = .ok (.iload 14, 2) := by decide +kernel
theorem dL_kept_211 : decode cL_kept 211 = .ok (.aload_n 0, 1) := by decide +kernel
theorem dL_kept_212 : decode cL_kept 212 = .ok (.iload 14, 2) := by decide +kernel
theorem dL_kept_214 : decode cL_kept 214 = .ok (.iconst 0, 1) := by decide +kernel
theorem dL_kept_215 : decode cL_kept 215 = .ok (.invokestatic 108, 3) := by decide +kernel
theorem dL_kept_218 : decode cL_kept 218 = .ok (.l2i, 1) := by decide +kernel
theorem dL_kept_219 : decode cL_kept 219 = .ok (.invokestatic 114, 3) := by decide +kernel
theorem dL_kept_222 : decode cL_kept 222 = .ok (.ldc2_w 159, 3) := by decide +kernel
theorem dL_kept_225 : decode cL_kept 225 = .ok (.lcmp, 1) := by decide +kernel
theorem dL_kept_226 : decode cL_kept 226 = .ok (.ifCond .ne 24, 3) := by decide +kernel
theorem dL_kept_229 : decode cL_kept 229 = .ok (.aload_n 0, 1) := by decide +kernel
theorem dL_kept_230 : decode cL_kept 230 = .ok (.iload 14, 2) := by decide +kernel
theorem dL_kept_232 : decode cL_kept 232 = .ok (.iconst 0, 1) := by decide +kernel
theorem dL_kept_233 : decode cL_kept 233 = .ok (.invokestatic 114, 3) := by decide +kernel
theorem dL_kept_236 : decode cL_kept 236 = .ok (.lconst 0, 1) := by decide +kernel
theorem dL_kept_237 : decode cL_kept 237 = .ok (.ldc2_w 161, 3) := by decide +kernel
theorem dL_kept_240 : decode cL_kept 240 = .ok (.invokestatic 163, 3) := by decide +kernel
theorem dL_kept_243 : decode cL_kept 243 = .ok (.ifCond .eq 7, 3) := by decide +kernel
theorem dL_kept_246 : decode cL_kept 246 = .ok (.iconst 1, 1) := by decide +kernel
theorem dL_kept_247 : decode cL_kept 247 = .ok (.goto 4, 3) := by decide +kernel
theorem dL_kept_250 : decode cL_kept 250 = .ok (.iconst 0, 1) := by decide +kernel
theorem dL_kept_251 : decode cL_kept 251 = .ok (.istore_n 2, 1) := by decide +kernel
theorem dL_kept_252 : decode cL_kept 252 = .ok (.iload_n 2, 1) := by decide +kernel
theorem dL_kept_253 : decode cL_kept 253 = .ok (.ifCond .eq 42, 3) := by decide +kernel
theorem dL_kept_256 : decode cL_kept 256 = .ok (.iload 15, 2) := by decide +kernel
theorem dL_kept_258 : decode cL_kept 258 = .ok (.ifCond .eq 33, 3) := by decide +kernel
theorem dL_kept_261 : decode cL_kept 261 = .ok (.aload_n 0, 1) := by decide +kernel
theorem dL_kept_262 : decode cL_kept 262 = .ok (.iload 17, 2) := by decide +kernel
theorem dL_kept_264 : decode cL_kept 264 = .ok (.aload_n 0, 1) := by decide +kernel
theorem dL_kept_265 : decode cL_kept 265 = .ok (.iload 14, 2) := by decide +kernel
theorem dL_kept_267 : decode cL_kept 267 = .ok (.iconst 0, 1) := by decide +kernel
theorem dL_kept_268 : decode cL_kept 268 = .ok (.invokestatic 108, 3) := by decide +kernel
theorem dL_kept_271 : decode cL_kept 271 = .ok (.l2i, 1) := by decide +kernel
theorem dL_kept_272 : decode cL_kept 272 = .ok (.aload_n 0, 1) := by decide +kernel
theorem dL_kept_273 : decode cL_kept 273 = .ok (.iload 14, 2) := by decide +kernel
theorem dL_kept_275 : decode cL_kept 275 = .ok (.iconst 1, 1) := by decide +kernel
theorem dL_kept_276 : decode cL_kept 276 = .ok (.invokestatic 108, 3) := by decide +kernel
theorem dL_kept_279 : decode cL_kept 279 = .ok (.l2i, 1) := by decide +kernel
theorem dL_kept_280 : decode cL_kept 280 = .ok (.iconst 0, 1) := by decide +kernel
theorem dL_kept_281 : decode cL_kept 281 = .ok (.invokestatic 118, 3) := by decide +kernel
theorem dL_kept_284 : decode cL_kept 284 = .ok (.iload 16, 2) := by decide +kernel
theorem dL_kept_286 : decode cL_kept 286 = .ok (.i2l, 1) := by decide +kernel
theorem dL_kept_287 : decode cL_kept 287 = .ok (.lcmp, 1) := by decide +kernel
theorem dL_kept_288 : decode cL_kept 288 = .ok (.ifCond .ne 7, 3) := by decide +kernel
theorem dL_kept_291 : decode cL_kept 291 = .ok (.iconst 1, 1) := by decide +kernel
theorem dL_kept_292 : decode cL_kept 292 = .ok (.goto 4, 3) := by decide +kernel
theorem dL_kept_295 : decode cL_kept 295 = .ok (.iconst 0, 1) := by decide +kernel
theorem dL_kept_296 : decode cL_kept 296 = .ok (.istore_n 2, 1) := by decide +kernel
theorem dL_kept_297 : decode cL_kept 297 = .ok (.iconst 0, 1) := by decide +kernel
theorem dL_kept_298 : decode cL_kept 298 = .ok (.istore 18, 2) := by decide +kernel
theorem dL_kept_300 : decode cL_kept 300 = .ok (.iload 18, 2) := by decide +kernel
theorem dL_kept_302 : decode cL_kept 302 = .ok (.iload 14, 2) := by decide +kernel
theorem dL_kept_304 : decode cL_kept 304 = .ok (.if_icmp .ge 107, 3) := by decide +kernel
theorem dL_kept_307 : decode cL_kept 307 = .ok (.iload_n 2, 1) := by decide +kernel
theorem dL_kept_308 : decode cL_kept 308 = .ok (.ifCond .eq 103, 3) := by decide +kernel
theorem dL_kept_311 : decode cL_kept 311 = .ok (.iload 15, 2) := by decide +kernel
theorem dL_kept_313 : decode cL_kept 313 = .ok (.ifCond .eq 98, 3) := by decide +kernel
theorem dL_kept_316 : decode cL_kept 316 = .ok (.aload_n 0, 1) := by decide +kernel
theorem dL_kept_317 : decode cL_kept 317 = .ok (.iload 18, 2) := by decide +kernel
theorem dL_kept_319 : decode cL_kept 319 = .ok (.bipush 6, 2) := by decide +kernel
theorem dL_kept_321 : decode cL_kept 321 = .ok (.invokestatic 108, 3) := by decide +kernel
theorem dL_kept_324 : decode cL_kept 324 = .ok (.ldc2_w 155, 3) := by decide +kernel
theorem dL_kept_327 : decode cL_kept 327 = .ok (.lcmp, 1) := by decide +kernel
theorem dL_kept_328 : decode cL_kept 328 = .ok (.ifCond .ge 43, 3) := by decide +kernel
theorem dL_kept_331 : decode cL_kept 331 = .ok (.aload_n 0, 1) := by decide +kernel
theorem dL_kept_332 : decode cL_kept 332 = .ok (.iload 18, 2) := by decide +kernel
theorem dL_kept_334 : decode cL_kept 334 = .ok (.iconst 0, 1) := by decide +kernel
theorem dL_kept_335 : decode cL_kept 335 = .ok (.invokestatic 108, 3) := by decide +kernel
theorem dL_kept_338 : decode cL_kept 338 = .ok (.aload_n 0, 1) := by decide +kernel
theorem dL_kept_339 : decode cL_kept 339 = .ok (.iload 14, 2) := by decide +kernel
theorem dL_kept_341 : decode cL_kept 341 = .ok (.iconst 0, 1) := by decide +kernel
theorem dL_kept_342 : decode cL_kept 342 = .ok (.invokestatic 108, 3) := by decide +kernel
theorem dL_kept_345 : decode cL_kept 345 = .ok (.lcmp, 1) := by decide +kernel
theorem dL_kept_346 : decode cL_kept 346 = .ok (.ifCond .ne 25, 3) := by decide +kernel
theorem dL_kept_349 : decode cL_kept 349 = .ok (.aload_n 0, 1) := by decide +kernel
theorem dL_kept_350 : decode cL_kept 350 = .ok (.iload 18, 2) := by decide +kernel
theorem dL_kept_352 : decode cL_kept 352 = .ok (.iconst 1, 1) := by decide +kernel
theorem dL_kept_353 : decode cL_kept 353 = .ok (.invokestatic 108, 3) := by decide +kernel
theorem dL_kept_356 : decode cL_kept 356 = .ok (.aload_n 0, 1) := by decide +kernel
theorem dL_kept_357 : decode cL_kept 357 = .ok (.iload 14, 2) := by decide +kernel
theorem dL_kept_359 : decode cL_kept 359 = .ok (.iconst 1, 1) := by decide +kernel
theorem dL_kept_360 : decode cL_kept 360 = .ok (.invokestatic 108, 3) := by decide +kernel
theorem dL_kept_363 : decode cL_kept 363 = .ok (.lcmp, 1) := by decide +kernel
theorem dL_kept_364 : decode cL_kept 364 = .ok (.ifCond .ne 7, 3) := by decide +kernel
theorem dL_kept_367 : decode cL_kept 367 = .ok (.iconst 1, 1) := by decide +kernel
theorem dL_kept_368 : decode cL_kept 368 = .ok (.goto 4, 3) := by decide +kernel
theorem dL_kept_371 : decode cL_kept 371 = .ok (.iconst 0, 1) := by decide +kernel
theorem dL_kept_372 : decode cL_kept 372 = .ok (.istore 19, 2) := by decide +kernel
theorem dL_kept_374 : decode cL_kept 374 = .ok (.iload 19, 2) := by decide +kernel
theorem dL_kept_376 : decode cL_kept 376 = .ok (.ifCond .eq 23, 3) := by decide +kernel
theorem dL_kept_379 : decode cL_kept 379 = .ok (.aload_n 0, 1) := by decide +kernel
theorem dL_kept_380 : decode cL_kept 380 = .ok (.aload_n 0, 1) := by decide +kernel
theorem dL_kept_381 : decode cL_kept 381 = .ok (.iload 18, 2) := by decide +kernel
theorem dL_kept_383 : decode cL_kept 383 = .ok (.iconst 3, 1) := by decide +kernel
theorem dL_kept_384 : decode cL_kept 384 = .ok (.invokestatic 108, 3) := by decide +kernel
theorem dL_kept_387 : decode cL_kept 387 = .ok (.l2i, 1) := by decide +kernel
theorem dL_kept_388 : decode cL_kept 388 = .ok (.iconst 2, 1) := by decide +kernel
theorem dL_kept_389 : decode cL_kept 389 = .ok (.invokestatic 105, 3) := by decide +kernel
theorem dL_kept_392 : decode cL_kept 392 = .ok (.iload 17, 2) := by decide +kernel
theorem dL_kept_394 : decode cL_kept 394 = .ok (.i2l, 1) := by decide +kernel
theorem dL_kept_395 : decode cL_kept 395 = .ok (.lcmp, 1) := by decide +kernel
theorem dL_kept_396 : decode cL_kept 396 = .ok (.ifCond .eq 7, 3) := by decide +kernel
theorem dL_kept_399 : decode cL_kept 399 = .ok (.iconst 1, 1) := by decide +kernel
theorem dL_kept_400 : decode cL_kept 400 = .ok (.goto 4, 3) := by decide +kernel
theorem dL_kept_403 : decode cL_kept 403 = .ok (.iconst 0, 1) := by decide +kernel
theorem dL_kept_404 : decode cL_kept 404 = .ok (.istore_n 2, 1) := by decide +kernel
theorem dL_kept_405 : decode cL_kept 405 = .ok (.iinc 18 1, 3) := by decide +kernel
theorem dL_kept_408 : decode cL_kept 408 = .ok (.goto (-108), 3) := by decide +kernel
theorem dL_kept_411 : decode cL_kept 411 = .ok (.lload_n 3, 1) := by decide +kernel
theorem dL_kept_412 : decode cL_kept 412 = .ok (.aload_n 0, 1) := by decide +kernel
theorem dL_kept_413 : decode cL_kept 413 = .ok (.iload 14, 2) := by decide +kernel
theorem dL_kept_415 : decode cL_kept 415 = .ok (.iconst 4, 1) := by decide +kernel
theorem dL_kept_416 : decode cL_kept 416 = .ok (.invokestatic 108, 3) := by decide +kernel
theorem dL_kept_419 : decode cL_kept 419 = .ok (.ladd, 1) := by decide +kernel
theorem dL_kept_420 : decode cL_kept 420 = .ok (.lstore_n 3, 1) := by decide +kernel
theorem dL_kept_421 : decode cL_kept 421 = .ok (.iload 13, 2) := by decide +kernel
theorem dL_kept_423 : decode cL_kept 423 = .ok (.iload 15, 2) := by decide +kernel
theorem dL_kept_425 : decode cL_kept 425 = .ok (.ifCond .eq 7, 3) := by decide +kernel
theorem dL_kept_428 : decode cL_kept 428 = .ok (.iconst 1, 1) := by decide +kernel
theorem dL_kept_429 : decode cL_kept 429 = .ok (.goto 4, 3) := by decide +kernel
theorem dL_kept_432 : decode cL_kept 432 = .ok (.iconst 0, 1) := by decide +kernel
theorem dL_kept_433 : decode cL_kept 433 = .ok (.iadd, 1) := by decide +kernel
theorem dL_kept_434 : decode cL_kept 434 = .ok (.istore 13, 2) := by decide +kernel
theorem dL_kept_436 : decode cL_kept 436 = .ok (.lload 11, 2) := by decide +kernel
theorem dL_kept_438 : decode cL_kept 438 = .ok (.aload_n 0, 1) := by decide +kernel
theorem dL_kept_439 : decode cL_kept 439 = .ok (.iload 14, 2) := by decide +kernel
theorem dL_kept_441 : decode cL_kept 441 = .ok (.bipush 7, 2) := by decide +kernel
theorem dL_kept_443 : decode cL_kept 443 = .ok (.invokestatic 108, 3) := by decide +kernel
theorem dL_kept_446 : decode cL_kept 446 = .ok (.ladd, 1) := by decide +kernel
theorem dL_kept_447 : decode cL_kept 447 = .ok (.lstore 11, 2) := by decide +kernel
theorem dL_kept_449 : decode cL_kept 449 = .ok (.iinc 14 1, 3) := by decide +kernel
theorem dL_kept_452 : decode cL_kept 452 = .ok (.goto (-423), 3) := by decide +kernel
theorem dL_kept_455 : decode cL_kept 455 = .ok (.lconst 0, 1) := by decide +kernel
theorem dL_kept_456 : decode cL_kept 456 = .ok (.lstore 14, 2) := by decide +kernel
theorem dL_kept_458 : decode cL_kept 458 = .ok (.lconst 0, 1) := by decide +kernel
theorem dL_kept_459 : decode cL_kept 459 = .ok (.lstore 16, 2) := by decide +kernel
theorem dL_kept_461 : decode cL_kept 461 = .ok (.lconst 0, 1) := by decide +kernel
theorem dL_kept_462 : decode cL_kept 462 = .ok (.lstore 18, 2) := by decide +kernel
theorem dL_kept_464 : decode cL_kept 464 = .ok (.iconst 0, 1) := by decide +kernel
theorem dL_kept_465 : decode cL_kept 465 = .ok (.istore 20, 2) := by decide +kernel
theorem dL_kept_467 : decode cL_kept 467 = .ok (.iload 20, 2) := by decide +kernel
theorem dL_kept_469 : decode cL_kept 469 = .ok (.i2l, 1) := by decide +kernel
theorem dL_kept_470 : decode cL_kept 470 = .ok (.aload_n 0, 1) := by decide +kernel
theorem dL_kept_471 : decode cL_kept 471 = .ok (.iconst 0, 1) := by decide +kernel
theorem dL_kept_472 : decode cL_kept 472 = .ok (.invokestatic 100, 3) := by decide +kernel
theorem dL_kept_475 : decode cL_kept 475 = .ok (.lcmp, 1) := by decide +kernel
theorem dL_kept_476 : decode cL_kept 476 = .ok (.ifCond .ge 163, 3) := by decide +kernel
theorem dL_kept_479 : decode cL_kept 479 = .ok (.iload_n 2, 1) := by decide +kernel
theorem dL_kept_480 : decode cL_kept 480 = .ok (.ifCond .eq 159, 3) := by decide +kernel
theorem dL_kept_483 : decode cL_kept 483 = .ok (.aload_n 0, 1) := by decide +kernel
theorem dL_kept_484 : decode cL_kept 484 = .ok (.iload 20, 2) := by decide +kernel
theorem dL_kept_486 : decode cL_kept 486 = .ok (.iconst 3, 1) := by decide +kernel
theorem dL_kept_487 : decode cL_kept 487 = .ok (.invokestatic 105, 3) := by decide +kernel
theorem dL_kept_490 : decode cL_kept 490 = .ok (.lconst 0, 1) := by decide +kernel
theorem dL_kept_491 : decode cL_kept 491 = .ok (.ldc2_w 167, 3) := by decide +kernel
theorem dL_kept_494 : decode cL_kept 494 = .ok (.invokestatic 163, 3) := by decide +kernel
theorem dL_kept_497 : decode cL_kept 497 = .ok (.ifCond .eq 42, 3) := by decide +kernel
theorem dL_kept_500 : decode cL_kept 500 = .ok (.aload_n 0, 1) := by decide +kernel
theorem dL_kept_501 : decode cL_kept 501 = .ok (.iload 20, 2) := by decide +kernel
theorem dL_kept_503 : decode cL_kept 503 = .ok (.bipush 6, 2) := by decide +kernel
theorem dL_kept_505 : decode cL_kept 505 = .ok (.invokestatic 105, 3) := by decide +kernel
theorem dL_kept_508 : decode cL_kept 508 = .ok (.aload_n 0, 1) := by decide +kernel
theorem dL_kept_509 : decode cL_kept 509 = .ok (.iload 20, 2) := by decide +kernel
theorem dL_kept_511 : decode cL_kept 511 = .ok (.iconst 5, 1) := by decide +kernel
theorem dL_kept_512 : decode cL_kept 512 = .ok (.invokestatic 105, 3) := by decide +kernel
theorem dL_kept_515 : decode cL_kept 515 = .ok (.lcmp, 1) := by decide +kernel
theorem dL_kept_516 : decode cL_kept 516 = .ok (.ifCond .gt 23, 3) := by decide +kernel
theorem dL_kept_519 : decode cL_kept 519 = .ok (.aload_n 0, 1) := by decide +kernel
theorem dL_kept_520 : decode cL_kept 520 = .ok (.iload 20, 2) := by decide +kernel
theorem dL_kept_522 : decode cL_kept 522 = .ok (.iconst 4, 1) := by decide +kernel
theorem dL_kept_523 : decode cL_kept 523 = .ok (.invokestatic 105, 3) := by decide +kernel
theorem dL_kept_526 : decode cL_kept 526 = .ok (.aload_n 0, 1) := by decide +kernel
theorem dL_kept_527 : decode cL_kept 527 = .ok (.iconst 0, 1) := by decide +kernel
theorem dL_kept_528 : decode cL_kept 528 = .ok (.invokestatic 100, 3) := by decide +kernel
theorem dL_kept_531 : decode cL_kept 531 = .ok (.lcmp, 1) := by decide +kernel
theorem dL_kept_532 : decode cL_kept 532 = .ok (.ifCond .ge 7, 3) := by decide +kernel
theorem dL_kept_535 : decode cL_kept 535 = .ok (.iconst 1, 1) := by decide +kernel
theorem dL_kept_536 : decode cL_kept 536 = .ok (.goto 4, 3) := by decide +kernel
theorem dL_kept_539 : decode cL_kept 539 = .ok (.iconst 0, 1) := by decide +kernel
theorem dL_kept_540 : decode cL_kept 540 = .ok (.istore_n 2, 1) := by decide +kernel
theorem dL_kept_541 : decode cL_kept 541 = .ok (.lload 14, 2) := by decide +kernel
theorem dL_kept_543 : decode cL_kept 543 = .ok (.aload_n 0, 1) := by decide +kernel
theorem dL_kept_544 : decode cL_kept 544 = .ok (.iload 20, 2) := by decide +kernel
theorem dL_kept_546 : decode cL_kept 546 = .ok (.iconst 3, 1) := by decide +kernel
theorem dL_kept_547 : decode cL_kept 547 = .ok (.invokestatic 105, 3) := by decide +kernel
theorem dL_kept_550 : decode cL_kept 550 = .ok (.ladd, 1) := by decide +kernel
theorem dL_kept_551 : decode cL_kept 551 = .ok (.lstore 14, 2) := by decide +kernel
theorem dL_kept_553 : decode cL_kept 553 = .ok (.lload 9, 2) := by decide +kernel
theorem dL_kept_555 : decode cL_kept 555 = .ok (.aload_n 0, 1) := by decide +kernel
theorem dL_kept_556 : decode cL_kept 556 = .ok (.iload 20, 2) := by decide +kernel
theorem dL_kept_558 : decode cL_kept 558 = .ok (.iconst 5, 1) := by decide +kernel
theorem dL_kept_559 : decode cL_kept 559 = .ok (.invokestatic 105, 3) := by decide +kernel
theorem dL_kept_562 : decode cL_kept 562 = .ok (.ladd, 1) := by decide +kernel
theorem dL_kept_563 : decode cL_kept 563 = .ok (.lstore 9, 2) := by decide +kernel
theorem dL_kept_565 : decode cL_kept 565 = .ok (.lload 16, 2) := by decide +kernel
theorem dL_kept_567 : decode cL_kept 567 = .ok (.aload_n 0, 1) := by decide +kernel
theorem dL_kept_568 : decode cL_kept 568 = .ok (.iload 20, 2) := by decide +kernel
theorem dL_kept_570 : decode cL_kept 570 = .ok (.bipush 6, 2) := by decide +kernel
theorem dL_kept_572 : decode cL_kept 572 = .ok (.invokestatic 105, 3) := by decide +kernel
theorem dL_kept_575 : decode cL_kept 575 = .ok (.ladd, 1) := by decide +kernel
theorem dL_kept_576 : decode cL_kept 576 = .ok (.lstore 16, 2) := by decide +kernel
theorem dL_kept_578 : decode cL_kept 578 = .ok (.lload 5, 2) := by decide +kernel
theorem dL_kept_580 : decode cL_kept 580 = .ok (.aload_n 0, 1) := by decide +kernel
theorem dL_kept_581 : decode cL_kept 581 = .ok (.iload 20, 2) := by decide +kernel
theorem dL_kept_583 : decode cL_kept 583 = .ok (.bipush 7, 2) := by decide +kernel
theorem dL_kept_585 : decode cL_kept 585 = .ok (.invokestatic 105, 3) := by decide +kernel
theorem dL_kept_588 : decode cL_kept 588 = .ok (.ladd, 1) := by decide +kernel
theorem dL_kept_589 : decode cL_kept 589 = .ok (.lstore 5, 2) := by decide +kernel
theorem dL_kept_591 : decode cL_kept 591 = .ok (.lload 7, 2) := by decide +kernel
theorem dL_kept_593 : decode cL_kept 593 = .ok (.aload_n 0, 1) := by decide +kernel
theorem dL_kept_594 : decode cL_kept 594 = .ok (.iload 20, 2) := by decide +kernel
theorem dL_kept_596 : decode cL_kept 596 = .ok (.bipush 8, 2) := by decide +kernel
theorem dL_kept_598 : decode cL_kept 598 = .ok (.invokestatic 105, 3) := by decide +kernel
theorem dL_kept_601 : decode cL_kept 601 = .ok (.ladd, 1) := by decide +kernel
theorem dL_kept_602 : decode cL_kept 602 = .ok (.lstore 7, 2) := by decide +kernel
theorem dL_kept_604 : decode cL_kept 604 = .ok (.aload_n 0, 1) := by decide +kernel
theorem dL_kept_605 : decode cL_kept 605 = .ok (.iload 20, 2) := by decide +kernel
theorem dL_kept_607 : decode cL_kept 607 = .ok (.bipush 7, 2) := by decide +kernel
theorem dL_kept_609 : decode cL_kept 609 = .ok (.invokestatic 105, 3) := by decide +kernel
theorem dL_kept_612 : decode cL_kept 612 = .ok (.lload 18, 2) := by decide +kernel
theorem dL_kept_614 : decode cL_kept 614 = .ok (.lcmp, 1) := by decide +kernel
theorem dL_kept_615 : decode cL_kept 615 = .ok (.ifCond .le 14, 3) := by decide +kernel
theorem dL_kept_618 : decode cL_kept 618 = .ok (.aload_n 0, 1) := by decide +kernel
theorem dL_kept_619 : decode cL_kept 619 = .ok (.iload 20, 2) := by decide +kernel
theorem dL_kept_621 : decode cL_kept 621 = .ok (.bipush 7, 2) := by decide +kernel
theorem dL_kept_623 : decode cL_kept 623 = .ok (.invokestatic 105, 3) := by decide +kernel
theorem dL_kept_626 : decode cL_kept 626 = .ok (.goto 5, 3) := by decide +kernel
theorem dL_kept_629 : decode cL_kept 629 = .ok (.lload 18, 2) := by decide +kernel
theorem dL_kept_631 : decode cL_kept 631 = .ok (.lstore 18, 2) := by decide +kernel
theorem dL_kept_633 : decode cL_kept 633 = .ok (.iinc 20 1, 3) := by decide +kernel
theorem dL_kept_636 : decode cL_kept 636 = .ok (.goto (-169), 3) := by decide +kernel
theorem dL_kept_639 : decode cL_kept 639 = .ok (.lconst 0, 1) := by decide +kernel
theorem dL_kept_640 : decode cL_kept 640 = .ok (.lstore 20, 2) := by decide +kernel
theorem dL_kept_642 : decode cL_kept 642 = .ok (.iconst 0, 1) := by decide +kernel
theorem dL_kept_643 : decode cL_kept 643 = .ok (.istore 22, 2) := by decide +kernel
theorem dL_kept_645 : decode cL_kept 645 = .ok (.iload 22, 2) := by decide +kernel
theorem dL_kept_647 : decode cL_kept 647 = .ok (.iconst 5, 1) := by decide +kernel
theorem dL_kept_648 : decode cL_kept 648 = .ok (.if_icmp .ge 22, 3) := by decide +kernel
theorem dL_kept_651 : decode cL_kept 651 = .ok (.lload 20, 2) := by decide +kernel
theorem dL_kept_653 : decode cL_kept 653 = .ok (.aload_n 0, 1) := by decide +kernel
theorem dL_kept_654 : decode cL_kept 654 = .ok (.iconst 2, 1) := by decide +kernel
theorem dL_kept_655 : decode cL_kept 655 = .ok (.iload 22, 2) := by decide +kernel
theorem dL_kept_657 : decode cL_kept 657 = .ok (.iadd, 1) := by decide +kernel
theorem dL_kept_658 : decode cL_kept 658 = .ok (.invokestatic 100, 3) := by decide +kernel
theorem dL_kept_661 : decode cL_kept 661 = .ok (.ladd, 1) := by decide +kernel
theorem dL_kept_662 : decode cL_kept 662 = .ok (.lstore 20, 2) := by decide +kernel
theorem dL_kept_664 : decode cL_kept 664 = .ok (.iinc 22 1, 3) := by decide +kernel
theorem dL_kept_667 : decode cL_kept 667 = .ok (.goto (-22), 3) := by decide +kernel
theorem dL_kept_670 : decode cL_kept 670 = .ok (.iconst 0, 1) := by decide +kernel
theorem dL_kept_671 : decode cL_kept 671 = .ok (.istore 22, 2) := by decide +kernel
theorem dL_kept_673 : decode cL_kept 673 = .ok (.iload 22, 2) := by decide +kernel
theorem dL_kept_675 : decode cL_kept 675 = .ok (.iload 13, 2) := by decide +kernel
theorem dL_kept_677 : decode cL_kept 677 = .ok (.if_icmp .ge 78, 3) := by decide +kernel
theorem dL_kept_680 : decode cL_kept 680 = .ok (.iload_n 2, 1) := by decide +kernel
theorem dL_kept_681 : decode cL_kept 681 = .ok (.ifCond .eq 74, 3) := by decide +kernel
theorem dL_kept_684 : decode cL_kept 684 = .ok (.aload_n 0, 1) := by decide +kernel
theorem dL_kept_685 : decode cL_kept 685 = .ok (.iload 22, 2) := by decide +kernel
theorem dL_kept_687 : decode cL_kept 687 = .ok (.invokestatic 116, 3) := by decide +kernel
theorem dL_kept_690 : decode cL_kept 690 = .ok (.l2i, 1) := by decide +kernel
theorem dL_kept_691 : decode cL_kept 691 = .ok (.istore 23, 2) := by decide +kernel
theorem dL_kept_693 : decode cL_kept 693 = .ok (.iload 23, 2) := by decide +kernel
theorem dL_kept_695 : decode cL_kept 695 = .ok (.ifCond .lt 52, 3) := by decide +kernel
theorem dL_kept_698 : decode cL_kept 698 = .ok (.aload_n 0, 1) := by decide +kernel
theorem dL_kept_699 : decode cL_kept 699 = .ok (.iload 23, 2) := by decide +kernel
theorem dL_kept_701 : decode cL_kept 701 = .ok (.bipush 6, 2) := by decide +kernel
theorem dL_kept_703 : decode cL_kept 703 = .ok (.invokestatic 108, 3) := by decide +kernel
theorem dL_kept_706 : decode cL_kept 706 = .ok (.ldc2_w 155, 3) := by decide +kernel
theorem dL_kept_709 : decode cL_kept 709 = .ok (.lcmp, 1) := by decide +kernel
theorem dL_kept_710 : decode cL_kept 710 = .ok (.ifCond .ge 37, 3) := by decide +kernel
theorem dL_kept_713 : decode cL_kept 713 = .ok (.iload 22, 2) := by decide +kernel
theorem dL_kept_715 : decode cL_kept 715 = .ok (.ifCond .eq 28, 3) := by decide +kernel
theorem dL_kept_718 : decode cL_kept 718 = .ok (.aload_n 0, 1) := by decide +kernel
theorem dL_kept_719 : decode cL_kept 719 = .ok (.aload_n 0, 1) := by decide +kernel
theorem dL_kept_720 : decode cL_kept 720 = .ok (.iload 22, 2) := by decide +kernel
theorem dL_kept_722 : decode cL_kept 722 = .ok (.iconst 1, 1) := by decide +kernel
theorem dL_kept_723 : decode cL_kept 723 = .ok (.isub, 1) := by decide +kernel
theorem dL_kept_724 : decode cL_kept 724 = .ok (.invokestatic 116, 3) := by decide +kernel
theorem dL_kept_727 : decode cL_kept 727 = .ok (.l2i, 1) := by decide +kernel
theorem dL_kept_728 : decode cL_kept 728 = .ok (.iconst 0, 1) := by decide +kernel
theorem dL_kept_729 : decode cL_kept 729 = .ok (.invokestatic 114, 3) := by decide +kernel
theorem dL_kept_732 : decode cL_kept 732 = .ok (.aload_n 0, 1) := by decide +kernel
theorem dL_kept_733 : decode cL_kept 733 = .ok (.iload 23, 2) := by decide +kernel
theorem dL_kept_735 : decode cL_kept 735 = .ok (.iconst 0, 1) := by decide +kernel
theorem dL_kept_736 : decode cL_kept 736 = .ok (.invokestatic 114, 3) := by decide +kernel
theorem dL_kept_739 : decode cL_kept 739 = .ok (.lcmp, 1) := by decide +kernel
theorem dL_kept_740 : decode cL_kept 740 = .ok (.ifCond .gt 7, 3) := by decide +kernel
theorem dL_kept_743 : decode cL_kept 743 = .ok (.iconst 1, 1) := by decide +kernel
theorem dL_kept_744 : decode cL_kept 744 = .ok (.goto 4, 3) := by decide +kernel
theorem dL_kept_747 : decode cL_kept 747 = .ok (.iconst 0, 1) := by decide +kernel
theorem dL_kept_748 : decode cL_kept 748 = .ok (.istore_n 2, 1) := by decide +kernel
theorem dL_kept_749 : decode cL_kept 749 = .ok (.iinc 22 1, 3) := by decide +kernel
theorem dL_kept_752 : decode cL_kept 752 = .ok (.goto (-79), 3) := by decide +kernel
theorem dL_kept_755 : decode cL_kept 755 = .ok (.iload_n 2, 1) := by decide +kernel
theorem dL_kept_756 : decode cL_kept 756 = .ok (.ifCond .eq 143, 3) := by decide +kernel
theorem dL_kept_759 : decode cL_kept 759 = .ok (.aload_n 0, 1) := by decide +kernel
theorem dL_kept_760 : decode cL_kept 760 = .ok (.iload 13, 2) := by decide +kernel
theorem dL_kept_762 : decode cL_kept 762 = .ok (.invokestatic 116, 3) := by decide +kernel
theorem dL_kept_765 : decode cL_kept 765 = .ok (.ldc2_w 159, 3) := by decide +kernel
theorem dL_kept_768 : decode cL_kept 768 = .ok (.lcmp, 1) := by decide +kernel
theorem dL_kept_769 : decode cL_kept 769 = .ok (.ifCond .ne 130, 3) := by decide +kernel
theorem dL_kept_772 : decode cL_kept 772 = .ok (.lload 14, 2) := by decide +kernel
theorem dL_kept_774 : decode cL_kept 774 = .ok (.iload 13, 2) := by decide +kernel
theorem dL_kept_776 : decode cL_kept 776 = .ok (.i2l, 1) := by decide +kernel
theorem dL_kept_777 : decode cL_kept 777 = .ok (.lcmp, 1) := by decide +kernel
theorem dL_kept_778 : decode cL_kept 778 = .ok (.ifCond .ne 121, 3) := by decide +kernel
theorem dL_kept_781 : decode cL_kept 781 = .ok (.lload 9, 2) := by decide +kernel
theorem dL_kept_783 : decode cL_kept 783 = .ok (.iload_n 1, 1) := by decide +kernel
theorem dL_kept_784 : decode cL_kept 784 = .ok (.i2l, 1) := by decide +kernel
theorem dL_kept_785 : decode cL_kept 785 = .ok (.lcmp, 1) := by decide +kernel
theorem dL_kept_786 : decode cL_kept 786 = .ok (.ifCond .ne 113, 3) := by decide +kernel
theorem dL_kept_789 : decode cL_kept 789 = .ok (.lload 16, 2) := by decide +kernel
theorem dL_kept_791 : decode cL_kept 791 = .ok (.lload 11, 2) := by decide +kernel
theorem dL_kept_793 : decode cL_kept 793 = .ok (.lcmp, 1) := by decide +kernel
theorem dL_kept_794 : decode cL_kept 794 = .ok (.ifCond .ne 105, 3) := by decide +kernel
theorem dL_kept_797 : decode cL_kept 797 = .ok (.lload 5, 2) := by decide +kernel
theorem dL_kept_799 : decode cL_kept 799 = .ok (.aload_n 0, 1) := by decide +kernel
theorem dL_kept_800 : decode cL_kept 800 = .ok (.bipush 9, 2) := by decide +kernel
theorem dL_kept_802 : decode cL_kept 802 = .ok (.invokestatic 100, 3) := by decide +kernel
theorem dL_kept_805 : decode cL_kept 805 = .ok (.lcmp, 1) := by decide +kernel
theorem dL_kept_806 : decode cL_kept 806 = .ok (.ifCond .ne 93, 3) := by decide +kernel
theorem dL_kept_809 : decode cL_kept 809 = .ok (.lload 7, 2) := by decide +kernel
theorem dL_kept_811 : decode cL_kept 811 = .ok (.lload 5, 2) := by decide +kernel
theorem dL_kept_813 : decode cL_kept 813 = .ok (.lcmp, 1) := by decide +kernel
theorem dL_kept_814 : decode cL_kept 814 = .ok (.ifCond .ne 85, 3) := by decide +kernel
theorem dL_kept_817 : decode cL_kept 817 = .ok (.lload_n 3, 1) := by decide +kernel
theorem dL_kept_818 : decode cL_kept 818 = .ok (.aload_n 0, 1) := by decide +kernel
theorem dL_kept_819 : decode cL_kept 819 = .ok (.bipush 8, 2) := by decide +kernel
theorem dL_kept_821 : decode cL_kept 821 = .ok (.invokestatic 100, 3) := by decide +kernel
theorem dL_kept_824 : decode cL_kept 824 = .ok (.lcmp, 1) := by decide +kernel
theorem dL_kept_825 : decode cL_kept 825 = .ok (.ifCond .ne 74, 3) := by decide +kernel
theorem dL_kept_828 : decode cL_kept 828 = .ok (.lload 20, 2) := by decide +kernel
theorem dL_kept_830 : decode cL_kept 830 = .ok (.iload_n 1, 1) := by decide +kernel
theorem dL_kept_831 : decode cL_kept 831 = .ok (.i2l, 1) := by decide +kernel
theorem dL_kept_832 : decode cL_kept 832 = .ok (.lcmp, 1) := by decide +kernel
theorem dL_kept_833 : decode cL_kept 833 = .ok (.ifCond .ne 66, 3) := by decide +kernel
theorem dL_kept_836 : decode cL_kept 836 = .ok (.aload_n 0, 1) := by decide +kernel
theorem dL_kept_837 : decode cL_kept 837 = .ok (.invokevirtual 169, 3) := by decide +kernel
theorem dL_kept_840 : decode cL_kept 840 = .ok (.iconst (-1), 1) := by decide +kernel
theorem dL_kept_841 : decode cL_kept 841 = .ok (.if_icmp .ne 7, 3) := by decide +kernel
theorem dL_kept_844 : decode cL_kept 844 = .ok (.iconst 1, 1) := by decide +kernel
theorem dL_kept_845 : decode cL_kept 845 = .ok (.goto 4, 3) := by decide +kernel
theorem dL_kept_848 : decode cL_kept 848 = .ok (.iconst 0, 1) := by decide +kernel
theorem dL_kept_849 : decode cL_kept 849 = .ok (.iload_n 1, 1) := by decide +kernel
theorem dL_kept_850 : decode cL_kept 850 = .ok (.ifCond .ne 7, 3) := by decide +kernel
theorem dL_kept_853 : decode cL_kept 853 = .ok (.iconst 1, 1) := by decide +kernel
theorem dL_kept_854 : decode cL_kept 854 = .ok (.goto 4, 3) := by decide +kernel
theorem dL_kept_857 : decode cL_kept 857 = .ok (.iconst 0, 1) := by decide +kernel
theorem dL_kept_858 : decode cL_kept 858 = .ok (.if_icmp .ne 41, 3) := by decide +kernel
theorem dL_kept_861 : decode cL_kept 861 = .ok (.lload 18, 2) := by decide +kernel
theorem dL_kept_863 : decode cL_kept 863 = .ok (.lconst 0, 1) := by decide +kernel
theorem dL_kept_864 : decode cL_kept 864 = .ok (.lcmp, 1) := by decide +kernel
theorem dL_kept_865 : decode cL_kept 865 = .ok (.ifCond .ne 14, 3) := by decide +kernel
theorem dL_kept_868 : decode cL_kept 868 = .ok (.aload_n 0, 1) := by decide +kernel
theorem dL_kept_869 : decode cL_kept 869 = .ok (.invokevirtual 172, 3) := by decide +kernel
theorem dL_kept_872 : decode cL_kept 872 = .ok (.iconst (-1), 1) := by decide +kernel
theorem dL_kept_873 : decode cL_kept 873 = .ok (.if_icmp .ne 26, 3) := by decide +kernel
theorem dL_kept_876 : decode cL_kept 876 = .ok (.goto 19, 3) := by decide +kernel
theorem dL_kept_879 : decode cL_kept 879 = .ok (.aload_n 0, 1) := by decide +kernel
theorem dL_kept_880 : decode cL_kept 880 = .ok (.aload_n 0, 1) := by decide +kernel
theorem dL_kept_881 : decode cL_kept 881 = .ok (.invokevirtual 172, 3) := by decide +kernel
theorem dL_kept_884 : decode cL_kept 884 = .ok (.bipush 7, 2) := by decide +kernel
theorem dL_kept_886 : decode cL_kept 886 = .ok (.invokestatic 105, 3) := by decide +kernel
theorem dL_kept_889 : decode cL_kept 889 = .ok (.lload 18, 2) := by decide +kernel
theorem dL_kept_891 : decode cL_kept 891 = .ok (.lcmp, 1) := by decide +kernel
theorem dL_kept_892 : decode cL_kept 892 = .ok (.ifCond .ne 7, 3) := by decide +kernel
theorem dL_kept_895 : decode cL_kept 895 = .ok (.iconst 1, 1) := by decide +kernel
theorem dL_kept_896 : decode cL_kept 896 = .ok (.goto 4, 3) := by decide +kernel
theorem dL_kept_899 : decode cL_kept 899 = .ok (.iconst 0, 1) := by decide +kernel
theorem dL_kept_900 : decode cL_kept 900 = .ok (.ireturn, 1) := by decide +kernel
theorem dL_follows_0 : decode cL_follows 0 = .ok (.aload_n 0, 1) := by decide +kernel
theorem dL_follows_1 : decode cL_follows 1 = .ok (.invokestatic 110, 3) := by decide +kernel
theorem dL_follows_4 : decode cL_follows 4 = .ok (.lstore_n 2, 1) := by decide +kernel
theorem dL_follows_5 : decode cL_follows 5 = .ok (.aload_n 0, 1) := by decide +kernel
theorem dL_follows_6 : decode cL_follows 6 = .ok (.iconst 1, 1) := by decide +kernel
theorem dL_follows_7 : decode cL_follows 7 = .ok (.invokestatic 149, 3) := by decide +kernel
theorem dL_follows_10 : decode cL_follows 10 = .ok (.aload_n 0, 1) := by decide +kernel
theorem dL_follows_11 : decode cL_follows 11 = .ok (.iconst 1, 1) := by decide +kernel
theorem dL_follows_12 : decode cL_follows 12 = .ok (.invokestatic 100, 3) := by decide +kernel
theorem dL_follows_15 : decode cL_follows 15 = .ok (.lcmp, 1) := by decide +kernel
theorem dL_follows_16 : decode cL_follows 16 = .ok (.ifCond .ne 36, 3) := by decide +kernel
theorem dL_follows_19 : decode cL_follows 19 = .ok (.aload_n 0, 1) := by decide +kernel
theorem dL_follows_20 : decode cL_follows 20 = .ok (.iload_n 1, 1) := by decide +kernel
theorem dL_follows_21 : decode cL_follows 21 = .ok (.i2l, 1) := by decide +kernel
theorem dL_follows_22 : decode cL_follows 22 = .ok (.bipush 6, 2) := by decide +kernel
theorem dL_follows_24 : decode cL_follows 24 = .ok (.invokestatic 146, 3) := by decide +kernel
theorem dL_follows_27 : decode cL_follows 27 = .ok (.aload_n 0, 1) := by decide +kernel
theorem dL_follows_28 : decode cL_follows 28 = .ok (.iload_n 1, 1) := by decide +kernel
theorem dL_follows_29 : decode cL_follows 29 = .ok (.i2l, 1) := by decide +kernel
theorem dL_follows_30 : decode cL_follows 30 = .ok (.bipush 6, 2) := by decide +kernel
theorem dL_follows_32 : decode cL_follows 32 = .ok (.invokestatic 146, 3) := by decide +kernel
theorem dL_follows_35 : decode cL_follows 35 = .ok (.lcmp, 1) := by decide +kernel
theorem dL_follows_36 : decode cL_follows 36 = .ok (.ifCond .ne 16, 3) := by decide +kernel
theorem dL_follows_39 : decode cL_follows 39 = .ok (.aload_n 0, 1) := by decide +kernel
theorem dL_follows_40 : decode cL_follows 40 = .ok (.invokestatic 110, 3) := by decide +kernel
theorem dL_follows_43 : decode cL_follows 43 = .ok (.lload_n 2, 1) := by decide +kernel
theorem dL_follows_44 : decode cL_follows 44 = .ok (.lcmp, 1) := by decide +kernel
theorem dL_follows_45 : decode cL_follows 45 = .ok (.ifCond .ne 7, 3) := by decide +kernel
theorem dL_follows_48 : decode cL_follows 48 = .ok (.iconst 1, 1) := by decide +kernel
theorem dL_follows_49 : decode cL_follows 49 = .ok (.goto 4, 3) := by decide +kernel
theorem dL_follows_52 : decode cL_follows 52 = .ok (.iconst 0, 1) := by decide +kernel
theorem dL_follows_53 : decode cL_follows 53 = .ok (.istore 4, 2) := by decide +kernel
theorem dL_follows_55 : decode cL_follows 55 = .ok (.aload_n 0, 1) := by decide +kernel
theorem dL_follows_56 : decode cL_follows 56 = .ok (.iconst 0, 1) := by decide +kernel
theorem dL_follows_57 : decode cL_follows 57 = .ok (.invokestatic 100, 3) := by decide +kernel
theorem dL_follows_60 : decode cL_follows 60 = .ok (.lconst 0, 1) := by decide +kernel
theorem dL_follows_61 : decode cL_follows 61 = .ok (.lcmp, 1) := by decide +kernel
theorem dL_follows_62 : decode cL_follows 62 = .ok (.ifCond .le 280, 3) := by decide +kernel
theorem dL_follows_65 : decode cL_follows 65 = .ok (.aload_n 0, 1) := by decide +kernel
theorem dL_follows_66 : decode cL_follows 66 = .ok (.bipush 7, 2) := by decide +kernel
theorem dL_follows_68 : decode cL_follows 68 = .ok (.invokestatic 100, 3) := by decide +kernel
theorem dL_follows_71 : decode cL_follows 71 = .ok (.ldc2_w 175, 3) := by decide +kernel
theorem dL_follows_74 : decode cL_follows 74 = .ok (.lcmp, 1) := by decide +kernel
theorem dL_follows_75 : decode cL_follows 75 = .ok (.ifCond .ge 267, 3) := by decide +kernel
theorem dL_follows_78 : decode cL_follows 78 = .ok (.iload 4, 2) := by decide +kernel
theorem dL_follows_80 : decode cL_follows 80 = .ok (.ifCond .eq 262, 3) := by decide +kernel
theorem dL_follows_83 : decode cL_follows 83 = .ok (.iload_n 1, 1) := by decide +kernel
theorem dL_follows_84 : decode cL_follows 84 = .ok (.aload_n 0, 1) := by decide +kernel
theorem dL_follows_85 : decode cL_follows 85 = .ok (.iconst 0, 1) := by decide +kernel
theorem dL_follows_86 : decode cL_follows 86 = .ok (.invokestatic 100, 3) := by decide +kernel
theorem dL_follows_89 : decode cL_follows 89 = .ok (.l2i, 1) := by decide +kernel
theorem dL_follows_90 : decode cL_follows 90 = .ok (.irem, 1) := by decide +kernel
theorem dL_follows_91 : decode cL_follows 91 = .ok (.istore 5, 2) := by decide +kernel
theorem dL_follows_93 : decode cL_follows 93 = .ok (.iload_n 1, 1) := by decide +kernel
theorem dL_follows_94 : decode cL_follows 94 = .ok (.bipush 12, 2) := by decide +kernel
theorem dL_follows_96 : decode cL_follows 96 = .ok (.idiv, 1) := by decide +kernel
theorem dL_follows_97 : decode cL_follows 97 = .ok (.aload_n 0, 1) := by decide +kernel
theorem dL_follows_98 : decode cL_follows 98 = .ok (.iconst 0, 1) := by decide +kernel
theorem dL_follows_99 : decode cL_follows 99 = .ok (.invokestatic 100, 3) := by decide +kernel
theorem dL_follows_102 : decode cL_follows 102 = .ok (.l2i, 1) := by decide +kernel
theorem dL_follows_103 : decode cL_follows 103 = .ok (.irem, 1) := by decide +kernel
theorem dL_follows_104 : decode cL_follows 104 = .ok (.istore 6, 2) := by decide +kernel
theorem dL_follows_106 : decode cL_follows 106 = .ok (.iconst 1, 1) := by decide +kernel
theorem dL_follows_107 : decode cL_follows 107 = .ok (.iload_n 1, 1) := by decide +kernel
theorem dL_follows_108 : decode cL_follows 108 = .ok (.iconst 3, 1) := by decide +kernel
theorem dL_follows_109 : decode cL_follows 109 = .ok (.idiv, 1) := by decide +kernel
theorem dL_follows_110 : decode cL_follows 110 = .ok (.iconst 2, 1) := by decide +kernel
theorem dL_follows_111 : decode cL_follows 111 = .ok (.irem, 1) := by decide +kernel
theorem dL_follows_112 : decode cL_follows 112 = .ok (.iadd, 1) := by decide +kernel
theorem dL_follows_113 : decode cL_follows 113 = .ok (.istore 7, 2) := by decide +kernel
theorem dL_follows_115 : decode cL_follows 115 = .ok (.aload_n 0, 1) := by decide +kernel
theorem dL_follows_116 : decode cL_follows 116 = .ok (.iload 5, 2) := by decide +kernel
theorem dL_follows_118 : decode cL_follows 118 = .ok (.iload 6, 2) := by decide +kernel
theorem dL_follows_120 : decode cL_follows 120 = .ok (.iload 7, 2) := by decide +kernel
theorem dL_follows_122 : decode cL_follows 122 = .ok (.invokestatic 138, 3) := by decide +kernel
theorem dL_follows_125 : decode cL_follows 125 = .ok (.lstore 8, 2) := by decide +kernel
theorem dL_follows_127 : decode cL_follows 127 = .ok (.aload_n 0, 1) := by decide +kernel
theorem dL_follows_128 : decode cL_follows 128 = .ok (.iload 5, 2) := by decide +kernel
theorem dL_follows_130 : decode cL_follows 130 = .ok (.iload 6, 2) := by decide +kernel
theorem dL_follows_132 : decode cL_follows 132 = .ok (.iconst 1, 1) := by decide +kernel
theorem dL_follows_133 : decode cL_follows 133 = .ok (.iload_n 1, 1) := by decide +kernel
theorem dL_follows_134 : decode cL_follows 134 = .ok (.bipush 26, 2) := by decide +kernel
theorem dL_follows_136 : decode cL_follows 136 = .ok (.irem, 1) := by decide +kernel
theorem dL_follows_137 : decode cL_follows 137 = .ok (.invokestatic 134, 3) := by decide +kernel
theorem dL_follows_140 : decode cL_follows 140 = .ok (.lstore 10, 2) := by decide +kernel
theorem dL_follows_142 : decode cL_follows 142 = .ok (.aload_n 0, 1) := by decide +kernel
theorem dL_follows_143 : decode cL_follows 143 = .ok (.iload 5, 2) := by decide +kernel
theorem dL_follows_145 : decode cL_follows 145 = .ok (.iload 6, 2) := by decide +kernel
theorem dL_follows_147 : decode cL_follows 147 = .ok (.iconst 1, 1) := by decide +kernel
theorem dL_follows_148 : decode cL_follows 148 = .ok (.iload_n 1, 1) := by decide +kernel
theorem dL_follows_149 : decode cL_follows 149 = .ok (.bipush 26, 2) := by decide +kernel
theorem dL_follows_151 : decode cL_follows 151 = .ok (.irem, 1) := by decide +kernel
theorem dL_follows_152 : decode cL_follows 152 = .ok (.invokestatic 126, 3) := by decide +kernel
theorem dL_follows_155 : decode cL_follows 155 = .ok (.lload 10, 2) := by decide +kernel
theorem dL_follows_157 : decode cL_follows 157 = .ok (.lcmp, 1) := by decide +kernel
theorem dL_follows_158 : decode cL_follows 158 = .ok (.ifCond .ne 77, 3) := by decide +kernel
theorem dL_follows_161 : decode cL_follows 161 = .ok (.aload_n 0, 1) := by decide +kernel
theorem dL_follows_162 : decode cL_follows 162 = .ok (.invokestatic 177, 3) := by decide +kernel
theorem dL_follows_165 : decode cL_follows 165 = .ok (.lconst 0, 1) := by decide +kernel
theorem dL_follows_166 : decode cL_follows 166 = .ok (.lcmp, 1) := by decide +kernel
theorem dL_follows_167 : decode cL_follows 167 = .ok (.ifCond .lt 68, 3) := by decide +kernel
theorem dL_follows_170 : decode cL_follows 170 = .ok (.lload 8, 2) := by decide +kernel
theorem dL_follows_172 : decode cL_follows 172 = .ok (.ldc2_w 159, 3) := by decide +kernel
theorem dL_follows_175 : decode cL_follows 175 = .ok (.lcmp, 1) := by decide +kernel
theorem dL_follows_176 : decode cL_follows 176 = .ok (.ifCond .ne 19, 3) := by decide +kernel
theorem dL_follows_179 : decode cL_follows 179 = .ok (.aload_n 0, 1) := by decide +kernel
theorem dL_follows_180 : decode cL_follows 180 = .ok (.iload 5, 2) := by decide +kernel
theorem dL_follows_182 : decode cL_follows 182 = .ok (.iload 6, 2) := by decide +kernel
theorem dL_follows_184 : decode cL_follows 184 = .ok (.iload 7, 2) := by decide +kernel
theorem dL_follows_186 : decode cL_follows 186 = .ok (.iconst 0, 1) := by decide +kernel
theorem dL_follows_187 : decode cL_follows 187 = .ok (.invokestatic 134, 3) := by decide +kernel
theorem dL_follows_190 : decode cL_follows 190 = .ok (.lconst 0, 1) := by decide +kernel
theorem dL_follows_191 : decode cL_follows 191 = .ok (.lcmp, 1) := by decide +kernel
theorem dL_follows_192 : decode cL_follows 192 = .ok (.ifCond .le 43, 3) := by decide +kernel
theorem dL_follows_195 : decode cL_follows 195 = .ok (.lload 8, 2) := by decide +kernel
theorem dL_follows_197 : decode cL_follows 197 = .ok (.ldc2_w 159, 3) := by decide +kernel
theorem dL_follows_200 : decode cL_follows 200 = .ok (.lcmp, 1) := by decide +kernel
theorem dL_follows_201 : decode cL_follows 201 = .ok (.ifCond .eq 30, 3) := by decide +kernel
theorem dL_follows_204 : decode cL_follows 204 = .ok (.aload_n 0, 1) := by decide +kernel
theorem dL_follows_205 : decode cL_follows 205 = .ok (.iload 5, 2) := by decide +kernel
theorem dL_follows_207 : decode cL_follows 207 = .ok (.iload 6, 2) := by decide +kernel
theorem dL_follows_209 : decode cL_follows 209 = .ok (.iload 7, 2) := by decide +kernel
theorem dL_follows_211 : decode cL_follows 211 = .ok (.lload 8, 2) := by decide +kernel
theorem dL_follows_213 : decode cL_follows 213 = .ok (.l2i, 1) := by decide +kernel
theorem dL_follows_214 : decode cL_follows 214 = .ok (.invokestatic 126, 3) := by decide +kernel
theorem dL_follows_217 : decode cL_follows 217 = .ok (.lconst 0, 1) := by decide +kernel
theorem dL_follows_218 : decode cL_follows 218 = .ok (.lcmp, 1) := by decide +kernel
theorem dL_follows_219 : decode cL_follows 219 = .ok (.ifCond .ne 16, 3) := by decide +kernel
theorem dL_follows_222 : decode cL_follows 222 = .ok (.aload_n 0, 1) := by decide +kernel
theorem dL_follows_223 : decode cL_follows 223 = .ok (.invokestatic 177, 3) := by decide +kernel
theorem dL_follows_226 : decode cL_follows 226 = .ok (.lconst 0, 1) := by decide +kernel
theorem dL_follows_227 : decode cL_follows 227 = .ok (.lcmp, 1) := by decide +kernel
theorem dL_follows_228 : decode cL_follows 228 = .ok (.ifCond .lt 7, 3) := by decide +kernel
theorem dL_follows_231 : decode cL_follows 231 = .ok (.iconst 1, 1) := by decide +kernel
theorem dL_follows_232 : decode cL_follows 232 = .ok (.goto 4, 3) := by decide +kernel
theorem dL_follows_235 : decode cL_follows 235 = .ok (.iconst 0, 1) := by decide +kernel
theorem dL_follows_236 : decode cL_follows 236 = .ok (.istore 4, 2) := by decide +kernel
theorem dL_follows_238 : decode cL_follows 238 = .ok (.iload_n 1, 1) := by decide +kernel
theorem dL_follows_239 : decode cL_follows 239 = .ok (.iconst 5, 1) := by decide +kernel
theorem dL_follows_240 : decode cL_follows 240 = .ok (.idiv, 1) := by decide +kernel
theorem dL_follows_241 : decode cL_follows 241 = .ok (.iconst 4, 1) := by decide +kernel
theorem dL_follows_242 : decode cL_follows 242 = .ok (.irem, 1) := by decide +kernel
theorem dL_follows_243 : decode cL_follows 243 = .ok (.istore 12, 2) := by decide +kernel
theorem dL_follows_245 : decode cL_follows 245 = .ok (.aload_n 0, 1) := by decide +kernel
theorem dL_follows_246 : decode cL_follows 246 = .ok (.iload 12, 2) := by decide +kernel
theorem dL_follows_248 : decode cL_follows 248 = .ok (.iconst 1, 1) := by decide +kernel
theorem dL_follows_249 : decode cL_follows 249 = .ok (.iload_n 1, 1) := by decide +kernel
theorem dL_follows_250 : decode cL_follows 250 = .ok (.bipush 8, 2) := by decide +kernel
theorem dL_follows_252 : decode cL_follows 252 = .ok (.irem, 1) := by decide +kernel
theorem dL_follows_253 : decode cL_follows 253 = .ok (.iload_n 1, 1) := by decide +kernel
theorem dL_follows_254 : decode cL_follows 254 = .ok (.iconst 2, 1) := by decide +kernel
theorem dL_follows_255 : decode cL_follows 255 = .ok (.irem, 1) := by decide +kernel
theorem dL_follows_256 : decode cL_follows 256 = .ok (.invokestatic 118, 3) := by decide +kernel
theorem dL_follows_259 : decode cL_follows 259 = .ok (.lstore 13, 2) := by decide +kernel
theorem dL_follows_261 : decode cL_follows 261 = .ok (.aload_n 0, 1) := by decide +kernel
theorem dL_follows_262 : decode cL_follows 262 = .ok (.bipush 9, 2) := by decide +kernel
theorem dL_follows_264 : decode cL_follows 264 = .ok (.invokestatic 100, 3) := by decide +kernel
theorem dL_follows_267 : decode cL_follows 267 = .ok (.lstore 15, 2) := by decide +kernel
theorem dL_follows_269 : decode cL_follows 269 = .ok (.iload 4, 2) := by decide +kernel
theorem dL_follows_271 : decode cL_follows 271 = .ok (.ifCond .eq 68, 3) := by decide +kernel
theorem dL_follows_274 : decode cL_follows 274 = .ok (.aload_n 0, 1) := by decide +kernel
theorem dL_follows_275 : decode cL_follows 275 = .ok (.iload 12, 2) := by decide +kernel
theorem dL_follows_277 : decode cL_follows 277 = .ok (.iconst 1, 1) := by decide +kernel
theorem dL_follows_278 : decode cL_follows 278 = .ok (.iload_n 1, 1) := by decide +kernel
theorem dL_follows_279 : decode cL_follows 279 = .ok (.bipush 8, 2) := by decide +kernel
theorem dL_follows_281 : decode cL_follows 281 = .ok (.irem, 1) := by decide +kernel
theorem dL_follows_282 : decode cL_follows 282 = .ok (.invokestatic 128, 3) := by decide +kernel
theorem dL_follows_285 : decode cL_follows 285 = .ok (.lload 13, 2) := by decide +kernel
theorem dL_follows_287 : decode cL_follows 287 = .ok (.lcmp, 1) := by decide +kernel
theorem dL_follows_288 : decode cL_follows 288 = .ok (.ifCond .ne 51, 3) := by decide +kernel
theorem dL_follows_291 : decode cL_follows 291 = .ok (.aload_n 0, 1) := by decide +kernel
theorem dL_follows_292 : decode cL_follows 292 = .ok (.bipush 9, 2) := by decide +kernel
theorem dL_follows_294 : decode cL_follows 294 = .ok (.invokestatic 100, 3) := by decide +kernel
theorem dL_follows_297 : decode cL_follows 297 = .ok (.aload_n 0, 1) := by decide +kernel
theorem dL_follows_298 : decode cL_follows 298 = .ok (.bipush 10, 2) := by decide +kernel
theorem dL_follows_300 : decode cL_follows 300 = .ok (.invokestatic 100, 3) := by decide +kernel
theorem dL_follows_303 : decode cL_follows 303 = .ok (.ladd, 1) := by decide +kernel
theorem dL_follows_304 : decode cL_follows 304 = .ok (.aload_n 0, 1) := by decide +kernel
theorem dL_follows_305 : decode cL_follows 305 = .ok (.bipush 8, 2) := by decide +kernel
theorem dL_follows_307 : decode cL_follows 307 = .ok (.invokestatic 100, 3) := by decide +kernel
theorem dL_follows_310 : decode cL_follows 310 = .ok (.ladd, 1) := by decide +kernel
theorem dL_follows_311 : decode cL_follows 311 = .ok (.lload 15, 2) := by decide +kernel
theorem dL_follows_313 : decode cL_follows 313 = .ok (.lcmp, 1) := by decide +kernel
theorem dL_follows_314 : decode cL_follows 314 = .ok (.ifCond .le 25, 3) := by decide +kernel
theorem dL_follows_317 : decode cL_follows 317 = .ok (.aload_n 0, 1) := by decide +kernel
theorem dL_follows_318 : decode cL_follows 318 = .ok (.invokestatic 177, 3) := by decide +kernel
theorem dL_follows_321 : decode cL_follows 321 = .ok (.lconst 0, 1) := by decide +kernel
theorem dL_follows_322 : decode cL_follows 322 = .ok (.lcmp, 1) := by decide +kernel
theorem dL_follows_323 : decode cL_follows 323 = .ok (.ifCond .lt 16, 3) := by decide +kernel
theorem dL_follows_326 : decode cL_follows 326 = .ok (.aload_n 0, 1) := by decide +kernel
theorem dL_follows_327 : decode cL_follows 327 = .ok (.invokestatic 110, 3) := by decide +kernel
theorem dL_follows_330 : decode cL_follows 330 = .ok (.lload_n 2, 1) := by decide +kernel
theorem dL_follows_331 : decode cL_follows 331 = .ok (.lcmp, 1) := by decide +kernel
theorem dL_follows_332 : decode cL_follows 332 = .ok (.ifCond .ne 7, 3) := by decide +kernel
theorem dL_follows_335 : decode cL_follows 335 = .ok (.iconst 1, 1) := by decide +kernel
theorem dL_follows_336 : decode cL_follows 336 = .ok (.goto 4, 3) := by decide +kernel
theorem dL_follows_339 : decode cL_follows 339 = .ok (.iconst 0, 1) := by decide +kernel
theorem dL_follows_340 : decode cL_follows 340 = .ok (.istore 4, 2) := by decide +kernel
theorem dL_follows_342 : decode cL_follows 342 = .ok (.aload_n 0, 1) := by decide +kernel
theorem dL_follows_343 : decode cL_follows 343 = .ok (.iconst 1, 1) := by decide +kernel
theorem dL_follows_344 : decode cL_follows 344 = .ok (.invokestatic 100, 3) := by decide +kernel
theorem dL_follows_347 : decode cL_follows 347 = .ok (.lconst 0, 1) := by decide +kernel
theorem dL_follows_348 : decode cL_follows 348 = .ok (.lcmp, 1) := by decide +kernel
theorem dL_follows_349 : decode cL_follows 349 = .ok (.ifCond .le 128, 3) := by decide +kernel
theorem dL_follows_352 : decode cL_follows 352 = .ok (.aload_n 0, 1) := by decide +kernel
theorem dL_follows_353 : decode cL_follows 353 = .ok (.bipush 7, 2) := by decide +kernel
theorem dL_follows_355 : decode cL_follows 355 = .ok (.invokestatic 100, 3) := by decide +kernel
theorem dL_follows_358 : decode cL_follows 358 = .ok (.ldc2_w 175, 3) := by decide +kernel
theorem dL_follows_361 : decode cL_follows 361 = .ok (.lcmp, 1) := by decide +kernel
theorem dL_follows_362 : decode cL_follows 362 = .ok (.ifCond .ge 115, 3) := by decide +kernel
theorem dL_follows_365 : decode cL_follows 365 = .ok (.iload 4, 2) := by decide +kernel
theorem dL_follows_367 : decode cL_follows 367 = .ok (.ifCond .eq 110, 3) := by decide +kernel
theorem dL_follows_370 : decode cL_follows 370 = .ok (.iload_n 1, 1) := by decide +kernel
theorem dL_follows_371 : decode cL_follows 371 = .ok (.aload_n 0, 1) := by decide +kernel
theorem dL_follows_372 : decode cL_follows 372 = .ok (.iconst 1, 1) := by decide +kernel
theorem dL_follows_373 : decode cL_follows 373 = .ok (.invokestatic 100, 3) := by decide +kernel
theorem dL_follows_376 : decode cL_follows 376 = .ok (.l2i, 1) := by decide +kernel
theorem dL_follows_377 : decode cL_follows 377 = .ok (.irem, 1) := by decide +kernel
theorem dL_follows_378 : decode cL_follows 378 = .ok (.istore 5, 2) := by decide +kernel
theorem dL_follows_380 : decode cL_follows 380 = .ok (.aload_n 0, 1) := by decide +kernel
theorem dL_follows_381 : decode cL_follows 381 = .ok (.iload 5, 2) := by decide +kernel
theorem dL_follows_383 : decode cL_follows 383 = .ok (.invokestatic 136, 3) := by decide +kernel
theorem dL_follows_386 : decode cL_follows 386 = .ok (.l2i, 1) := by decide +kernel
theorem dL_follows_387 : decode cL_follows 387 = .ok (.istore 6, 2) := by decide +kernel
theorem dL_follows_389 : decode cL_follows 389 = .ok (.iload 6, 2) := by decide +kernel
theorem dL_follows_391 : decode cL_follows 391 = .ok (.ifCond .le 86, 3) := by decide +kernel
theorem dL_follows_394 : decode cL_follows 394 = .ok (.aload_n 0, 1) := by decide +kernel
theorem dL_follows_395 : decode cL_follows 395 = .ok (.iload 6, 2) := by decide +kernel
theorem dL_follows_397 : decode cL_follows 397 = .ok (.invokestatic 130, 3) := by decide +kernel
theorem dL_follows_400 : decode cL_follows 400 = .ok (.lconst 0, 1) := by decide +kernel
theorem dL_follows_401 : decode cL_follows 401 = .ok (.lcmp, 1) := by decide +kernel
theorem dL_follows_402 : decode cL_follows 402 = .ok (.ifCond .le 72, 3) := by decide +kernel
theorem dL_follows_405 : decode cL_follows 405 = .ok (.aload_n 0, 1) := by decide +kernel
theorem dL_follows_406 : decode cL_follows 406 = .ok (.iload 5, 2) := by decide +kernel
theorem dL_follows_408 : decode cL_follows 408 = .ok (.bipush 6, 2) := by decide +kernel
theorem dL_follows_410 : decode cL_follows 410 = .ok (.invokestatic 108, 3) := by decide +kernel
theorem dL_follows_413 : decode cL_follows 413 = .ok (.lconst 1, 1) := by decide +kernel
theorem dL_follows_414 : decode cL_follows 414 = .ok (.lcmp, 1) := by decide +kernel
theorem dL_follows_415 : decode cL_follows 415 = .ok (.ifCond .le 59, 3) := by decide +kernel
theorem dL_follows_418 : decode cL_follows 418 = .ok (.aload_n 0, 1) := by decide +kernel
theorem dL_follows_419 : decode cL_follows 419 = .ok (.invokestatic 177, 3) := by decide +kernel
theorem dL_follows_422 : decode cL_follows 422 = .ok (.lconst 0, 1) := by decide +kernel
theorem dL_follows_423 : decode cL_follows 423 = .ok (.lcmp, 1) := by decide +kernel
theorem dL_follows_424 : decode cL_follows 424 = .ok (.ifCond .lt 50, 3) := by decide +kernel
theorem dL_follows_427 : decode cL_follows 427 = .ok (.iload 6, 2) := by decide +kernel
theorem dL_follows_429 : decode cL_follows 429 = .ok (.iconst 1, 1) := by decide +kernel
theorem dL_follows_430 : decode cL_follows 430 = .ok (.if_icmp .eq 40, 3) := by decide +kernel
theorem dL_follows_433 : decode cL_follows 433 = .ok (.aload_n 0, 1) := by decide +kernel
theorem dL_follows_434 : decode cL_follows 434 = .ok (.iload 6, 2) := by decide +kernel
theorem dL_follows_436 : decode cL_follows 436 = .ok (.iconst 1, 1) := by decide +kernel
theorem dL_follows_437 : decode cL_follows 437 = .ok (.isub, 1) := by decide +kernel
theorem dL_follows_438 : decode cL_follows 438 = .ok (.invokestatic 130, 3) := by decide +kernel
theorem dL_follows_441 : decode cL_follows 441 = .ok (.lconst 0, 1) := by decide +kernel
theorem dL_follows_442 : decode cL_follows 442 = .ok (.lcmp, 1) := by decide +kernel
theorem dL_follows_443 : decode cL_follows 443 = .ok (.ifCond .lt 31, 3) := by decide +kernel
theorem dL_follows_446 : decode cL_follows 446 = .ok (.aload_n 0, 1) := by decide +kernel
theorem dL_follows_447 : decode cL_follows 447 = .ok (.iload 5, 2) := by decide +kernel
theorem dL_follows_449 : decode cL_follows 449 = .ok (.bipush 6, 2) := by decide +kernel
theorem dL_follows_451 : decode cL_follows 451 = .ok (.invokestatic 108, 3) := by decide +kernel
theorem dL_follows_454 : decode cL_follows 454 = .ok (.ldc2_w 155, 3) := by decide +kernel
theorem dL_follows_457 : decode cL_follows 457 = .ok (.lcmp, 1) := by decide +kernel
theorem dL_follows_458 : decode cL_follows 458 = .ok (.ifCond .ge 16, 3) := by decide +kernel
theorem dL_follows_461 : decode cL_follows 461 = .ok (.aload_n 0, 1) := by decide +kernel
theorem dL_follows_462 : decode cL_follows 462 = .ok (.invokestatic 177, 3) := by decide +kernel
theorem dL_follows_465 : decode cL_follows 465 = .ok (.lconst 0, 1) := by decide +kernel
theorem dL_follows_466 : decode cL_follows 466 = .ok (.lcmp, 1) := by decide +kernel
theorem dL_follows_467 : decode cL_follows 467 = .ok (.ifCond .lt 7, 3) := by decide +kernel
theorem dL_follows_470 : decode cL_follows 470 = .ok (.iconst 1, 1) := by decide +kernel
theorem dL_follows_471 : decode cL_follows 471 = .ok (.goto 4, 3) := by decide +kernel
theorem dL_follows_474 : decode cL_follows 474 = .ok (.iconst 0, 1) := by decide +kernel
theorem dL_follows_475 : decode cL_follows 475 = .ok (.istore 4, 2) := by decide +kernel
theorem dL_follows_477 : decode cL_follows 477 = .ok (.iload 4, 2) := by decide +kernel
theorem dL_follows_479 : decode cL_follows 479 = .ok (.ifCond .eq 46, 3) := by decide +kernel
theorem dL_follows_482 : decode cL_follows 482 = .ok (.aload_n 0, 1) := by decide +kernel
theorem dL_follows_483 : decode cL_follows 483 = .ok (.invokestatic 110, 3) := by decide +kernel
theorem dL_follows_486 : decode cL_follows 486 = .ok (.lload_n 2, 1) := by decide +kernel
theorem dL_follows_487 : decode cL_follows 487 = .ok (.lcmp, 1) := by decide +kernel
theorem dL_follows_488 : decode cL_follows 488 = .ok (.ifCond .ne 37, 3) := by decide +kernel
theorem dL_follows_491 : decode cL_follows 491 = .ok (.aload_n 0, 1) := by decide +kernel
theorem dL_follows_492 : decode cL_follows 492 = .ok (.iconst 1, 1) := by decide +kernel
theorem dL_follows_493 : decode cL_follows 493 = .ok (.invokestatic 151, 3) := by decide +kernel
theorem dL_follows_496 : decode cL_follows 496 = .ok (.lconst 0, 1) := by decide +kernel
theorem dL_follows_497 : decode cL_follows 497 = .ok (.lcmp, 1) := by decide +kernel
theorem dL_follows_498 : decode cL_follows 498 = .ok (.ifCond .lt 27, 3) := by decide +kernel
theorem dL_follows_501 : decode cL_follows 501 = .ok (.aload_n 0, 1) := by decide +kernel
theorem dL_follows_502 : decode cL_follows 502 = .ok (.invokestatic 110, 3) := by decide +kernel
theorem dL_follows_505 : decode cL_follows 505 = .ok (.lload_n 2, 1) := by decide +kernel
theorem dL_follows_506 : decode cL_follows 506 = .ok (.lcmp, 1) := by decide +kernel
theorem dL_follows_507 : decode cL_follows 507 = .ok (.ifCond .ne 18, 3) := by decide +kernel
theorem dL_follows_510 : decode cL_follows 510 = .ok (.aload_n 0, 1) := by decide +kernel
theorem dL_follows_511 : decode cL_follows 511 = .ok (.invokestatic 177, 3) := by decide +kernel
theorem dL_follows_514 : decode cL_follows 514 = .ok (.ldc2_w 21, 3) := by decide +kernel
theorem dL_follows_517 : decode cL_follows 517 = .ok (.lcmp, 1) := by decide +kernel
theorem dL_follows_518 : decode cL_follows 518 = .ok (.ifCond .ne 7, 3) := by decide +kernel
theorem dL_follows_521 : decode cL_follows 521 = .ok (.iconst 1, 1) := by decide +kernel
theorem dL_follows_522 : decode cL_follows 522 = .ok (.goto 4, 3) := by decide +kernel
theorem dL_follows_525 : decode cL_follows 525 = .ok (.iconst 0, 1) := by decide +kernel
theorem dL_follows_526 : decode cL_follows 526 = .ok (.ireturn, 1) := by decide +kernel
theorem dL_alike_0 : decode cL_alike 0 = .ok (.aload_n 0, 1) := by decide +kernel
theorem dL_alike_1 : decode cL_alike 1 = .ok (.invokestatic 110, 3) := by decide +kernel
theorem dL_alike_4 : decode cL_alike 4 = .ok (.aload_n 1, 1) := by decide +kernel
theorem dL_alike_5 : decode cL_alike 5 = .ok (.invokestatic 110, 3) := by decide +kernel
theorem dL_alike_8 : decode cL_alike 8 = .ok (.lcmp, 1) := by decide +kernel
theorem dL_alike_9 : decode cL_alike 9 = .ok (.ifCond .ne 141, 3) := by decide +kernel
theorem dL_alike_12 : decode cL_alike 12 = .ok (.aload_n 0, 1) := by decide +kernel
theorem dL_alike_13 : decode cL_alike 13 = .ok (.invokevirtual 179, 3) := by decide +kernel
theorem dL_alike_16 : decode cL_alike 16 = .ok (.aload_n 1, 1) := by decide +kernel
theorem dL_alike_17 : decode cL_alike 17 = .ok (.invokevirtual 179, 3) := by decide +kernel
theorem dL_alike_20 : decode cL_alike 20 = .ok (.if_icmp .ne 130, 3) := by decide +kernel
theorem dL_alike_23 : decode cL_alike 23 = .ok (.aload_n 0, 1) := by decide +kernel
theorem dL_alike_24 : decode cL_alike 24 = .ok (.iload_n 2, 1) := by decide +kernel
theorem dL_alike_25 : decode cL_alike 25 = .ok (.iconst 5, 1) := by decide +kernel
theorem dL_alike_26 : decode cL_alike 26 = .ok (.irem, 1) := by decide +kernel
theorem dL_alike_27 : decode cL_alike 27 = .ok (.invokestatic 116, 3) := by decide +kernel
theorem dL_alike_30 : decode cL_alike 30 = .ok (.aload_n 1, 1) := by decide +kernel
theorem dL_alike_31 : decode cL_alike 31 = .ok (.iload_n 2, 1) := by decide +kernel
theorem dL_alike_32 : decode cL_alike 32 = .ok (.iconst 5, 1) := by decide +kernel
theorem dL_alike_33 : decode cL_alike 33 = .ok (.irem, 1) := by decide +kernel
theorem dL_alike_34 : decode cL_alike 34 = .ok (.invokestatic 116, 3) := by decide +kernel
theorem dL_alike_37 : decode cL_alike 37 = .ok (.lcmp, 1) := by decide +kernel
theorem dL_alike_38 : decode cL_alike 38 = .ok (.ifCond .ne 112, 3) := by decide +kernel
theorem dL_alike_41 : decode cL_alike 41 = .ok (.aload_n 0, 1) := by decide +kernel
theorem dL_alike_42 : decode cL_alike 42 = .ok (.invokevirtual 169, 3) := by decide +kernel
theorem dL_alike_45 : decode cL_alike 45 = .ok (.aload_n 1, 1) := by decide +kernel
theorem dL_alike_46 : decode cL_alike 46 = .ok (.invokevirtual 169, 3) := by decide +kernel
theorem dL_alike_49 : decode cL_alike 49 = .ok (.if_icmp .ne 101, 3) := by decide +kernel
theorem dL_alike_52 : decode cL_alike 52 = .ok (.aload_n 0, 1) := by decide +kernel
theorem dL_alike_53 : decode cL_alike 53 = .ok (.iload_n 2, 1) := by decide +kernel
theorem dL_alike_54 : decode cL_alike 54 = .ok (.bipush 12, 2) := by decide +kernel
theorem dL_alike_56 : decode cL_alike 56 = .ok (.irem, 1) := by decide +kernel
theorem dL_alike_57 : decode cL_alike 57 = .ok (.iload_n 2, 1) := by decide +kernel
theorem dL_alike_58 : decode cL_alike 58 = .ok (.bipush 12, 2) := by decide +kernel
theorem dL_alike_60 : decode cL_alike 60 = .ok (.idiv, 1) := by decide +kernel
theorem dL_alike_61 : decode cL_alike 61 = .ok (.bipush 12, 2) := by decide +kernel
theorem dL_alike_63 : decode cL_alike 63 = .ok (.irem, 1) := by decide +kernel
theorem dL_alike_64 : decode cL_alike 64 = .ok (.iconst 1, 1) := by decide +kernel
theorem dL_alike_65 : decode cL_alike 65 = .ok (.invokestatic 138, 3) := by decide +kernel
theorem dL_alike_68 : decode cL_alike 68 = .ok (.aload_n 1, 1) := by decide +kernel
theorem dL_alike_69 : decode cL_alike 69 = .ok (.iload_n 2, 1) := by decide +kernel
theorem dL_alike_70 : decode cL_alike 70 = .ok (.bipush 12, 2) := by decide +kernel
theorem dL_alike_72 : decode cL_alike 72 = .ok (.irem, 1) := by decide +kernel
theorem dL_alike_73 : decode cL_alike 73 = .ok (.iload_n 2, 1) := by decide +kernel
theorem dL_alike_74 : decode cL_alike 74 = .ok (.bipush 12, 2) := by decide +kernel
theorem dL_alike_76 : decode cL_alike 76 = .ok (.idiv, 1) := by decide +kernel
theorem dL_alike_77 : decode cL_alike 77 = .ok (.bipush 12, 2) := by decide +kernel
theorem dL_alike_79 : decode cL_alike 79 = .ok (.irem, 1) := by decide +kernel
theorem dL_alike_80 : decode cL_alike 80 = .ok (.iconst 1, 1) := by decide +kernel
theorem dL_alike_81 : decode cL_alike 81 = .ok (.invokestatic 138, 3) := by decide +kernel
theorem dL_alike_84 : decode cL_alike 84 = .ok (.lcmp, 1) := by decide +kernel
theorem dL_alike_85 : decode cL_alike 85 = .ok (.ifCond .ne 65, 3) := by decide +kernel
theorem dL_alike_88 : decode cL_alike 88 = .ok (.aload_n 0, 1) := by decide +kernel
theorem dL_alike_89 : decode cL_alike 89 = .ok (.iload_n 2, 1) := by decide +kernel
theorem dL_alike_90 : decode cL_alike 90 = .ok (.i2l, 1) := by decide +kernel
theorem dL_alike_91 : decode cL_alike 91 = .ok (.iconst 5, 1) := by decide +kernel
theorem dL_alike_92 : decode cL_alike 92 = .ok (.invokestatic 146, 3) := by decide +kernel
theorem dL_alike_95 : decode cL_alike 95 = .ok (.aload_n 1, 1) := by decide +kernel
theorem dL_alike_96 : decode cL_alike 96 = .ok (.iload_n 2, 1) := by decide +kernel
theorem dL_alike_97 : decode cL_alike 97 = .ok (.i2l, 1) := by decide +kernel
theorem dL_alike_98 : decode cL_alike 98 = .ok (.iconst 5, 1) := by decide +kernel
theorem dL_alike_99 : decode cL_alike 99 = .ok (.invokestatic 146, 3) := by decide +kernel
theorem dL_alike_102 : decode cL_alike 102 = .ok (.lcmp, 1) := by decide +kernel
theorem dL_alike_103 : decode cL_alike 103 = .ok (.ifCond .ne 47, 3) := by decide +kernel
theorem dL_alike_106 : decode cL_alike 106 = .ok (.aload_n 0, 1) := by decide +kernel
theorem dL_alike_107 : decode cL_alike 107 = .ok (.iconst 2, 1) := by decide +kernel
theorem dL_alike_108 : decode cL_alike 108 = .ok (.ldc2_w 182, 3) := by decide +kernel
theorem dL_alike_111 : decode cL_alike 111 = .ok (.ldc2_w 184, 3) := by decide +kernel
theorem dL_alike_114 : decode cL_alike 114 = .ok (.iload_n 2, 1) := by decide +kernel
theorem dL_alike_115 : decode cL_alike 115 = .ok (.bipush 9, 2) := by decide +kernel
theorem dL_alike_117 : decode cL_alike 117 = .ok (.irem, 1) := by decide +kernel
theorem dL_alike_118 : decode cL_alike 118 = .ok (.i2l, 1) := by decide +kernel
theorem dL_alike_119 : decode cL_alike 119 = .ok (.lmul, 1) := by decide +kernel
theorem dL_alike_120 : decode cL_alike 120 = .ok (.ladd, 1) := by decide +kernel
theorem dL_alike_121 : decode cL_alike 121 = .ok (.invokestatic 140, 3) := by decide +kernel
theorem dL_alike_124 : decode cL_alike 124 = .ok (.aload_n 1, 1) := by decide +kernel
theorem dL_alike_125 : decode cL_alike 125 = .ok (.iconst 2, 1) := by decide +kernel
theorem dL_alike_126 : decode cL_alike 126 = .ok (.ldc2_w 182, 3) := by decide +kernel
theorem dL_alike_129 : decode cL_alike 129 = .ok (.ldc2_w 184, 3) := by decide +kernel
theorem dL_alike_132 : decode cL_alike 132 = .ok (.iload_n 2, 1) := by decide +kernel
theorem dL_alike_133 : decode cL_alike 133 = .ok (.bipush 9, 2) := by decide +kernel
theorem dL_alike_135 : decode cL_alike 135 = .ok (.irem, 1) := by decide +kernel
theorem dL_alike_136 : decode cL_alike 136 = .ok (.i2l, 1) := by decide +kernel
theorem dL_alike_137 : decode cL_alike 137 = .ok (.lmul, 1) := by decide +kernel
theorem dL_alike_138 : decode cL_alike 138 = .ok (.ladd, 1) := by decide +kernel
theorem dL_alike_139 : decode cL_alike 139 = .ok (.invokestatic 140, 3) := by decide +kernel
theorem dL_alike_142 : decode cL_alike 142 = .ok (.lcmp, 1) := by decide +kernel
theorem dL_alike_143 : decode cL_alike 143 = .ok (.ifCond .ne 7, 3) := by decide +kernel
theorem dL_alike_146 : decode cL_alike 146 = .ok (.iconst 1, 1) := by decide +kernel
theorem dL_alike_147 : decode cL_alike 147 = .ok (.goto 4, 3) := by decide +kernel
theorem dL_alike_150 : decode cL_alike 150 = .ok (.iconst 0, 1) := by decide +kernel
theorem dL_alike_151 : decode cL_alike 151 = .ok (.ireturn, 1) := by decide +kernel
theorem dL_says_0 : decode cL_says 0 = .ok (.aload_n 0, 1) := by decide +kernel
theorem dL_says_1 : decode cL_says 1 = .ok (.iload_n 1, 1) := by decide +kernel
theorem dL_says_2 : decode cL_says 2 = .ok (.invokestatic 153, 3) := by decide +kernel
theorem dL_says_5 : decode cL_says 5 = .ok (.lconst 0, 1) := by decide +kernel
theorem dL_says_6 : decode cL_says 6 = .ok (.lcmp, 1) := by decide +kernel
theorem dL_says_7 : decode cL_says 7 = .ok (.ifCond .le 38, 3) := by decide +kernel
theorem dL_says_10 : decode cL_says 10 = .ok (.aload_n 0, 1) := by decide +kernel
theorem dL_says_11 : decode cL_says 11 = .ok (.iload_n 2, 1) := by decide +kernel
theorem dL_says_12 : decode cL_says 12 = .ok (.invokestatic 153, 3) := by decide +kernel
theorem dL_says_15 : decode cL_says 15 = .ok (.lconst 0, 1) := by decide +kernel
theorem dL_says_16 : decode cL_says 16 = .ok (.lcmp, 1) := by decide +kernel
theorem dL_says_17 : decode cL_says 17 = .ok (.ifCond .le 28, 3) := by decide +kernel
theorem dL_says_20 : decode cL_says 20 = .ok (.aload_n 0, 1) := by decide +kernel
theorem dL_says_21 : decode cL_says 21 = .ok (.iload_n 3, 1) := by decide +kernel
theorem dL_says_22 : decode cL_says 22 = .ok (.invokestatic 153, 3) := by decide +kernel
theorem dL_says_25 : decode cL_says 25 = .ok (.lconst 0, 1) := by decide +kernel
theorem dL_says_26 : decode cL_says 26 = .ok (.lcmp, 1) := by decide +kernel
theorem dL_says_27 : decode cL_says 27 = .ok (.ifCond .le 18, 3) := by decide +kernel
theorem dL_says_30 : decode cL_says 30 = .ok (.aload_n 0, 1) := by decide +kernel
theorem dL_says_31 : decode cL_says 31 = .ok (.iload 4, 2) := by decide +kernel
theorem dL_says_33 : decode cL_says 33 = .ok (.invokestatic 153, 3) := by decide +kernel
theorem dL_says_36 : decode cL_says 36 = .ok (.lconst 0, 1) := by decide +kernel
theorem dL_says_37 : decode cL_says 37 = .ok (.lcmp, 1) := by decide +kernel
theorem dL_says_38 : decode cL_says 38 = .ok (.ifCond .le 7, 3) := by decide +kernel
theorem dL_says_41 : decode cL_says 41 = .ok (.iconst 1, 1) := by decide +kernel
theorem dL_says_42 : decode cL_says 42 = .ok (.goto 4, 3) := by decide +kernel
theorem dL_says_45 : decode cL_says 45 = .ok (.iconst 0, 1) := by decide +kernel
theorem dL_says_46 : decode cL_says 46 = .ok (.ireturn, 1) := by decide +kernel
theorem dL_told_0 : decode cL_told 0 = .ok (.aload_n 0, 1) := by decide +kernel
theorem dL_told_1 : decode cL_told 1 = .ok (.invokevirtual 186, 3) := by decide +kernel
theorem dL_told_4 : decode cL_told 4 = .ok (.ifCond .lt 18, 3) := by decide +kernel
theorem dL_told_7 : decode cL_told 7 = .ok (.aload_n 0, 1) := by decide +kernel
theorem dL_told_8 : decode cL_told 8 = .ok (.bipush 82, 2) := by decide +kernel
theorem dL_told_10 : decode cL_told 10 = .ok (.invokestatic 153, 3) := by decide +kernel
theorem dL_told_13 : decode cL_told 13 = .ok (.lconst 0, 1) := by decide +kernel
theorem dL_told_14 : decode cL_told 14 = .ok (.lcmp, 1) := by decide +kernel
theorem dL_told_15 : decode cL_told 15 = .ok (.ifCond .le 7, 3) := by decide +kernel
theorem dL_told_18 : decode cL_told 18 = .ok (.iconst 1, 1) := by decide +kernel
theorem dL_told_19 : decode cL_told 19 = .ok (.goto 4, 3) := by decide +kernel
theorem dL_told_22 : decode cL_told 22 = .ok (.iconst 0, 1) := by decide +kernel
theorem dL_told_23 : decode cL_told 23 = .ok (.istore_n 2, 1) := by decide +kernel
theorem dL_told_24 : decode cL_told 24 = .ok (.iconst 0, 1) := by decide +kernel
theorem dL_told_25 : decode cL_told 25 = .ok (.istore_n 3, 1) := by decide +kernel
theorem dL_told_26 : decode cL_told 26 = .ok (.iload_n 3, 1) := by decide +kernel
theorem dL_told_27 : decode cL_told 27 = .ok (.iconst 4, 1) := by decide +kernel
theorem dL_told_28 : decode cL_told 28 = .ok (.if_icmp .ge 75, 3) := by decide +kernel
theorem dL_told_31 : decode cL_told 31 = .ok (.iload_n 2, 1) := by decide +kernel
theorem dL_told_32 : decode cL_told 32 = .ok (.ifCond .eq 71, 3) := by decide +kernel
theorem dL_told_35 : decode cL_told 35 = .ok (.iload_n 1, 1) := by decide +kernel
theorem dL_told_36 : decode cL_told 36 = .ok (.iload_n 3, 1) := by decide +kernel
theorem dL_told_37 : decode cL_told 37 = .ok (.ishr, 1) := by decide +kernel
theorem dL_told_38 : decode cL_told 38 = .ok (.istore 4, 2) := by decide +kernel
theorem dL_told_40 : decode cL_told 40 = .ok (.aload_n 0, 1) := by decide +kernel
theorem dL_told_41 : decode cL_told 41 = .ok (.bipush 112, 2) := by decide +kernel
theorem dL_told_43 : decode cL_told 43 = .ok (.bipush 48, 2) := by decide +kernel
theorem dL_told_45 : decode cL_told 45 = .ok (.iload 4, 2) := by decide +kernel
theorem dL_told_47 : decode cL_told 47 = .ok (.iconst 3, 1) := by decide +kernel
theorem dL_told_48 : decode cL_told 48 = .ok (.irem, 1) := by decide +kernel
theorem dL_told_49 : decode cL_told 49 = .ok (.iadd, 1) := by decide +kernel
theorem dL_told_50 : decode cL_told 50 = .ok (.bipush 48, 2) := by decide +kernel
theorem dL_told_52 : decode cL_told 52 = .ok (.iload 4, 2) := by decide +kernel
theorem dL_told_54 : decode cL_told 54 = .ok (.bipush 10, 2) := by decide +kernel
theorem dL_told_56 : decode cL_told 56 = .ok (.irem, 1) := by decide +kernel
theorem dL_told_57 : decode cL_told 57 = .ok (.iadd, 1) := by decide +kernel
theorem dL_told_58 : decode cL_told 58 = .ok (.bipush 48, 2) := by decide +kernel
theorem dL_told_60 : decode cL_told 60 = .ok (.iload 4, 2) := by decide +kernel
theorem dL_told_62 : decode cL_told 62 = .ok (.iconst 3, 1) := by decide +kernel
theorem dL_told_63 : decode cL_told 63 = .ok (.idiv, 1) := by decide +kernel
theorem dL_told_64 : decode cL_told 64 = .ok (.iconst 2, 1) := by decide +kernel
theorem dL_told_65 : decode cL_told 65 = .ok (.irem, 1) := by decide +kernel
theorem dL_told_66 : decode cL_told 66 = .ok (.iadd, 1) := by decide +kernel
theorem dL_told_67 : decode cL_told 67 = .ok (.invokestatic 189, 3) := by decide +kernel
theorem dL_told_70 : decode cL_told 70 = .ok (.ifCond .eq 25, 3) := by decide +kernel
theorem dL_told_73 : decode cL_told 73 = .ok (.aload_n 0, 1) := by decide +kernel
theorem dL_told_74 : decode cL_told 74 = .ok (.bipush 48, 2) := by decide +kernel
theorem dL_told_76 : decode cL_told 76 = .ok (.iload 4, 2) := by decide +kernel
theorem dL_told_78 : decode cL_told 78 = .ok (.iconst 5, 1) := by decide +kernel
theorem dL_told_79 : decode cL_told 79 = .ok (.idiv, 1) := by decide +kernel
theorem dL_told_80 : decode cL_told 80 = .ok (.iconst 2, 1) := by decide +kernel
theorem dL_told_81 : decode cL_told 81 = .ok (.irem, 1) := by decide +kernel
theorem dL_told_82 : decode cL_told 82 = .ok (.iadd, 1) := by decide +kernel
theorem dL_told_83 : decode cL_told 83 = .ok (.invokestatic 153, 3) := by decide +kernel
theorem dL_told_86 : decode cL_told 86 = .ok (.lconst 0, 1) := by decide +kernel
theorem dL_told_87 : decode cL_told 87 = .ok (.lcmp, 1) := by decide +kernel
theorem dL_told_88 : decode cL_told 88 = .ok (.ifCond .le 7, 3) := by decide +kernel
theorem dL_told_91 : decode cL_told 91 = .ok (.iconst 1, 1) := by decide +kernel
theorem dL_told_92 : decode cL_told 92 = .ok (.goto 4, 3) := by decide +kernel
theorem dL_told_95 : decode cL_told 95 = .ok (.iconst 0, 1) := by decide +kernel
theorem dL_told_96 : decode cL_told 96 = .ok (.istore_n 2, 1) := by decide +kernel
theorem dL_told_97 : decode cL_told 97 = .ok (.iinc 3 1, 3) := by decide +kernel
theorem dL_told_100 : decode cL_told 100 = .ok (.goto (-74), 3) := by decide +kernel
theorem dL_told_103 : decode cL_told 103 = .ok (.iconst 0, 1) := by decide +kernel
theorem dL_told_104 : decode cL_told 104 = .ok (.istore_n 3, 1) := by decide +kernel
theorem dL_told_105 : decode cL_told 105 = .ok (.iload_n 3, 1) := by decide +kernel
theorem dL_told_106 : decode cL_told 106 = .ok (.iconst 1, 1) := by decide +kernel
theorem dL_told_107 : decode cL_told 107 = .ok (.iload_n 1, 1) := by decide +kernel
theorem dL_told_108 : decode cL_told 108 = .ok (.iconst 4, 1) := by decide +kernel
theorem dL_told_109 : decode cL_told 109 = .ok (.irem, 1) := by decide +kernel
theorem dL_told_110 : decode cL_told 110 = .ok (.iadd, 1) := by decide +kernel
theorem dL_told_111 : decode cL_told 111 = .ok (.if_icmp .ge 110, 3) := by decide +kernel
theorem dL_told_114 : decode cL_told 114 = .ok (.iload_n 2, 1) := by decide +kernel
theorem dL_told_115 : decode cL_told 115 = .ok (.ifCond .eq 106, 3) := by decide +kernel
theorem dL_told_118 : decode cL_told 118 = .ok (.iload_n 1, 1) := by decide +kernel
theorem dL_told_119 : decode cL_told 119 = .ok (.iload_n 3, 1) := by decide +kernel
theorem dL_told_120 : decode cL_told 120 = .ok (.ishr, 1) := by decide +kernel
theorem dL_told_121 : decode cL_told 121 = .ok (.istore 4, 2) := by decide +kernel
theorem dL_told_123 : decode cL_told 123 = .ok (.aload_n 0, 1) := by decide +kernel
theorem dL_told_124 : decode cL_told 124 = .ok (.bipush 103, 2) := by decide +kernel
theorem dL_told_126 : decode cL_told 126 = .ok (.bipush 48, 2) := by decide +kernel
theorem dL_told_128 : decode cL_told 128 = .ok (.bipush 48, 2) := by decide +kernel
theorem dL_told_130 : decode cL_told 130 = .ok (.iload 4, 2) := by decide +kernel
theorem dL_told_132 : decode cL_told 132 = .ok (.iconst 4, 1) := by decide +kernel
theorem dL_told_133 : decode cL_told 133 = .ok (.irem, 1) := by decide +kernel
theorem dL_told_134 : decode cL_told 134 = .ok (.iadd, 1) := by decide +kernel
theorem dL_told_135 : decode cL_told 135 = .ok (.bipush 48, 2) := by decide +kernel
theorem dL_told_137 : decode cL_told 137 = .ok (.invokestatic 189, 3) := by decide +kernel
theorem dL_told_140 : decode cL_told 140 = .ok (.ifCond .eq 73, 3) := by decide +kernel
theorem dL_told_143 : decode cL_told 143 = .ok (.aload_n 0, 1) := by decide +kernel
theorem dL_told_144 : decode cL_told 144 = .ok (.bipush 48, 2) := by decide +kernel
theorem dL_told_146 : decode cL_told 146 = .ok (.iload 4, 2) := by decide +kernel
theorem dL_told_148 : decode cL_told 148 = .ok (.iconst 4, 1) := by decide +kernel
theorem dL_told_149 : decode cL_told 149 = .ok (.idiv, 1) := by decide +kernel
theorem dL_told_150 : decode cL_told 150 = .ok (.iconst 4, 1) := by decide +kernel
theorem dL_told_151 : decode cL_told 151 = .ok (.irem, 1) := by decide +kernel
theorem dL_told_152 : decode cL_told 152 = .ok (.iadd, 1) := by decide +kernel
theorem dL_told_153 : decode cL_told 153 = .ok (.bipush 65, 2) := by decide +kernel
theorem dL_told_155 : decode cL_told 155 = .ok (.iload 4, 2) := by decide +kernel
theorem dL_told_157 : decode cL_told 157 = .ok (.iconst 3, 1) := by decide +kernel
theorem dL_told_158 : decode cL_told 158 = .ok (.irem, 1) := by decide +kernel
theorem dL_told_159 : decode cL_told 159 = .ok (.iadd, 1) := by decide +kernel
theorem dL_told_160 : decode cL_told 160 = .ok (.bipush 46, 2) := by decide +kernel
theorem dL_told_162 : decode cL_told 162 = .ok (.bipush 99, 2) := by decide +kernel
theorem dL_told_164 : decode cL_told 164 = .ok (.invokestatic 189, 3) := by decide +kernel
theorem dL_told_167 : decode cL_told 167 = .ok (.ifCond .eq 46, 3) := by decide +kernel
theorem dL_told_170 : decode cL_told 170 = .ok (.aload_n 0, 1) := by decide +kernel
theorem dL_told_171 : decode cL_told 171 = .ok (.bipush 48, 2) := by decide +kernel
theorem dL_told_173 : decode cL_told 173 = .ok (.iload 4, 2) := by decide +kernel
theorem dL_told_175 : decode cL_told 175 = .ok (.bipush 7, 2) := by decide +kernel
theorem dL_told_177 : decode cL_told 177 = .ok (.idiv, 1) := by decide +kernel
theorem dL_told_178 : decode cL_told 178 = .ok (.iconst 2, 1) := by decide +kernel
theorem dL_told_179 : decode cL_told 179 = .ok (.irem, 1) := by decide +kernel
theorem dL_told_180 : decode cL_told 180 = .ok (.iadd, 1) := by decide +kernel
theorem dL_told_181 : decode cL_told 181 = .ok (.bipush 65, 2) := by decide +kernel
theorem dL_told_183 : decode cL_told 183 = .ok (.iload 4, 2) := by decide +kernel
theorem dL_told_185 : decode cL_told 185 = .ok (.iconst 3, 1) := by decide +kernel
theorem dL_told_186 : decode cL_told 186 = .ok (.irem, 1) := by decide +kernel
theorem dL_told_187 : decode cL_told 187 = .ok (.iadd, 1) := by decide +kernel
theorem dL_told_188 : decode cL_told 188 = .ok (.bipush 46, 2) := by decide +kernel
theorem dL_told_190 : decode cL_told 190 = .ok (.bipush 121, 2) := by decide +kernel
theorem dL_told_192 : decode cL_told 192 = .ok (.invokestatic 189, 3) := by decide +kernel
theorem dL_told_195 : decode cL_told 195 = .ok (.ifCond .eq 18, 3) := by decide +kernel
theorem dL_told_198 : decode cL_told 198 = .ok (.aload_n 0, 1) := by decide +kernel
theorem dL_told_199 : decode cL_told 199 = .ok (.bipush 49, 2) := by decide +kernel
theorem dL_told_201 : decode cL_told 201 = .ok (.invokestatic 153, 3) := by decide +kernel
theorem dL_told_204 : decode cL_told 204 = .ok (.lconst 0, 1) := by decide +kernel
theorem dL_told_205 : decode cL_told 205 = .ok (.lcmp, 1) := by decide +kernel
theorem dL_told_206 : decode cL_told 206 = .ok (.ifCond .le 7, 3) := by decide +kernel
theorem dL_told_209 : decode cL_told 209 = .ok (.iconst 1, 1) := by decide +kernel
theorem dL_told_210 : decode cL_told 210 = .ok (.goto 4, 3) := by decide +kernel
theorem dL_told_213 : decode cL_told 213 = .ok (.iconst 0, 1) := by decide +kernel
theorem dL_told_214 : decode cL_told 214 = .ok (.istore_n 2, 1) := by decide +kernel
theorem dL_told_215 : decode cL_told 215 = .ok (.iinc 3 1, 3) := by decide +kernel
theorem dL_told_218 : decode cL_told 218 = .ok (.goto (-113), 3) := by decide +kernel
theorem dL_told_221 : decode cL_told 221 = .ok (.iload_n 2, 1) := by decide +kernel
theorem dL_told_222 : decode cL_told 222 = .ok (.ifCond .eq 95, 3) := by decide +kernel
theorem dL_told_225 : decode cL_told 225 = .ok (.aload_n 0, 1) := by decide +kernel
theorem dL_told_226 : decode cL_told 226 = .ok (.bipush 115, 2) := by decide +kernel
theorem dL_told_228 : decode cL_told 228 = .ok (.bipush 48, 2) := by decide +kernel
theorem dL_told_230 : decode cL_told 230 = .ok (.bipush 49, 2) := by decide +kernel
theorem dL_told_232 : decode cL_told 232 = .ok (.iload_n 1, 1) := by decide +kernel
theorem dL_told_233 : decode cL_told 233 = .ok (.iconst 3, 1) := by decide +kernel
theorem dL_told_234 : decode cL_told 234 = .ok (.irem, 1) := by decide +kernel
theorem dL_told_235 : decode cL_told 235 = .ok (.iadd, 1) := by decide +kernel
theorem dL_told_236 : decode cL_told 236 = .ok (.bipush 98, 2) := by decide +kernel
theorem dL_told_238 : decode cL_told 238 = .ok (.invokestatic 189, 3) := by decide +kernel
theorem dL_told_241 : decode cL_told 241 = .ok (.ifCond .eq 76, 3) := by decide +kernel
theorem dL_told_244 : decode cL_told 244 = .ok (.aload_n 0, 1) := by decide +kernel
theorem dL_told_245 : decode cL_told 245 = .ok (.bipush 48, 2) := by decide +kernel
theorem dL_told_247 : decode cL_told 247 = .ok (.bipush 49, 2) := by decide +kernel
theorem dL_told_249 : decode cL_told 249 = .ok (.bipush 48, 2) := by decide +kernel
theorem dL_told_251 : decode cL_told 251 = .ok (.iload_n 1, 1) := by decide +kernel
theorem dL_told_252 : decode cL_told 252 = .ok (.iconst 4, 1) := by decide +kernel
theorem dL_told_253 : decode cL_told 253 = .ok (.irem, 1) := by decide +kernel
theorem dL_told_254 : decode cL_told 254 = .ok (.iadd, 1) := by decide +kernel
theorem dL_told_255 : decode cL_told 255 = .ok (.bipush 115, 2) := by decide +kernel
theorem dL_told_257 : decode cL_told 257 = .ok (.invokestatic 189, 3) := by decide +kernel
theorem dL_told_260 : decode cL_told 260 = .ok (.ifCond .eq 57, 3) := by decide +kernel
theorem dL_told_263 : decode cL_told 263 = .ok (.aload_n 0, 1) := by decide +kernel
theorem dL_told_264 : decode cL_told 264 = .ok (.bipush 50, 2) := by decide +kernel
theorem dL_told_266 : decode cL_told 266 = .ok (.bipush 48, 2) := by decide +kernel
theorem dL_told_268 : decode cL_told 268 = .ok (.iload_n 1, 1) := by decide +kernel
theorem dL_told_269 : decode cL_told 269 = .ok (.bipush 10, 2) := by decide +kernel
theorem dL_told_271 : decode cL_told 271 = .ok (.irem, 1) := by decide +kernel
theorem dL_told_272 : decode cL_told 272 = .ok (.iadd, 1) := by decide +kernel
theorem dL_told_273 : decode cL_told 273 = .ok (.bipush 99, 2) := by decide +kernel
theorem dL_told_275 : decode cL_told 275 = .ok (.bipush 48, 2) := by decide +kernel
theorem dL_told_277 : decode cL_told 277 = .ok (.invokestatic 189, 3) := by decide +kernel
theorem dL_told_280 : decode cL_told 280 = .ok (.ifCond .eq 37, 3) := by decide +kernel
theorem dL_told_283 : decode cL_told 283 = .ok (.aload_n 0, 1) := by decide +kernel
theorem dL_told_284 : decode cL_told 284 = .ok (.bipush 65, 2) := by decide +kernel
theorem dL_told_286 : decode cL_told 286 = .ok (.invokestatic 153, 3) := by decide +kernel
theorem dL_told_289 : decode cL_told 289 = .ok (.lconst 0, 1) := by decide +kernel
theorem dL_told_290 : decode cL_told 290 = .ok (.lcmp, 1) := by decide +kernel
theorem dL_told_291 : decode cL_told 291 = .ok (.ifCond .le 26, 3) := by decide +kernel
theorem dL_told_294 : decode cL_told 294 = .ok (.aload_n 0, 1) := by decide +kernel
theorem dL_told_295 : decode cL_told 295 = .ok (.bipush 46, 2) := by decide +kernel
theorem dL_told_297 : decode cL_told 297 = .ok (.invokestatic 153, 3) := by decide +kernel
theorem dL_told_300 : decode cL_told 300 = .ok (.lconst 0, 1) := by decide +kernel
theorem dL_told_301 : decode cL_told 301 = .ok (.lcmp, 1) := by decide +kernel
theorem dL_told_302 : decode cL_told 302 = .ok (.ifCond .le 15, 3) := by decide +kernel
theorem dL_told_305 : decode cL_told 305 = .ok (.aload_n 0, 1) := by decide +kernel
theorem dL_told_306 : decode cL_told 306 = .ok (.invokevirtual 179, 3) := by decide +kernel
theorem dL_told_309 : decode cL_told 309 = .ok (.iconst (-1), 1) := by decide +kernel
theorem dL_told_310 : decode cL_told 310 = .ok (.if_icmp .ne 7, 3) := by decide +kernel
theorem dL_told_313 : decode cL_told 313 = .ok (.iconst 1, 1) := by decide +kernel
theorem dL_told_314 : decode cL_told 314 = .ok (.goto 4, 3) := by decide +kernel
theorem dL_told_317 : decode cL_told 317 = .ok (.iconst 0, 1) := by decide +kernel
theorem dL_told_318 : decode cL_told 318 = .ok (.ireturn, 1) := by decide +kernel
theorem dL_act_0 : decode cL_act 0 = .ok (.iload_n 2, 1) := by decide +kernel
theorem dL_act_1 : decode cL_act 1 = .ok (.bipush 32, 2) := by decide +kernel
theorem dL_act_3 : decode cL_act 3 = .ok (.idiv, 1) := by decide +kernel
theorem dL_act_4 : decode cL_act 4 = .ok (.istore_n 3, 1) := by decide +kernel
theorem dL_act_5 : decode cL_act 5 = .ok (.iload_n 1, 1) := by decide +kernel
theorem dL_act_6 : decode cL_act 6 = .ok (.bipush 24, 2) := by decide +kernel
theorem dL_act_8 : decode cL_act 8 = .ok (.irem, 1) := by decide +kernel
theorem dL_act_9 : decode cL_act 9 = .ok (.tableswitch 229 0 20 #[99, 99, 116, 116, 116, 116, 116, 116, 136, 158, 158, 158, 158, 158, 158, 158, 170, 182, 196, 196, 201], 99) := by decide +kernel
theorem dL_act_108 : decode cL_act 108 = .ok (.aload_n 0, 1) := by decide +kernel
theorem dL_act_109 : decode cL_act 109 = .ok (.iload_n 2, 1) := by decide +kernel
theorem dL_act_110 : decode cL_act 110 = .ok (.bipush 30, 2) := by decide +kernel
theorem dL_act_112 : decode cL_act 112 = .ok (.irem, 1) := by decide +kernel
theorem dL_act_113 : decode cL_act 113 = .ok (.iload_n 3, 1) := by decide +kernel
theorem dL_act_114 : decode cL_act 114 = .ok (.iconst 3, 1) := by decide +kernel
theorem dL_act_115 : decode cL_act 115 = .ok (.irem, 1) := by decide +kernel
theorem dL_act_116 : decode cL_act 116 = .ok (.iload_n 3, 1) := by decide +kernel
theorem dL_act_117 : decode cL_act 117 = .ok (.iconst 3, 1) := by decide +kernel
theorem dL_act_118 : decode cL_act 118 = .ok (.idiv, 1) := by decide +kernel
theorem dL_act_119 : decode cL_act 119 = .ok (.iconst 2, 1) := by decide +kernel
theorem dL_act_120 : decode cL_act 120 = .ok (.irem, 1) := by decide +kernel
theorem dL_act_121 : decode cL_act 121 = .ok (.invokestatic 121, 3) := by decide +kernel
theorem dL_act_124 : decode cL_act 124 = .ok (.lreturn, 1) := by decide +kernel
theorem dL_act_125 : decode cL_act 125 = .ok (.aload_n 0, 1) := by decide +kernel
theorem dL_act_126 : decode cL_act 126 = .ok (.iload_n 2, 1) := by decide +kernel
theorem dL_act_127 : decode cL_act 127 = .ok (.bipush 6, 2) := by decide +kernel
theorem dL_act_129 : decode cL_act 129 = .ok (.irem, 1) := by decide +kernel
theorem dL_act_130 : decode cL_act 130 = .ok (.iload_n 3, 1) := by decide +kernel
theorem dL_act_131 : decode cL_act 131 = .ok (.bipush 6, 2) := by decide +kernel
theorem dL_act_133 : decode cL_act 133 = .ok (.irem, 1) := by decide +kernel
theorem dL_act_134 : decode cL_act 134 = .ok (.iconst 1, 1) := by decide +kernel
theorem dL_act_135 : decode cL_act 135 = .ok (.iload_n 3, 1) := by decide +kernel
theorem dL_act_136 : decode cL_act 136 = .ok (.bipush 8, 2) := by decide +kernel
theorem dL_act_138 : decode cL_act 138 = .ok (.idiv, 1) := by decide +kernel
theorem dL_act_139 : decode cL_act 139 = .ok (.iconst 5, 1) := by decide +kernel
theorem dL_act_140 : decode cL_act 140 = .ok (.irem, 1) := by decide +kernel
theorem dL_act_141 : decode cL_act 141 = .ok (.invokestatic 126, 3) := by decide +kernel
theorem dL_act_144 : decode cL_act 144 = .ok (.lreturn, 1) := by decide +kernel
theorem dL_act_145 : decode cL_act 145 = .ok (.aload_n 0, 1) := by decide +kernel
theorem dL_act_146 : decode cL_act 146 = .ok (.iload_n 2, 1) := by decide +kernel
theorem dL_act_147 : decode cL_act 147 = .ok (.bipush 6, 2) := by decide +kernel
theorem dL_act_149 : decode cL_act 149 = .ok (.irem, 1) := by decide +kernel
theorem dL_act_150 : decode cL_act 150 = .ok (.iload_n 3, 1) := by decide +kernel
theorem dL_act_151 : decode cL_act 151 = .ok (.bipush 6, 2) := by decide +kernel
theorem dL_act_153 : decode cL_act 153 = .ok (.irem, 1) := by decide +kernel
theorem dL_act_154 : decode cL_act 154 = .ok (.iconst 2, 1) := by decide +kernel
theorem dL_act_155 : decode cL_act 155 = .ok (.iload_n 3, 1) := by decide +kernel
theorem dL_act_156 : decode cL_act 156 = .ok (.bipush 8, 2) := by decide +kernel
theorem dL_act_158 : decode cL_act 158 = .ok (.idiv, 1) := by decide +kernel
theorem dL_act_159 : decode cL_act 159 = .ok (.sipush 676, 3) := by decide +kernel
theorem dL_act_162 : decode cL_act 162 = .ok (.irem, 1) := by decide +kernel
theorem dL_act_163 : decode cL_act 163 = .ok (.invokestatic 126, 3) := by decide +kernel
theorem dL_act_166 : decode cL_act 166 = .ok (.lreturn, 1) := by decide +kernel
theorem dL_act_167 : decode cL_act 167 = .ok (.aload_n 0, 1) := by decide +kernel
theorem dL_act_168 : decode cL_act 168 = .ok (.iload_n 2, 1) := by decide +kernel
theorem dL_act_169 : decode cL_act 169 = .ok (.iconst 3, 1) := by decide +kernel
theorem dL_act_170 : decode cL_act 170 = .ok (.irem, 1) := by decide +kernel
theorem dL_act_171 : decode cL_act 171 = .ok (.iconst 1, 1) := by decide +kernel
theorem dL_act_172 : decode cL_act 172 = .ok (.iload_n 3, 1) := by decide +kernel
theorem dL_act_173 : decode cL_act 173 = .ok (.iconst 5, 1) := by decide +kernel
theorem dL_act_174 : decode cL_act 174 = .ok (.irem, 1) := by decide +kernel
theorem dL_act_175 : decode cL_act 175 = .ok (.invokestatic 128, 3) := by decide +kernel
theorem dL_act_178 : decode cL_act 178 = .ok (.lreturn, 1) := by decide +kernel
theorem dL_act_179 : decode cL_act 179 = .ok (.aload_n 0, 1) := by decide +kernel
theorem dL_act_180 : decode cL_act 180 = .ok (.iload_n 2, 1) := by decide +kernel
theorem dL_act_181 : decode cL_act 181 = .ok (.bipush 6, 2) := by decide +kernel
theorem dL_act_183 : decode cL_act 183 = .ok (.irem, 1) := by decide +kernel
theorem dL_act_184 : decode cL_act 184 = .ok (.iload_n 3, 1) := by decide +kernel
theorem dL_act_185 : decode cL_act 185 = .ok (.iconst 3, 1) := by decide +kernel
theorem dL_act_186 : decode cL_act 186 = .ok (.irem, 1) := by decide +kernel
theorem dL_act_187 : decode cL_act 187 = .ok (.invokestatic 124, 3) := by decide +kernel
theorem dL_act_190 : decode cL_act 190 = .ok (.lreturn, 1) := by decide +kernel
theorem dL_act_191 : decode cL_act 191 = .ok (.aload_n 0, 1) := by decide +kernel
theorem dL_act_192 : decode cL_act 192 = .ok (.iload_n 2, 1) := by decide +kernel
theorem dL_act_193 : decode cL_act 193 = .ok (.iconst 3, 1) := by decide +kernel
theorem dL_act_194 : decode cL_act 194 = .ok (.irem, 1) := by decide +kernel
theorem dL_act_195 : decode cL_act 195 = .ok (.iconst 1, 1) := by decide +kernel
theorem dL_act_196 : decode cL_act 196 = .ok (.iload_n 3, 1) := by decide +kernel
theorem dL_act_197 : decode cL_act 197 = .ok (.bipush 6, 2) := by decide +kernel
theorem dL_act_199 : decode cL_act 199 = .ok (.irem, 1) := by decide +kernel
theorem dL_act_200 : decode cL_act 200 = .ok (.iadd, 1) := by decide +kernel
theorem dL_act_201 : decode cL_act 201 = .ok (.invokestatic 132, 3) := by decide +kernel
theorem dL_act_204 : decode cL_act 204 = .ok (.lreturn, 1) := by decide +kernel
theorem dL_act_205 : decode cL_act 205 = .ok (.aload_n 0, 1) := by decide +kernel
theorem dL_act_206 : decode cL_act 206 = .ok (.invokestatic 177, 3) := by decide +kernel
theorem dL_act_209 : decode cL_act 209 = .ok (.lreturn, 1) := by decide +kernel
theorem dL_act_210 : decode cL_act 210 = .ok (.iload_n 3, 1) := by decide +kernel
theorem dL_act_211 : decode cL_act 211 = .ok (.iconst 2, 1) := by decide +kernel
theorem dL_act_212 : decode cL_act 212 = .ok (.irem, 1) := by decide +kernel
theorem dL_act_213 : decode cL_act 213 = .ok (.ifCond .ne 15, 3) := by decide +kernel
theorem dL_act_216 : decode cL_act 216 = .ok (.aload_n 0, 1) := by decide +kernel
theorem dL_act_217 : decode cL_act 217 = .ok (.iload_n 3, 1) := by decide +kernel
theorem dL_act_218 : decode cL_act 218 = .ok (.iconst 2, 1) := by decide +kernel
theorem dL_act_219 : decode cL_act 219 = .ok (.idiv, 1) := by decide +kernel
theorem dL_act_220 : decode cL_act 220 = .ok (.iconst 1, 1) := by decide +kernel
theorem dL_act_221 : decode cL_act 221 = .ok (.iand, 1) := by decide +kernel
theorem dL_act_222 : decode cL_act 222 = .ok (.invokestatic 149, 3) := by decide +kernel
theorem dL_act_225 : decode cL_act 225 = .ok (.goto 12, 3) := by decide +kernel
theorem dL_act_228 : decode cL_act 228 = .ok (.aload_n 0, 1) := by decide +kernel
theorem dL_act_229 : decode cL_act 229 = .ok (.iload_n 3, 1) := by decide +kernel
theorem dL_act_230 : decode cL_act 230 = .ok (.iconst 2, 1) := by decide +kernel
theorem dL_act_231 : decode cL_act 231 = .ok (.idiv, 1) := by decide +kernel
theorem dL_act_232 : decode cL_act 232 = .ok (.iconst 1, 1) := by decide +kernel
theorem dL_act_233 : decode cL_act 233 = .ok (.iand, 1) := by decide +kernel
theorem dL_act_234 : decode cL_act 234 = .ok (.invokestatic 151, 3) := by decide +kernel
theorem dL_act_237 : decode cL_act 237 = .ok (.lreturn, 1) := by decide +kernel
theorem dL_act_238 : decode cL_act 238 = .ok (.aload_n 0, 1) := by decide +kernel
theorem dL_act_239 : decode cL_act 239 = .ok (.iconst 1, 1) := by decide +kernel
theorem dL_act_240 : decode cL_act 240 = .ok (.iload_n 2, 1) := by decide +kernel
theorem dL_act_241 : decode cL_act 241 = .ok (.iconst 2, 1) := by decide +kernel
theorem dL_act_242 : decode cL_act 242 = .ok (.irem, 1) := by decide +kernel
theorem dL_act_243 : decode cL_act 243 = .ok (.iadd, 1) := by decide +kernel
theorem dL_act_244 : decode cL_act 244 = .ok (.invokestatic 130, 3) := by decide +kernel
theorem dL_act_247 : decode cL_act 247 = .ok (.lreturn, 1) := by decide +kernel
theorem dL_law_0 : decode cL_law 0 = .ok (.new 10, 3) := by decide +kernel
theorem dL_law_3 : decode cL_law 3 = .ok (.dup, 1) := by decide +kernel
theorem dL_law_4 : decode cL_law 4 = .ok (.invokespecial 193, 3) := by decide +kernel
theorem dL_law_7 : decode cL_law 7 = .ok (.astore_n 1, 1) := by decide +kernel
theorem dL_law_8 : decode cL_law 8 = .ok (.new 10, 3) := by decide +kernel
theorem dL_law_11 : decode cL_law 11 = .ok (.dup, 1) := by decide +kernel
theorem dL_law_12 : decode cL_law 12 = .ok (.invokespecial 193, 3) := by decide +kernel
theorem dL_law_15 : decode cL_law 15 = .ok (.astore_n 2, 1) := by decide +kernel
theorem dL_law_16 : decode cL_law 16 = .ok (.aload_n 1, 1) := by decide +kernel
theorem dL_law_17 : decode cL_law 17 = .ok (.aload_n 2, 1) := by decide +kernel
theorem dL_law_18 : decode cL_law 18 = .ok (.aload_n 0, 1) := by decide +kernel
theorem dL_law_19 : decode cL_law 19 = .ok (.iconst 0, 1) := by decide +kernel
theorem dL_law_20 : decode cL_law 20 = .ok (.invokestatic 194, 3) := by decide +kernel
theorem dL_law_23 : decode cL_law 23 = .ok (.invokestatic 198, 3) := by decide +kernel
theorem dL_law_26 : decode cL_law 26 = .ok (.ifCond .eq 21, 3) := by decide +kernel
theorem dL_law_29 : decode cL_law 29 = .ok (.aload_n 1, 1) := by decide +kernel
theorem dL_law_30 : decode cL_law 30 = .ok (.invokestatic 202, 3) := by decide +kernel
theorem dL_law_33 : decode cL_law 33 = .ok (.ifCond .eq 14, 3) := by decide +kernel
theorem dL_law_36 : decode cL_law 36 = .ok (.aload_n 1, 1) := by decide +kernel
theorem dL_law_37 : decode cL_law 37 = .ok (.invokestatic 206, 3) := by decide +kernel
theorem dL_law_40 : decode cL_law 40 = .ok (.ifCond .eq 7, 3) := by decide +kernel
theorem dL_law_43 : decode cL_law 43 = .ok (.iconst 1, 1) := by decide +kernel
theorem dL_law_44 : decode cL_law 44 = .ok (.goto 4, 3) := by decide +kernel
theorem dL_law_47 : decode cL_law 47 = .ok (.iconst 0, 1) := by decide +kernel
theorem dL_law_48 : decode cL_law 48 = .ok (.istore_n 3, 1) := by decide +kernel
theorem dL_law_49 : decode cL_law 49 = .ok (.iconst 0, 1) := by decide +kernel
theorem dL_law_50 : decode cL_law 50 = .ok (.istore 4, 2) := by decide +kernel
theorem dL_law_52 : decode cL_law 52 = .ok (.iload 4, 2) := by decide +kernel
theorem dL_law_54 : decode cL_law 54 = .ok (.bipush 40, 2) := by decide +kernel
theorem dL_law_56 : decode cL_law 56 = .ok (.if_icmp .ge 215, 3) := by decide +kernel
theorem dL_law_59 : decode cL_law 59 = .ok (.iload_n 3, 1) := by decide +kernel
theorem dL_law_60 : decode cL_law 60 = .ok (.ifCond .eq 211, 3) := by decide +kernel
theorem dL_law_63 : decode cL_law 63 = .ok (.aload_n 0, 1) := by decide +kernel
theorem dL_law_64 : decode cL_law 64 = .ok (.iconst 2, 1) := by decide +kernel
theorem dL_law_65 : decode cL_law 65 = .ok (.iload 4, 2) := by decide +kernel
theorem dL_law_67 : decode cL_law 67 = .ok (.imul, 1) := by decide +kernel
theorem dL_law_68 : decode cL_law 68 = .ok (.invokestatic 194, 3) := by decide +kernel
theorem dL_law_71 : decode cL_law 71 = .ok (.istore 5, 2) := by decide +kernel
theorem dL_law_73 : decode cL_law 73 = .ok (.aload_n 0, 1) := by decide +kernel
theorem dL_law_74 : decode cL_law 74 = .ok (.iconst 2, 1) := by decide +kernel
theorem dL_law_75 : decode cL_law 75 = .ok (.iload 4, 2) := by decide +kernel
theorem dL_law_77 : decode cL_law 77 = .ok (.imul, 1) := by decide +kernel
theorem dL_law_78 : decode cL_law 78 = .ok (.iconst 1, 1) := by decide +kernel
theorem dL_law_79 : decode cL_law 79 = .ok (.iadd, 1) := by decide +kernel
theorem dL_law_80 : decode cL_law 80 = .ok (.invokestatic 194, 3) := by decide +kernel
theorem dL_law_83 : decode cL_law 83 = .ok (.istore 6, 2) := by decide +kernel
theorem dL_law_85 : decode cL_law 85 = .ok (.iload 4, 2) := by decide +kernel
theorem dL_law_87 : decode cL_law 87 = .ok (.ifCond .ne 42, 3) := by decide +kernel
theorem dL_law_90 : decode cL_law 90 = .ok (.aload_n 1, 1) := by decide +kernel
theorem dL_law_91 : decode cL_law 91 = .ok (.iload 5, 2) := by decide +kernel
theorem dL_law_93 : decode cL_law 93 = .ok (.invokestatic 209, 3) := by decide +kernel
theorem dL_law_96 : decode cL_law 96 = .ok (.ifCond .eq 28, 3) := by decide +kernel
theorem dL_law_99 : decode cL_law 99 = .ok (.aload_n 2, 1) := by decide +kernel
theorem dL_law_100 : decode cL_law 100 = .ok (.iload 5, 2) := by decide +kernel
theorem dL_law_102 : decode cL_law 102 = .ok (.invokestatic 209, 3) := by decide +kernel
theorem dL_law_105 : decode cL_law 105 = .ok (.ifCond .eq 19, 3) := by decide +kernel
theorem dL_law_108 : decode cL_law 108 = .ok (.aload_n 1, 1) := by decide +kernel
theorem dL_law_109 : decode cL_law 109 = .ok (.invokestatic 213, 3) := by decide +kernel
theorem dL_law_112 : decode cL_law 112 = .ok (.aload_n 2, 1) := by decide +kernel
theorem dL_law_113 : decode cL_law 113 = .ok (.invokestatic 213, 3) := by decide +kernel
theorem dL_law_116 : decode cL_law 116 = .ok (.lcmp, 1) := by decide +kernel
theorem dL_law_117 : decode cL_law 117 = .ok (.ifCond .ne 7, 3) := by decide +kernel
theorem dL_law_120 : decode cL_law 120 = .ok (.iconst 1, 1) := by decide +kernel
theorem dL_law_121 : decode cL_law 121 = .ok (.goto 4, 3) := by decide +kernel
theorem dL_law_124 : decode cL_law 124 = .ok (.iconst 0, 1) := by decide +kernel
theorem dL_law_125 : decode cL_law 125 = .ok (.istore_n 3, 1) := by decide +kernel
theorem dL_law_126 : decode cL_law 126 = .ok (.goto 139, 3) := by decide +kernel
theorem dL_law_129 : decode cL_law 129 = .ok (.aload_n 1, 1) := by decide +kernel
theorem dL_law_130 : decode cL_law 130 = .ok (.iload 5, 2) := by decide +kernel
theorem dL_law_132 : decode cL_law 132 = .ok (.iload 6, 2) := by decide +kernel
theorem dL_law_134 : decode cL_law 134 = .ok (.invokestatic 215, 3) := by decide +kernel
theorem dL_law_137 : decode cL_law 137 = .ok (.aload_n 2, 1) := by decide +kernel
theorem dL_law_138 : decode cL_law 138 = .ok (.iload 5, 2) := by decide +kernel
theorem dL_law_140 : decode cL_law 140 = .ok (.iload 6, 2) := by decide +kernel
theorem dL_law_142 : decode cL_law 142 = .ok (.invokestatic 215, 3) := by decide +kernel
theorem dL_law_145 : decode cL_law 145 = .ok (.lcmp, 1) := by decide +kernel
theorem dL_law_146 : decode cL_law 146 = .ok (.ifCond .ne 7, 3) := by decide +kernel
theorem dL_law_149 : decode cL_law 149 = .ok (.iconst 1, 1) := by decide +kernel
theorem dL_law_150 : decode cL_law 150 = .ok (.goto 4, 3) := by decide +kernel
theorem dL_law_153 : decode cL_law 153 = .ok (.iconst 0, 1) := by decide +kernel
theorem dL_law_154 : decode cL_law 154 = .ok (.istore_n 3, 1) := by decide +kernel
theorem dL_law_155 : decode cL_law 155 = .ok (.iload 4, 2) := by decide +kernel
theorem dL_law_157 : decode cL_law 157 = .ok (.bipush 8, 2) := by decide +kernel
theorem dL_law_159 : decode cL_law 159 = .ok (.irem, 1) := by decide +kernel
theorem dL_law_160 : decode cL_law 160 = .ok (.iconst 3, 1) := by decide +kernel
theorem dL_law_161 : decode cL_law 161 = .ok (.if_icmp .ne 27, 3) := by decide +kernel
theorem dL_law_164 : decode cL_law 164 = .ok (.iload_n 3, 1) := by decide +kernel
theorem dL_law_165 : decode cL_law 165 = .ok (.ifCond .eq 21, 3) := by decide +kernel
theorem dL_law_168 : decode cL_law 168 = .ok (.aload_n 2, 1) := by decide +kernel
theorem dL_law_169 : decode cL_law 169 = .ok (.invokestatic 202, 3) := by decide +kernel
theorem dL_law_172 : decode cL_law 172 = .ok (.ifCond .eq 14, 3) := by decide +kernel
theorem dL_law_175 : decode cL_law 175 = .ok (.aload_n 2, 1) := by decide +kernel
theorem dL_law_176 : decode cL_law 176 = .ok (.invokestatic 206, 3) := by decide +kernel
theorem dL_law_179 : decode cL_law 179 = .ok (.ifCond .eq 7, 3) := by decide +kernel
theorem dL_law_182 : decode cL_law 182 = .ok (.iconst 1, 1) := by decide +kernel
theorem dL_law_183 : decode cL_law 183 = .ok (.goto 4, 3) := by decide +kernel
theorem dL_law_186 : decode cL_law 186 = .ok (.iconst 0, 1) := by decide +kernel
theorem dL_law_187 : decode cL_law 187 = .ok (.istore_n 3, 1) := by decide +kernel
theorem dL_law_188 : decode cL_law 188 = .ok (.iload 4, 2) := by decide +kernel
theorem dL_law_190 : decode cL_law 190 = .ok (.bipush 13, 2) := by decide +kernel
theorem dL_law_192 : decode cL_law 192 = .ok (.irem, 1) := by decide +kernel
theorem dL_law_193 : decode cL_law 193 = .ok (.bipush 12, 2) := by decide +kernel
theorem dL_law_195 : decode cL_law 195 = .ok (.if_icmp .ne 42, 3) := by decide +kernel
theorem dL_law_198 : decode cL_law 198 = .ok (.iload_n 3, 1) := by decide +kernel
theorem dL_law_199 : decode cL_law 199 = .ok (.ifCond .eq 36, 3) := by decide +kernel
theorem dL_law_202 : decode cL_law 202 = .ok (.aload_n 2, 1) := by decide +kernel
theorem dL_law_203 : decode cL_law 203 = .ok (.iload 6, 2) := by decide +kernel
theorem dL_law_205 : decode cL_law 205 = .ok (.invokestatic 218, 3) := by decide +kernel
theorem dL_law_208 : decode cL_law 208 = .ok (.ifCond .eq 27, 3) := by decide +kernel
theorem dL_law_211 : decode cL_law 211 = .ok (.aload_n 1, 1) := by decide +kernel
theorem dL_law_212 : decode cL_law 212 = .ok (.iconst 1, 1) := by decide +kernel
theorem dL_law_213 : decode cL_law 213 = .ok (.invokestatic 149, 3) := by decide +kernel
theorem dL_law_216 : decode cL_law 216 = .ok (.lconst 0, 1) := by decide +kernel
theorem dL_law_217 : decode cL_law 217 = .ok (.lcmp, 1) := by decide +kernel
theorem dL_law_218 : decode cL_law 218 = .ok (.ifCond .lt 17, 3) := by decide +kernel
theorem dL_law_221 : decode cL_law 221 = .ok (.aload_n 1, 1) := by decide +kernel
theorem dL_law_222 : decode cL_law 222 = .ok (.iconst 1, 1) := by decide +kernel
theorem dL_law_223 : decode cL_law 223 = .ok (.invokestatic 151, 3) := by decide +kernel
theorem dL_law_226 : decode cL_law 226 = .ok (.lconst 0, 1) := by decide +kernel
theorem dL_law_227 : decode cL_law 227 = .ok (.lcmp, 1) := by decide +kernel
theorem dL_law_228 : decode cL_law 228 = .ok (.ifCond .lt 7, 3) := by decide +kernel
theorem dL_law_231 : decode cL_law 231 = .ok (.iconst 1, 1) := by decide +kernel
theorem dL_law_232 : decode cL_law 232 = .ok (.goto 4, 3) := by decide +kernel
theorem dL_law_235 : decode cL_law 235 = .ok (.iconst 0, 1) := by decide +kernel
theorem dL_law_236 : decode cL_law 236 = .ok (.istore_n 3, 1) := by decide +kernel
theorem dL_law_237 : decode cL_law 237 = .ok (.iload_n 3, 1) := by decide +kernel
theorem dL_law_238 : decode cL_law 238 = .ok (.ifCond .eq 25, 3) := by decide +kernel
theorem dL_law_241 : decode cL_law 241 = .ok (.iload 4, 2) := by decide +kernel
theorem dL_law_243 : decode cL_law 243 = .ok (.bipush 10, 2) := by decide +kernel
theorem dL_law_245 : decode cL_law 245 = .ok (.irem, 1) := by decide +kernel
theorem dL_law_246 : decode cL_law 246 = .ok (.ifCond .gt 13, 3) := by decide +kernel
theorem dL_law_249 : decode cL_law 249 = .ok (.aload_n 1, 1) := by decide +kernel
theorem dL_law_250 : decode cL_law 250 = .ok (.aload_n 2, 1) := by decide +kernel
theorem dL_law_251 : decode cL_law 251 = .ok (.iload 6, 2) := by decide +kernel
theorem dL_law_253 : decode cL_law 253 = .ok (.invokestatic 198, 3) := by decide +kernel
theorem dL_law_256 : decode cL_law 256 = .ok (.ifCond .eq 7, 3) := by decide +kernel
theorem dL_law_259 : decode cL_law 259 = .ok (.iconst 1, 1) := by decide +kernel
theorem dL_law_260 : decode cL_law 260 = .ok (.goto 4, 3) := by decide +kernel
theorem dL_law_263 : decode cL_law 263 = .ok (.iconst 0, 1) := by decide +kernel
theorem dL_law_264 : decode cL_law 264 = .ok (.istore_n 3, 1) := by decide +kernel
theorem dL_law_265 : decode cL_law 265 = .ok (.iinc 4 1, 3) := by decide +kernel
theorem dL_law_268 : decode cL_law 268 = .ok (.goto (-216), 3) := by decide +kernel
theorem dL_law_271 : decode cL_law 271 = .ok (.iload_n 3, 1) := by decide +kernel
theorem dL_law_272 : decode cL_law 272 = .ok (.ifCond .eq 18, 3) := by decide +kernel
theorem dL_law_275 : decode cL_law 275 = .ok (.aload_n 1, 1) := by decide +kernel
theorem dL_law_276 : decode cL_law 276 = .ok (.aload_n 2, 1) := by decide +kernel
theorem dL_law_277 : decode cL_law 277 = .ok (.sipush 10859, 3) := by decide +kernel
theorem dL_law_280 : decode cL_law 280 = .ok (.invokestatic 198, 3) := by decide +kernel
theorem dL_law_283 : decode cL_law 283 = .ok (.ifCond .eq 7, 3) := by decide +kernel
theorem dL_law_286 : decode cL_law 286 = .ok (.iconst 1, 1) := by decide +kernel
theorem dL_law_287 : decode cL_law 287 = .ok (.goto 4, 3) := by decide +kernel
theorem dL_law_290 : decode cL_law 290 = .ok (.iconst 0, 1) := by decide +kernel
theorem dL_law_291 : decode cL_law 291 = .ok (.ireturn, 1) := by decide +kernel
end
section
/-! THE ABSTRACT HEAP AND THE TWO JUDGEMENTS: eV (a method stands at pc; it comes to its end with r), eM (a method called with these arguments ends with r) -/
abbrev eA : Type := (Nat × vp_A) ⊕ (Nat × List Value)
abbrev eH : Type := Nat → Option eA
def eE (cy : Nat → ClassId) (x : eA) : va_E := match x with
  | .inl a => .inl (cy a.1, a.2)
  | .inr b => .inr b
def eR (D : va_G) (cy : Nat → ClassId) (B : Nat) (h : eH) (H : Heap) : Prop := ∀ (a : Nat) (x : eA), h a = some x → B ≤ a ∧ va_at D vwCl (a, eE cy x) H
/-- the heap with one cell changed -/
def eU (h : eH) (a : Nat) (x : eA) : eH := fun q => if q = a then some x else h q
theorem eU_s (h : eH) (a : Nat) (x : eA) : eU h a x a = some x := if_pos rfl
theorem eU_n (h : eH) {a b : Nat} (x : eA) (hab : b ≠ a) : eU h a x b = h b := if_neg hab
def eTy (cy : Nat → ClassId) : List (ClassId × FieldType) := [(cy 0, .int), (cy 1, .char), (cy 2, .boolean), (cy 3, .object RX5), (cy 4, .long)]
/-- the words that a method may ask of the tables -/
def eW : List Cond := lw_tbl.filter goodWord
def eWarm : Cond → Bool
  | .methodLinkNest _ _ _ _ => true
  | .castable _ _ => true
  | .declares _ => true
  | .privateMethod _ => true
  | _ => false
def eX : List Cond := lw_tbl.filter eWarm
def eStr : List (String × Nat × String) := [("NameBenches", 71, "the text is not a registry"), ("NameBenches", 365, "no such save slot"), ("NameBenches", 345, "nothing is saved in this slot"), ("NameBenches", 130, "what is 0 to 14"), ("NameBenches", 350, "no such person"), ("NameBenches", 163, "what is 0 to 8"), ("NameBenches", 353, "no such name"), ("NameBenches", 193, "what is 0 to 7"), ("NameBenches", 197, "a place is not negative"), ("NameBenches", 206, "a rank is not negative"), ("NameBenches", 358, "no such bench"), ("NameBenches", 363, "no such letters"), ("NameBenches", 224, "a way is 0 or 1"), ("NameBenches", 230, "no such family"), ("NameBenches", 235, "an age is 0 to 99"), ("NameBenches", 240, "there are 12 people"), ("NameBenches", 254, "somebody there has such a name"), ("NameBenches", 269, "1 to 9 years go by"), ("NameBenches", 271, "there is no year above 999"), ("NameBenches", 279, "no such setting or value"), ("NameBenches", 290, "1 or 2 letters"), ("NameBenches", 299, "1 to 3 commands"), ("NameBenches", 307, "at most 6 digits for a command"), ("NameBenches", 320, "1 to 60 turns"), ("NameBenches", 49, "no such character"), ("NameBenches", 60, "the text is full"), ("NameBenches", 282, "no state is remembered")]
def eNc : List (String × String) := [("java/lang/IllegalArgumentException", "java/lang/IndexOutOfBoundsException"), ("java/lang/IllegalStateException", "java/lang/IndexOutOfBoundsException"), ("java/lang/IllegalStateException", "java/lang/IllegalArgumentException")]
/-- what the tables say beside the words -/
def eC (D : va_G) (cy : Nat → ClassId) (U : State) : Prop :=
  va_K D vwCl (eTy cy) U ∧ (∀ w ∈ eX, va_Nw w U) ∧ (∀ q ∈ eStr, ∃ sa : Nat, vk_R q.1 q.2.1 q.2.2 sa U) ∧ (∀ q ∈ eNc, va_Nc q.1 q.2 U) ∧ va_AO RX5 U
def eZ (B : Nat) (U : State) (H : Heap) : Prop := vx_Zq Bundle.tN "UNASSIGNED_STACK" Bundle.steD (fun q => B ≤ q) U H ∧ vx_Zq Bundle.tN "SUPPRESSED_SENTINEL" Bundle.listD (fun q => B ≤ q) U H
theorem eX_warm {w : Cond} (h : eWarm w = true) {s U : State} (hW : s.WarmedH U.vm) (hZ : va_Nw w s) : va_Nw w U := by
  cases w <;> first
    | exact va_Nw.warmM hW hZ
    | exact va_Nw.warmC hW hZ
    | exact va_Nw.warmD hW hZ
    | exact va_tabs rfl (rfl : (s.setVm U.vm).vm = U.vm) (by rw [Cond.privateMethod_setVm hW.alike]; exact hZ)
    | (simp [eWarm] at h)
theorem eC.warm {D : va_G} {cy : Nat → ClassId} {s U : State} (hW : s.WarmedH U.vm) (h : eC D cy s) : eC D cy U :=
  ⟨va_K.moved hW.alike h.1, fun w hw => eX_warm (List.mem_filter.mp hw).2 hW (h.2.1 w hw), fun q hq => (h.2.2.1 q hq).imp fun _ h9 => vk_R.warm hW h9, fun q hq => va_Nc.moved hW.alike (h.2.2.2.1 q hq), va_AO.moved hW.alike h.2.2.2.2⟩
theorem eC.same {D : va_G} {cy : Nat → ClassId} {u U : State} (hv : u.vm = U.vm) (h : eC D cy u) : eC D cy U := by
  refine h.warm ?_
  rw [← hv]
  exact State.WarmedH.refl u
theorem eZ.warm {B : Nat} {s U : State} {H0 H : Heap} {locs : List Loc} (hvm : s.vm.Alike U.vm) (hS : va_S (fun q => B ≤ q) H0 H locs) (h : eZ B s H0) : eZ B U H :=
  ⟨vx_Zq.moved hvm (h.1.kept hS.2.1), vx_Zq.moved hvm (h.2.kept hS.2.1)⟩
abbrev eRes : Type := (Option Value ⊕ String) × (eH → Prop) × Option Nat
def eQc (D : va_G) (cy : Nat → ClassId) (B : Nat) (r : eRes) : Array Value → State → Outcome → State → Prop := fun _ st o t =>
  (∃ v, r.1 = .inl v ∧ o = .returned v) ∧ (∃ h' : eH, r.2.1 h' ∧ eR D cy B h' t.heap) ∧ (∀ k, r.2.2 = some k → t.heap.size = k) ∧ va_F (fun q => B ≤ q) st t
def eXc (D : va_G) (cy : Nat → ClassId) (B : Nat) (r : eRes) : String → State → State → Prop := fun E st t =>
  r.1 = .inr E ∧ (∃ h' : eH, r.2.1 h' ∧ eR D cy B h' t.heap) ∧ va_F (fun q => B ≤ q) st t
def ePc (D : va_G) (cy : Nat → ClassId) (B : Nat) (args : List Value) (h : eH) (n : Nat) : Array Value → State → Prop :=
  va_Pc args (fun U => eC D cy U ∧ eZ B U U.heap ∧ B ≤ U.heap.size ∧ U.heap.size = n ∧ eR D cy B h U.heap)
/-- a contract: the code word first (its name, bytes, locals ..) -/
def eM (y : MethodName) (wd : Cond) (fr lo : Nat) (args : List Value) (h : eH) (n : Nat) (r : eRes) (mc ms : Nat) : Prop :=
  ∀ (l : Launch) (D : va_G) (cy : Nat → ClassId) (B : Nat), l.flags = flags0 →
    vx_Met l y (wd :: eW) ({ frames := fr, cells := mc, slots := ms, locals := lo }) (ePc D cy B args h n) (eQc D cy B r) (eXc D cy B r) mc ms (fun q => B ≤ q)
/-- a method: bytes, locals, answer, class, name, frames, local words, table -/
abbrev eMI : Type := ByteArray × Nat × Option FieldType × String × String × Nat × Nat × List ExceptionTableEntry × Option (Nat × Nat × (Nat → Int32))
abbrev eMI.own (M : eMI) : String := M.2.2.2.1
abbrev eMI.fr (M : eMI) : Nat := M.2.2.2.2.2.1
abbrev eMI.lo (M : eMI) : Nat := M.2.2.2.2.2.2.1
abbrev eMI.tb (M : eMI) : List ExceptionTableEntry := M.2.2.2.2.2.2.2.1
abbrev eMI.sc (M : eMI) : Option (Nat × Nat × (Nat → Int32)) := M.2.2.2.2.2.2.2.2
/-- a field's link: class place ci, field place k -/
def eFL (own : String) (index ci k : Nat) : Prop := ∃ q : vw_C, vwCl[ci]? = some q ∧ k < q.2.2 ∧ Cond.fieldLink own index (q.2.1 k).1 (q.2.1 k).2.1 (q.2.1 k).2.2.1 ∈ eW ∧ ∀ w ∈ u_ws q.1 q.2.1 q.2.2, w ∈ eW
/-- .. that may be written, of the type ty; fin: final -/
def ePL (own : String) (index ci k : Nat) (ty : FieldType) (fin : Bool) : Prop := ∃ (q : vw_C) (tf : Nat → FieldType), vwCl[ci]? = some q ∧ k < q.2.2 ∧ Cond.fieldLink own index (q.2.1 k).1 (q.2.1 k).2.1 (q.2.1 k).2.2.1 ∈ eW ∧ (∀ w ∈ u_ws q.1 q.2.1 q.2.2, w ∈ eW) ∧
  (∀ k, k < q.2.2 → parseFieldDescriptor (q.2.1 k).2.2.1 = some (tf k)) ∧ (∀ a, a < q.2.2 → ∀ b, b < q.2.2 → a ≠ b → (q.2.1 a).2.1 ≠ (q.2.1 b).2.1) ∧ (q.2.1 k).2.2.2 = fin ∧ parseFieldDescriptor (q.2.1 k).2.2.1 = some ty ∧ (fin = true → (q.2.1 k).1 = own)
/-- what a virtual call asks of the tables -/
def eLV (own : String) (idx : Nat) (C : String) (y : MethodName) (wd : Cond) (n : Nat) : Prop :=
  Cond.methodLink own idx y ∈ eW ∧ Cond.instanceMethod y ∈ eW ∧ Cond.selects C y y ∈ eW ∧ Cond.initialized C ∈ eW ∧ wd ∈ eW ∧ y.cls = C ∧ y.cls ≠ "java/lang/invoke/MethodHandle" ∧ y.cls ≠ "java/lang/invoke/VarHandle" ∧ (parseMethodDescriptor y.desc).map (fun d => d.parameters.length) = some n
def eLS (own : String) (idx : Nat) (y : MethodName) (wd : Cond) (n : Nat) : Prop :=
  Cond.methodLink own idx y ∈ eW ∧ Cond.static y ∈ eW ∧ Cond.initialized y.cls ∈ eW ∧ wd ∈ eW ∧ y.cls ≠ "java/lang/invoke/MethodHandle" ∧ y.cls ≠ "java/lang/invoke/VarHandle" ∧ (parseMethodDescriptor y.desc).map (fun d => d.parameters.length) = some n
/-- a nest mate's private method (static, or a constructor) -/
def eLN (own : String) (idx : Nat) (y : MethodName) (wd : Cond) (n : Nat) (host : String) : Prop :=
  Cond.methodLinkNest own idx y host ∈ eX ∧ Cond.initialized y.cls ∈ eW ∧ wd ∈ eW ∧ y.cls ≠ "java/lang/invoke/MethodHandle" ∧ y.cls ≠ "java/lang/invoke/VarHandle" ∧ (parseMethodDescriptor y.desc).map (fun d => d.parameters.length) = some n
end
section
theorem eT_in {w : Cond} (i : Nat) (h : tables_1[i]? = some w) (g : goodWord w = true) : w ∈ eW := List.mem_filter.mpr ⟨List.mem_append_right _ (List.mem_of_getElem? h), g⟩
theorem eX_in {w : Cond} (i : Nat) (h : tables_1[i]? = some w) (g : eWarm w = true) : w ∈ eX := List.mem_filter.mpr ⟨List.mem_append_right _ (List.mem_of_getElem? h), g⟩
theorem eS_in {w : Cond} (i : Nat) (h : (k2_sels lw_privs)[i]? = some w) (g : goodWord w = true) : w ∈ eW := List.mem_filter.mpr ⟨List.mem_append_left _ (List.mem_of_getElem? h), g⟩
theorem wyX10_init : Cond.code yX10_init cX10_init 1 none ∈ eW := eT_in 24 (by decide +kernel) rfl
theorem wcO : Cond.code Lib.objectInit ⟨#[0xb1]⟩ 1 none ∈ eW := eT_in 27 (by decide +kernel) rfl
theorem wyX9_init : Cond.code yX9_init cX9_init 1 none ∈ eW := eT_in 32 (by decide +kernel) rfl
theorem wyX5_init : Cond.code yX5_init cX5_init 2 none ∈ eW := eT_in 62 (by decide +kernel) rfl
theorem wyX4_init : Cond.code yX4_init cX4_init 1 none ∈ eW := eT_in 68 (by decide +kernel) rfl
theorem wyX2_init : Cond.code yX2_init cX2_init 1 none ∈ eW := eT_in 105 (by decide +kernel) rfl
theorem wyX3_init : Cond.code yX3_init cX3_init 2 none ∈ eW := eT_in 192 (by decide +kernel) rfl
theorem wyX8_init : Cond.code yX8_init cX8_init 2 none ∈ eW := eT_in 212 (by decide +kernel) rfl
theorem wyX1_init : Cond.code yX1_init cX1_init 1 none ∈ eW := eT_in 229 (by decide +kernel) rfl
theorem wyL_draw : Cond.code yL_draw cL_draw 2 (some .int) ∈ eW := eT_in 256 (by decide +kernel) rfl
theorem wyX10_load : Cond.code yX10_load cX10_load 3 (some .int) ∈ eW := eT_in 266 (by decide +kernel) rfl
theorem wyX9_firstError : Cond.code yX9_firstError cX9_firstError 2 (some .int) ∈ eW := eT_in 270 (by decide +kernel) rfl
theorem wyX9_readHead : Cond.code yX9_readHead cX9_readHead 1 (some .boolean) ∈ eW := eT_in 274 (by decide +kernel) rfl
theorem wyX9_reads : Cond.code yX9_reads cX9_reads 2 (some .boolean) ∈ eW := eT_in 278 (by decide +kernel) rfl
theorem wyX9_here : Cond.code yX9_here cX9_here 1 (some .int) ∈ eW := eT_in 282 (by decide +kernel) rfl
theorem wyX9_readCommand : Cond.code yX9_readCommand cX9_readCommand 1 (some .boolean) ∈ eW := eT_in 286 (by decide +kernel) rfl
theorem wyX9_readsPair : Cond.code yX9_readsPair cX9_readsPair 4 (some .boolean) ∈ eW := eT_in 290 (by decide +kernel) rfl
theorem wyX9_takeDigit : Cond.code yX9_takeDigit cX9_takeDigit 4 (some .int) ∈ eW := eT_in 294 (by decide +kernel) rfl
theorem wyX9_tells : Cond.code yX9_tells cX9_tells 2 (some .boolean) ∈ eW := eT_in 298 (by decide +kernel) rfl
theorem wyX9_readsDigit : Cond.code yX9_readsDigit cX9_readsDigit 4 (some .boolean) ∈ eW := eT_in 302 (by decide +kernel) rfl
theorem wyX9_readsLetters : Cond.code yX9_readsLetters cX9_readsLetters 4 (some .boolean) ∈ eW := eT_in 306 (by decide +kernel) rfl
theorem wyX5_empty : Cond.code yX5_empty cX5_empty 2 none ∈ eW := eT_in 378 (by decide +kernel) rfl
theorem wyX3_forgetAll : Cond.code yX3_forgetAll cX3_forgetAll 1 none ∈ eW := eT_in 382 (by decide +kernel) rfl
theorem wyX8_forgetAll : Cond.code yX8_forgetAll cX8_forgetAll 2 none ∈ eW := eT_in 386 (by decide +kernel) rfl
theorem wyX5_obeys : Cond.code yX5_obeys cX5_obeys 3 (some .boolean) ∈ eW := eT_in 392 (by decide +kernel) rfl
theorem wyX5_triesPerson : Cond.code yX5_triesPerson cX5_triesPerson 4 (some .boolean) ∈ eW := eT_in 396 (by decide +kernel) rfl
theorem wyX10_isFamily : Cond.code yX10_isFamily cX10_isFamily 1 (some .boolean) ∈ eW := eT_in 399 (by decide +kernel) rfl
theorem wyX10_isBench : Cond.code yX10_isBench cX10_isBench 1 (some .boolean) ∈ eW := eT_in 402 (by decide +kernel) rfl
theorem wyX10_isAgeToCome : Cond.code yX10_isAgeToCome cX10_isAgeToCome 1 (some .boolean) ∈ eW := eT_in 405 (by decide +kernel) rfl
theorem wyX4_isFull : Cond.code yX4_isFull cX4_isFull 1 (some .boolean) ∈ eW := eT_in 409 (by decide +kernel) rfl
theorem wyX4_add : Cond.code yX4_add cX4_add 4 none ∈ eW := eT_in 413 (by decide +kernel) rfl
theorem wyX5_triesGiving : Cond.code yX5_triesGiving cX5_triesGiving 5 (some .boolean) ∈ eW := eT_in 418 (by decide +kernel) rfl
theorem wyX4_has : Cond.code yX4_has cX4_has 2 (some .boolean) ∈ eW := eT_in 422 (by decide +kernel) rfl
theorem wyX0_isCode : Cond.code yX0_isCode cX0_isCode 2 (some .boolean) ∈ eW := eT_in 425 (by decide +kernel) rfl
theorem wyX0_codes : Cond.code yX0_codes cX0_codes 3 (some .int) ∈ eW := eT_in 428 (by decide +kernel) rfl
theorem wyX5_reasonAgainst : Cond.code yX5_reasonAgainst cX5_reasonAgainst 6 (some .int) ∈ eW := eT_in 432 (by decide +kernel) rfl
theorem wyX5_reasonAgainstAnyName : Cond.code yX5_reasonAgainstAnyName cX5_reasonAgainstAnyName 3 (some .int) ∈ eW := eT_in 436 (by decide +kernel) rfl
theorem wyX4_areBrothers : Cond.code yX4_areBrothers cX4_areBrothers 3 (some .boolean) ∈ eW := eT_in 440 (by decide +kernel) rfl
theorem wyX2_aliveOf : Cond.code yX2_aliveOf cX2_aliveOf 4 (some .int) ∈ eW := eT_in 444 (by decide +kernel) rfl
theorem wyX5_isTaken : Cond.code yX5_isTaken cX5_isTaken 7 (some .boolean) ∈ eW := eT_in 448 (by decide +kernel) rfl
theorem wyX2_isAliveAs : Cond.code yX2_isAliveAs cX2_isAliveAs 4 (some .boolean) ∈ eW := eT_in 452 (by decide +kernel) rfl
theorem wyX2_isFull : Cond.code yX2_isFull cX2_isFull 1 (some .boolean) ∈ eW := eT_in 456 (by decide +kernel) rfl
theorem wyX2_add : Cond.code yX2_add cX2_add 6 none ∈ eW := eT_in 460 (by decide +kernel) rfl
theorem wyX5_callFor : Cond.code yX5_callFor cX5_callFor 6 (some .int) ∈ eW := eT_in 465 (by decide +kernel) rfl
theorem wyX5_meantByPeople : Cond.code yX5_meantByPeople cX5_meantByPeople 5 (some .int) ∈ eW := eT_in 469 (by decide +kernel) rfl
theorem wyX2_aliveNameOf : Cond.code yX2_aliveNameOf cX2_aliveNameOf 5 (some .int) ∈ eW := eT_in 473 (by decide +kernel) rfl
theorem wyX5_firstBrotherNamed : Cond.code yX5_firstBrotherNamed cX5_firstBrotherNamed 5 (some .int) ∈ eW := eT_in 478 (by decide +kernel) rfl
theorem wyX2_use : Cond.code yX2_use cX2_use 4 none ∈ eW := eT_in 482 (by decide +kernel) rfl
theorem wyX5_mixUp : Cond.code yX5_mixUp cX5_mixUp 3 none ∈ eW := eT_in 486 (by decide +kernel) rfl
theorem wyX5_passYears : Cond.code yX5_passYears cX5_passYears 4 (some .int) ∈ eW := eT_in 490 (by decide +kernel) rfl
theorem wyX10_isYearsAtOnce : Cond.code yX10_isYearsAtOnce cX10_isYearsAtOnce 1 (some .boolean) ∈ eW := eT_in 493 (by decide +kernel) rfl
theorem wyX4_growOlder : Cond.code yX4_growOlder cX4_growOlder 2 none ∈ eW := eT_in 497 (by decide +kernel) rfl
theorem wyX5_endNames : Cond.code yX5_endNames cX5_endNames 4 (some .int) ∈ eW := eT_in 501 (by decide +kernel) rfl
theorem wyX2_isAlive : Cond.code yX2_isAlive cX2_isAlive 2 (some .boolean) ∈ eW := eT_in 505 (by decide +kernel) rfl
theorem wyX5_oldestFor : Cond.code yX5_oldestFor cX5_oldestFor 2 (some .int) ∈ eW := eT_in 509 (by decide +kernel) rfl
theorem wyX5_outgrow : Cond.code yX5_outgrow cX5_outgrow 4 none ∈ eW := eT_in 513 (by decide +kernel) rfl
theorem wyX5_heirOf : Cond.code yX5_heirOf cX5_heirOf 5 (some .int) ∈ eW := eT_in 517 (by decide +kernel) rfl
theorem wyX4_isYoungerBeside : Cond.code yX4_isYoungerBeside cX4_isYoungerBeside 3 (some .boolean) ∈ eW := eT_in 521 (by decide +kernel) rfl
theorem wyX5_triesSitting : Cond.code yX5_triesSitting cX5_triesSitting 3 (some .boolean) ∈ eW := eT_in 525 (by decide +kernel) rfl
theorem wyX5_isKeptFrom : Cond.code yX5_isKeptFrom cX5_isKeptFrom 4 (some .boolean) ∈ eW := eT_in 529 (by decide +kernel) rfl
theorem wyX5_triesSetting : Cond.code yX5_triesSetting cX5_triesSetting 3 (some .boolean) ∈ eW := eT_in 533 (by decide +kernel) rfl
theorem wyX10_isSettingWith : Cond.code yX10_isSettingWith cX10_isSettingWith 3 (some .boolean) ∈ eW := eT_in 536 (by decide +kernel) rfl
theorem wyX10_save : Cond.code yX10_save cX10_save 2 (some .int) ∈ eW := eT_in 545 (by decide +kernel) rfl
theorem wyX10_requireSlot : Cond.code yX10_requireSlot cX10_requireSlot 1 none ∈ eW := eT_in 548 (by decide +kernel) rfl
theorem wyX5_copyFrom : Cond.code yX5_copyFrom cX5_copyFrom 2 none ∈ eW := eT_in 568 (by decide +kernel) rfl
theorem wyX4_copyFrom : Cond.code yX4_copyFrom cX4_copyFrom 2 none ∈ eW := eT_in 572 (by decide +kernel) rfl
theorem wyX2_copyFrom : Cond.code yX2_copyFrom cX2_copyFrom 2 none ∈ eW := eT_in 579 (by decide +kernel) rfl
theorem wyX10_restore : Cond.code yX10_restore cX10_restore 2 (some .int) ∈ eW := eT_in 589 (by decide +kernel) rfl
theorem wyL_errors : Cond.code yL_errors cL_errors 6 (some .boolean) ∈ eW := eT_in 593 (by decide +kernel) rfl
theorem wyL_now : Cond.code yL_now cL_now 5 (some .long) ∈ eW := eT_in 596 (by decide +kernel) rfl
theorem wyX10_about : Cond.code yX10_about cX10_about 2 (some .int) ∈ eW := eT_in 606 (by decide +kernel) rfl
theorem wyX2_inState : Cond.code yX2_inState cX2_inState 4 (some .int) ∈ eW := eT_in 610 (by decide +kernel) rfl
theorem wyX2_usesTogether : Cond.code yX2_usesTogether cX2_usesTogether 3 (some .int) ∈ eW := eT_in 614 (by decide +kernel) rfl
theorem wyX10_personOf : Cond.code yX10_personOf cX10_personOf 3 (some .int) ∈ eW := eT_in 638 (by decide +kernel) rfl
theorem wyX10_requirePerson : Cond.code yX10_requirePerson cX10_requirePerson 2 none ∈ eW := eT_in 642 (by decide +kernel) rfl
theorem wyX4_brothersOf : Cond.code yX4_brothersOf cX4_brothersOf 4 (some .int) ∈ eW := eT_in 649 (by decide +kernel) rfl
theorem wyX2_givenBy : Cond.code yX2_givenBy cX2_givenBy 4 (some .int) ∈ eW := eT_in 654 (by decide +kernel) rfl
theorem wyX2_stuckGivenBy : Cond.code yX2_stuckGivenBy cX2_stuckGivenBy 4 (some .int) ∈ eW := eT_in 658 (by decide +kernel) rfl
theorem wyX10_nameOf : Cond.code yX10_nameOf cX10_nameOf 3 (some .int) ∈ eW := eT_in 666 (by decide +kernel) rfl
theorem wyX10_requireName : Cond.code yX10_requireName cX10_requireName 2 none ∈ eW := eT_in 670 (by decide +kernel) rfl
theorem wyX2_has : Cond.code yX2_has cX2_has 2 (some .boolean) ∈ eW := eT_in 674 (by decide +kernel) rfl
theorem wyX10_letter : Cond.code yX10_letter cX10_letter 3 (some .int) ∈ eW := eT_in 683 (by decide +kernel) rfl
theorem wyX0_at : Cond.code yX0_at cX0_at 5 (some .int) ∈ eW := eT_in 687 (by decide +kernel) rfl
theorem wyX10_roll : Cond.code yX10_roll cX10_roll 2 (some .int) ∈ eW := eT_in 694 (by decide +kernel) rfl
theorem wyX2_ranked : Cond.code yX2_ranked cX2_ranked 3 (some .int) ∈ eW := eT_in 699 (by decide +kernel) rfl
theorem wyX2_aliveAheadOf : Cond.code yX2_aliveAheadOf cX2_aliveAheadOf 6 (some .int) ∈ eW := eT_in 704 (by decide +kernel) rfl
theorem wyX0_dictionaryKey : Cond.code yX0_dictionaryKey cX0_dictionaryKey 4 (some .int) ∈ eW := eT_in 707 (by decide +kernel) rfl
theorem wyX10_meant : Cond.code yX10_meant cX10_meant 5 (some .int) ∈ eW := eT_in 715 (by decide +kernel) rfl
theorem wyX10_requireBench : Cond.code yX10_requireBench cX10_requireBench 1 none ∈ eW := eT_in 718 (by decide +kernel) rfl
theorem wyX10_requireCode : Cond.code yX10_requireCode cX10_requireCode 2 none ∈ eW := eT_in 723 (by decide +kernel) rfl
theorem wyX5_meantByNames : Cond.code yX5_meantByNames cX5_meantByNames 8 (some .int) ∈ eW := eT_in 730 (by decide +kernel) rfl
theorem wyX4_firstBrotherOn : Cond.code yX4_firstBrotherOn cX4_firstBrotherOn 4 (some .int) ∈ eW := eT_in 734 (by decide +kernel) rfl
theorem wyX10_person : Cond.code yX10_person cX10_person 4 (some .int) ∈ eW := eT_in 742 (by decide +kernel) rfl
theorem wyX3_remember : Cond.code yX3_remember cX3_remember 2 none ∈ eW := eT_in 752 (by decide +kernel) rfl
theorem wyX10_sit : Cond.code yX10_sit cX10_sit 4 (some .int) ∈ eW := eT_in 761 (by decide +kernel) rfl
theorem wyX10_give : Cond.code yX10_give cX10_give 6 (some .int) ∈ eW := eT_in 770 (by decide +kernel) rfl
theorem wyX10_call : Cond.code yX10_call cX10_call 5 (some .int) ∈ eW := eT_in 779 (by decide +kernel) rfl
theorem wyX10_years : Cond.code yX10_years cX10_years 2 (some .int) ∈ eW := eT_in 787 (by decide +kernel) rfl
theorem wyX10_set : Cond.code yX10_set cX10_set 4 (some .int) ∈ eW := eT_in 798 (by decide +kernel) rfl
theorem wyX10_why : Cond.code yX10_why cX10_why 5 (some .int) ∈ eW := eT_in 807 (by decide +kernel) rfl
theorem wyX10_endsIn : Cond.code yX10_endsIn cX10_endsIn 2 (some .int) ∈ eW := eT_in 814 (by decide +kernel) rfl
theorem wyX5_yearsLeft : Cond.code yX5_yearsLeft cX5_yearsLeft 4 (some .int) ∈ eW := eT_in 818 (by decide +kernel) rfl
theorem wyJ9_min_7cf53 : Cond.code yJ9_min_7cf53 cJ9_min_7cf53 2 (some .int) ∈ eW := eT_in 821 (by decide +kernel) rfl
theorem wyJ9_max_7cf53 : Cond.code yJ9_max_7cf53 cJ9_max_7cf53 2 (some .int) ∈ eW := eT_in 824 (by decide +kernel) rfl
theorem wyX10_bestName : Cond.code yX10_bestName cX10_bestName 4 (some .int) ∈ eW := eT_in 831 (by decide +kernel) rfl
theorem wyX1_bestCode : Cond.code yX1_bestCode cX1_bestCode 10 (some .int) ∈ eW := eT_in 836 (by decide +kernel) rfl
theorem wyX1_countNames : Cond.code yX1_countNames cX1_countNames 3 none ∈ eW := eT_in 842 (by decide +kernel) rfl
theorem wyX1_countLetters : Cond.code yX1_countLetters cX1_countLetters 4 none ∈ eW := eT_in 847 (by decide +kernel) rfl
theorem wyX0_isRepeated : Cond.code yX0_isRepeated cX0_isRepeated 4 (some .boolean) ∈ eW := eT_in 850 (by decide +kernel) rfl
theorem wyX1_namesWithLettersOf : Cond.code yX1_namesWithLettersOf cX1_namesWithLettersOf 5 (some .int) ∈ eW := eT_in 856 (by decide +kernel) rfl
theorem wyX10_runScript : Cond.code yX10_runScript cX10_runScript 5 (some .int) ∈ eW := eT_in 864 (by decide +kernel) rfl
theorem wyX6_beyond : Cond.code yX6_beyond cX6_beyond 4 (some .long) ∈ eW := eT_in 868 (by decide +kernel) rfl
theorem wyX6_group : Cond.code yX6_group cX6_group 7 (some .int) ∈ eW := eT_in 873 (by decide +kernel) rfl
theorem wyX6_succeeds : Cond.code yX6_succeeds cX6_succeeds 7 (some .boolean) ∈ eW := eT_in 876 (by decide +kernel) rfl
theorem wyX6_hasNames : Cond.code yX6_hasNames cX6_hasNames 3 (some .boolean) ∈ eW := eT_in 885 (by decide +kernel) rfl
theorem wyX6_means : Cond.code yX6_means cX6_means 4 (some .boolean) ∈ eW := eT_in 890 (by decide +kernel) rfl
theorem wyX6_isInState : Cond.code yX6_isInState cX6_isInState 3 (some .boolean) ∈ eW := eT_in 897 (by decide +kernel) rfl
theorem wyX10_simulate : Cond.code yX10_simulate cX10_simulate 7 (some .int) ∈ eW := eT_in 906 (by decide +kernel) rfl
theorem wyX7_takeTurn : Cond.code yX7_takeTurn cX7_takeTurn 3 none ∈ eW := eT_in 912 (by decide +kernel) rfl
theorem wyX2_alive : Cond.code yX2_alive cX2_alive 1 (some .int) ∈ eW := eT_in 922 (by decide +kernel) rfl
theorem wyX10_append : Cond.code yX10_append cX10_append 2 (some .int) ∈ eW := eT_in 930 (by decide +kernel) rfl
theorem wyX9_put : Cond.code yX9_put cX9_put 2 none ∈ eW := eT_in 936 (by decide +kernel) rfl
set_option maxRecDepth 100000 in
set_option maxHeartbeats 4000000 in
theorem wyL_kept : Cond.code yL_kept cL_kept 24 (some .boolean) ∈ eW := eT_in 939 (by rfl) rfl
theorem wyL_in : Cond.code yL_in cL_in 6 (some .boolean) ∈ eW := eT_in 946 (by decide +kernel) rfl
theorem wyX10_bestGiver : Cond.code yX10_bestGiver cX10_bestGiver 3 (some .int) ∈ eW := eT_in 951 (by decide +kernel) rfl
theorem wyX2_sticksBetter : Cond.code yX2_sticksBetter cX2_sticksBetter 5 (some .boolean) ∈ eW := eT_in 955 (by decide +kernel) rfl
theorem wyX10_mixed : Cond.code yX10_mixed cX10_mixed 3 (some .int) ∈ eW := eT_in 961 (by decide +kernel) rfl
theorem wyL_follows : Cond.code yL_follows cL_follows 17 (some .boolean) ∈ eW := eT_in 964 (by decide +kernel) rfl
theorem wyX10_undo : Cond.code yX10_undo cX10_undo 1 (some .int) ∈ eW := eT_in 972 (by decide +kernel) rfl
theorem wyX3_takeBack : Cond.code yX3_takeBack cX3_takeBack 2 none ∈ eW := eT_in 977 (by decide +kernel) rfl
theorem wyL_alike : Cond.code yL_alike cL_alike 3 (some .boolean) ∈ eW := eT_in 980 (by decide +kernel) rfl
theorem wyX10_errorPosition : Cond.code yX10_errorPosition cX10_errorPosition 1 (some .int) ∈ eW := eT_in 984 (by decide +kernel) rfl
theorem wyL_told : Cond.code yL_told cL_told 5 (some .boolean) ∈ eW := eT_in 989 (by decide +kernel) rfl
theorem wyX10_clearText : Cond.code yX10_clearText cX10_clearText 2 (some .int) ∈ eW := eT_in 993 (by decide +kernel) rfl
theorem wyL_says : Cond.code yL_says cL_says 5 (some .boolean) ∈ eW := eT_in 996 (by decide +kernel) rfl
theorem wyL_act : Cond.code yL_act cL_act 4 (some .long) ∈ eW := eT_in 999 (by decide +kernel) rfl
theorem wyL_load : Cond.codeWith yL_load cL_load 2 (some .long) [(0, 5, 6, 19)] ∈ eW := eT_in 261 (by decide +kernel) rfl
theorem wyL_save : Cond.codeWith yL_save cL_save 3 (some .long) [(0, 6, 7, 34)] ∈ eW := eT_in 540 (by decide +kernel) rfl
theorem wyL_restore : Cond.codeWith yL_restore cL_restore 3 (some .long) [(0, 6, 7, 34), (0, 6, 12, 19)] ∈ eW := eT_in 585 (by decide +kernel) rfl
theorem wyL_about : Cond.codeWith yL_about cL_about 3 (some .long) [(0, 6, 7, 15)] ∈ eW := eT_in 601 (by decide +kernel) rfl
theorem wyL_personOf : Cond.codeWith yL_personOf cL_personOf 4 (some .long) [(0, 7, 8, 34), (0, 7, 13, 15)] ∈ eW := eT_in 634 (by decide +kernel) rfl
theorem wyL_nameOf : Cond.codeWith yL_nameOf cL_nameOf 4 (some .long) [(0, 7, 8, 34), (0, 7, 13, 15)] ∈ eW := eT_in 662 (by decide +kernel) rfl
theorem wyL_letter : Cond.codeWith yL_letter cL_letter 4 (some .long) [(0, 7, 8, 34)] ∈ eW := eT_in 679 (by decide +kernel) rfl
theorem wyL_roll : Cond.codeWith yL_roll cL_roll 3 (some .long) [(0, 6, 7, 15)] ∈ eW := eT_in 690 (by decide +kernel) rfl
theorem wyL_meant : Cond.codeWith yL_meant cL_meant 6 (some .long) [(0, 10, 11, 34), (0, 10, 17, 15)] ∈ eW := eT_in 711 (by decide +kernel) rfl
theorem wyL_person : Cond.codeWith yL_person cL_person 5 (some .long) [(0, 8, 9, 34), (0, 8, 15, 15), (0, 8, 21, 19)] ∈ eW := eT_in 738 (by decide +kernel) rfl
theorem wyL_sit : Cond.codeWith yL_sit cL_sit 4 (some .long) [(0, 7, 8, 34), (0, 7, 13, 19)] ∈ eW := eT_in 757 (by decide +kernel) rfl
theorem wyL_give : Cond.codeWith yL_give cL_give 6 (some .long) [(0, 10, 11, 34), (0, 10, 17, 15)] ∈ eW := eT_in 766 (by decide +kernel) rfl
theorem wyL_call : Cond.codeWith yL_call cL_call 5 (some .long) [(0, 8, 9, 34), (0, 8, 15, 15)] ∈ eW := eT_in 775 (by decide +kernel) rfl
theorem wyL_years : Cond.codeWith yL_years cL_years 3 (some .long) [(0, 6, 7, 15), (0, 6, 12, 19)] ∈ eW := eT_in 783 (by decide +kernel) rfl
theorem wyL_set : Cond.codeWith yL_set cL_set 4 (some .long) [(0, 7, 8, 15)] ∈ eW := eT_in 794 (by decide +kernel) rfl
theorem wyL_why : Cond.codeWith yL_why cL_why 6 (some .long) [(0, 10, 11, 34), (0, 10, 17, 15)] ∈ eW := eT_in 803 (by decide +kernel) rfl
theorem wyL_endsIn : Cond.codeWith yL_endsIn cL_endsIn 3 (some .long) [(0, 6, 7, 34)] ∈ eW := eT_in 810 (by decide +kernel) rfl
theorem wyL_bestName : Cond.codeWith yL_bestName cL_bestName 5 (some .long) [(0, 8, 9, 34), (0, 8, 15, 15)] ∈ eW := eT_in 827 (by decide +kernel) rfl
theorem wyL_script : Cond.codeWith yL_script cL_script 5 (some .long) [(0, 7, 8, 15)] ∈ eW := eT_in 860 (by decide +kernel) rfl
theorem wyL_simulate : Cond.codeWith yL_simulate cL_simulate 5 (some .long) [(0, 7, 8, 15)] ∈ eW := eT_in 902 (by decide +kernel) rfl
theorem wyL_append : Cond.codeWith yL_append cL_append 3 (some .long) [(0, 6, 7, 15), (0, 6, 12, 19)] ∈ eW := eT_in 926 (by decide +kernel) rfl
theorem wyL_undo : Cond.codeWith yL_undo cL_undo 2 (some .long) [(0, 5, 6, 19)] ∈ eW := eT_in 968 (by decide +kernel) rfl
theorem wi_L : Cond.initialized RL ∈ eW := eT_in 0 (by decide +kernel) rfl
theorem wi_X10 : Cond.initialized RX10 ∈ eW := eT_in 1 (by decide +kernel) rfl
theorem wi_X9 : Cond.initialized RX9 ∈ eW := eT_in 2 (by decide +kernel) rfl
theorem wi_X5 : Cond.initialized RX5 ∈ eW := eT_in 3 (by decide +kernel) rfl
theorem wi_X4 : Cond.initialized RX4 ∈ eW := eT_in 4 (by decide +kernel) rfl
theorem wi_X2 : Cond.initialized RX2 ∈ eW := eT_in 5 (by decide +kernel) rfl
theorem wi_X3 : Cond.initialized RX3 ∈ eW := eT_in 6 (by decide +kernel) rfl
theorem wi_X8 : Cond.initialized RX8 ∈ eW := eT_in 7 (by decide +kernel) rfl
theorem wi_X1 : Cond.initialized RX1 ∈ eW := eT_in 8 (by decide +kernel) rfl
theorem wi_java_lang_Throwable : Cond.initialized "java/lang/Throwable" ∈ eW := eT_in 9 (by decide +kernel) rfl
theorem wi_java_lang_Exception : Cond.initialized "java/lang/Exception" ∈ eW := eT_in 10 (by decide +kernel) rfl
theorem wi_java_lang_RuntimeException : Cond.initialized "java/lang/RuntimeException" ∈ eW := eT_in 11 (by decide +kernel) rfl
theorem wi_java_lang_IllegalArgumentException : Cond.initialized "java/lang/IllegalArgumentException" ∈ eW := eT_in 12 (by decide +kernel) rfl
theorem wi_java_lang_IndexOutOfBoundsException : Cond.initialized "java/lang/IndexOutOfBoundsException" ∈ eW := eT_in 13 (by decide +kernel) rfl
theorem wi_X0 : Cond.initialized RX0 ∈ eW := eT_in 14 (by decide +kernel) rfl
theorem wi_J10 : Cond.initialized RJ10 ∈ eW := eT_in 15 (by decide +kernel) rfl
theorem wi_X7 : Cond.initialized RX7 ∈ eW := eT_in 16 (by decide +kernel) rfl
theorem wi_X6 : Cond.initialized RX6 ∈ eW := eT_in 17 (by decide +kernel) rfl
theorem wi_java_lang_IllegalStateException : Cond.initialized "java/lang/IllegalStateException" ∈ eW := eT_in 18 (by decide +kernel) rfl
theorem wi_J9 : Cond.initialized RJ9 ∈ eW := eT_in 19 (by decide +kernel) rfl
theorem wm_yX10_init : Cond.instanceMethod yX10_init ∈ eW := eT_in 23 (by decide +kernel) rfl
theorem wm_objectInit : Cond.instanceMethod Lib.objectInit ∈ eW := eT_in 26 (by decide +kernel) rfl
theorem wm_yX9_init : Cond.instanceMethod yX9_init ∈ eW := eT_in 31 (by decide +kernel) rfl
theorem wm_yX5_init : Cond.instanceMethod yX5_init ∈ eW := eT_in 61 (by decide +kernel) rfl
theorem wm_yX4_init : Cond.instanceMethod yX4_init ∈ eW := eT_in 67 (by decide +kernel) rfl
theorem wm_yX2_init : Cond.instanceMethod yX2_init ∈ eW := eT_in 104 (by decide +kernel) rfl
theorem wm_yX3_init : Cond.instanceMethod yX3_init ∈ eW := eT_in 191 (by decide +kernel) rfl
theorem wm_yX8_init : Cond.instanceMethod yX8_init ∈ eW := eT_in 211 (by decide +kernel) rfl
theorem wm_yX1_init : Cond.instanceMethod yX1_init ∈ eW := eT_in 228 (by decide +kernel) rfl
theorem wm_yX10_load : Cond.instanceMethod yX10_load ∈ eW := eT_in 264 (by decide +kernel) rfl
theorem wm_yX9_firstError : Cond.instanceMethod yX9_firstError ∈ eW := eT_in 268 (by decide +kernel) rfl
theorem wm_yX9_readHead : Cond.instanceMethod yX9_readHead ∈ eW := eT_in 272 (by decide +kernel) rfl
theorem wm_yX9_reads : Cond.instanceMethod yX9_reads ∈ eW := eT_in 276 (by decide +kernel) rfl
theorem wm_yX9_here : Cond.instanceMethod yX9_here ∈ eW := eT_in 280 (by decide +kernel) rfl
theorem wm_yX9_readCommand : Cond.instanceMethod yX9_readCommand ∈ eW := eT_in 284 (by decide +kernel) rfl
theorem wm_yX9_readsPair : Cond.instanceMethod yX9_readsPair ∈ eW := eT_in 288 (by decide +kernel) rfl
theorem wm_yX9_takeDigit : Cond.instanceMethod yX9_takeDigit ∈ eW := eT_in 292 (by decide +kernel) rfl
theorem wm_yX9_tells : Cond.instanceMethod yX9_tells ∈ eW := eT_in 296 (by decide +kernel) rfl
theorem wm_yX9_readsDigit : Cond.instanceMethod yX9_readsDigit ∈ eW := eT_in 300 (by decide +kernel) rfl
theorem wm_yX9_readsLetters : Cond.instanceMethod yX9_readsLetters ∈ eW := eT_in 304 (by decide +kernel) rfl
theorem wm_yX5_empty : Cond.instanceMethod yX5_empty ∈ eW := eT_in 376 (by decide +kernel) rfl
theorem wm_yX3_forgetAll : Cond.instanceMethod yX3_forgetAll ∈ eW := eT_in 380 (by decide +kernel) rfl
theorem wm_yX8_forgetAll : Cond.instanceMethod yX8_forgetAll ∈ eW := eT_in 384 (by decide +kernel) rfl
theorem wm_yX5_obeys : Cond.instanceMethod yX5_obeys ∈ eW := eT_in 390 (by decide +kernel) rfl
theorem wm_yX5_triesPerson : Cond.instanceMethod yX5_triesPerson ∈ eW := eT_in 394 (by decide +kernel) rfl
theorem wm_yX4_isFull : Cond.instanceMethod yX4_isFull ∈ eW := eT_in 407 (by decide +kernel) rfl
theorem wm_yX4_add : Cond.instanceMethod yX4_add ∈ eW := eT_in 411 (by decide +kernel) rfl
theorem wm_yX5_triesGiving : Cond.instanceMethod yX5_triesGiving ∈ eW := eT_in 416 (by decide +kernel) rfl
theorem wm_yX4_has : Cond.instanceMethod yX4_has ∈ eW := eT_in 420 (by decide +kernel) rfl
theorem wm_yX5_reasonAgainst : Cond.instanceMethod yX5_reasonAgainst ∈ eW := eT_in 430 (by decide +kernel) rfl
theorem wm_yX5_reasonAgainstAnyName : Cond.instanceMethod yX5_reasonAgainstAnyName ∈ eW := eT_in 434 (by decide +kernel) rfl
theorem wm_yX4_areBrothers : Cond.instanceMethod yX4_areBrothers ∈ eW := eT_in 438 (by decide +kernel) rfl
theorem wm_yX2_aliveOf : Cond.instanceMethod yX2_aliveOf ∈ eW := eT_in 442 (by decide +kernel) rfl
theorem wm_yX5_isTaken : Cond.instanceMethod yX5_isTaken ∈ eW := eT_in 446 (by decide +kernel) rfl
theorem wm_yX2_isAliveAs : Cond.instanceMethod yX2_isAliveAs ∈ eW := eT_in 450 (by decide +kernel) rfl
theorem wm_yX2_isFull : Cond.instanceMethod yX2_isFull ∈ eW := eT_in 454 (by decide +kernel) rfl
theorem wm_yX2_add : Cond.instanceMethod yX2_add ∈ eW := eT_in 458 (by decide +kernel) rfl
theorem wm_yX5_callFor : Cond.instanceMethod yX5_callFor ∈ eW := eT_in 463 (by decide +kernel) rfl
theorem wm_yX5_meantByPeople : Cond.instanceMethod yX5_meantByPeople ∈ eW := eT_in 467 (by decide +kernel) rfl
theorem wm_yX2_aliveNameOf : Cond.instanceMethod yX2_aliveNameOf ∈ eW := eT_in 471 (by decide +kernel) rfl
theorem wm_yX5_firstBrotherNamed : Cond.instanceMethod yX5_firstBrotherNamed ∈ eW := eT_in 476 (by decide +kernel) rfl
theorem wm_yX2_use : Cond.instanceMethod yX2_use ∈ eW := eT_in 480 (by decide +kernel) rfl
theorem wm_yX5_mixUp : Cond.instanceMethod yX5_mixUp ∈ eW := eT_in 484 (by decide +kernel) rfl
theorem wm_yX5_passYears : Cond.instanceMethod yX5_passYears ∈ eW := eT_in 488 (by decide +kernel) rfl
theorem wm_yX4_growOlder : Cond.instanceMethod yX4_growOlder ∈ eW := eT_in 495 (by decide +kernel) rfl
theorem wm_yX5_endNames : Cond.instanceMethod yX5_endNames ∈ eW := eT_in 499 (by decide +kernel) rfl
theorem wm_yX2_isAlive : Cond.instanceMethod yX2_isAlive ∈ eW := eT_in 503 (by decide +kernel) rfl
theorem wm_yX5_oldestFor : Cond.instanceMethod yX5_oldestFor ∈ eW := eT_in 507 (by decide +kernel) rfl
theorem wm_yX5_outgrow : Cond.instanceMethod yX5_outgrow ∈ eW := eT_in 511 (by decide +kernel) rfl
theorem wm_yX5_heirOf : Cond.instanceMethod yX5_heirOf ∈ eW := eT_in 515 (by decide +kernel) rfl
theorem wm_yX4_isYoungerBeside : Cond.instanceMethod yX4_isYoungerBeside ∈ eW := eT_in 519 (by decide +kernel) rfl
theorem wm_yX5_triesSitting : Cond.instanceMethod yX5_triesSitting ∈ eW := eT_in 523 (by decide +kernel) rfl
theorem wm_yX5_isKeptFrom : Cond.instanceMethod yX5_isKeptFrom ∈ eW := eT_in 527 (by decide +kernel) rfl
theorem wm_yX5_triesSetting : Cond.instanceMethod yX5_triesSetting ∈ eW := eT_in 531 (by decide +kernel) rfl
theorem wm_yX10_save : Cond.instanceMethod yX10_save ∈ eW := eT_in 543 (by decide +kernel) rfl
theorem wm_yX5_copyFrom : Cond.instanceMethod yX5_copyFrom ∈ eW := eT_in 566 (by decide +kernel) rfl
theorem wm_yX4_copyFrom : Cond.instanceMethod yX4_copyFrom ∈ eW := eT_in 570 (by decide +kernel) rfl
theorem wm_yX2_copyFrom : Cond.instanceMethod yX2_copyFrom ∈ eW := eT_in 577 (by decide +kernel) rfl
theorem wm_yX10_restore : Cond.instanceMethod yX10_restore ∈ eW := eT_in 587 (by decide +kernel) rfl
theorem wm_yX10_about : Cond.instanceMethod yX10_about ∈ eW := eT_in 604 (by decide +kernel) rfl
theorem wm_yX2_inState : Cond.instanceMethod yX2_inState ∈ eW := eT_in 608 (by decide +kernel) rfl
theorem wm_yX2_usesTogether : Cond.instanceMethod yX2_usesTogether ∈ eW := eT_in 612 (by decide +kernel) rfl
theorem wm_yX10_personOf : Cond.instanceMethod yX10_personOf ∈ eW := eT_in 636 (by decide +kernel) rfl
theorem wm_yX10_requirePerson : Cond.instanceMethod yX10_requirePerson ∈ eW := eT_in 641 (by decide +kernel) rfl
theorem wm_yX4_brothersOf : Cond.instanceMethod yX4_brothersOf ∈ eW := eT_in 647 (by decide +kernel) rfl
theorem wm_yX2_givenBy : Cond.instanceMethod yX2_givenBy ∈ eW := eT_in 652 (by decide +kernel) rfl
theorem wm_yX2_stuckGivenBy : Cond.instanceMethod yX2_stuckGivenBy ∈ eW := eT_in 656 (by decide +kernel) rfl
theorem wm_yX10_nameOf : Cond.instanceMethod yX10_nameOf ∈ eW := eT_in 664 (by decide +kernel) rfl
theorem wm_yX10_requireName : Cond.instanceMethod yX10_requireName ∈ eW := eT_in 669 (by decide +kernel) rfl
theorem wm_yX2_has : Cond.instanceMethod yX2_has ∈ eW := eT_in 672 (by decide +kernel) rfl
theorem wm_yX10_letter : Cond.instanceMethod yX10_letter ∈ eW := eT_in 681 (by decide +kernel) rfl
theorem wm_yX10_roll : Cond.instanceMethod yX10_roll ∈ eW := eT_in 692 (by decide +kernel) rfl
theorem wm_yX2_ranked : Cond.instanceMethod yX2_ranked ∈ eW := eT_in 697 (by decide +kernel) rfl
theorem wm_yX2_aliveAheadOf : Cond.instanceMethod yX2_aliveAheadOf ∈ eW := eT_in 702 (by decide +kernel) rfl
theorem wm_yX10_meant : Cond.instanceMethod yX10_meant ∈ eW := eT_in 713 (by decide +kernel) rfl
theorem wm_yX5_meantByNames : Cond.instanceMethod yX5_meantByNames ∈ eW := eT_in 728 (by decide +kernel) rfl
theorem wm_yX4_firstBrotherOn : Cond.instanceMethod yX4_firstBrotherOn ∈ eW := eT_in 732 (by decide +kernel) rfl
theorem wm_yX10_person : Cond.instanceMethod yX10_person ∈ eW := eT_in 740 (by decide +kernel) rfl
theorem wm_yX3_remember : Cond.instanceMethod yX3_remember ∈ eW := eT_in 750 (by decide +kernel) rfl
theorem wm_yX10_sit : Cond.instanceMethod yX10_sit ∈ eW := eT_in 759 (by decide +kernel) rfl
theorem wm_yX10_give : Cond.instanceMethod yX10_give ∈ eW := eT_in 768 (by decide +kernel) rfl
theorem wm_yX10_call : Cond.instanceMethod yX10_call ∈ eW := eT_in 777 (by decide +kernel) rfl
theorem wm_yX10_years : Cond.instanceMethod yX10_years ∈ eW := eT_in 785 (by decide +kernel) rfl
theorem wm_yX10_set : Cond.instanceMethod yX10_set ∈ eW := eT_in 796 (by decide +kernel) rfl
theorem wm_yX10_why : Cond.instanceMethod yX10_why ∈ eW := eT_in 805 (by decide +kernel) rfl
theorem wm_yX10_endsIn : Cond.instanceMethod yX10_endsIn ∈ eW := eT_in 812 (by decide +kernel) rfl
theorem wm_yX5_yearsLeft : Cond.instanceMethod yX5_yearsLeft ∈ eW := eT_in 816 (by decide +kernel) rfl
theorem wm_yX10_bestName : Cond.instanceMethod yX10_bestName ∈ eW := eT_in 829 (by decide +kernel) rfl
theorem wm_yX1_bestCode : Cond.instanceMethod yX1_bestCode ∈ eW := eT_in 834 (by decide +kernel) rfl
theorem wm_yX1_countNames : Cond.instanceMethod yX1_countNames ∈ eW := eT_in 840 (by decide +kernel) rfl
theorem wm_yX1_countLetters : Cond.instanceMethod yX1_countLetters ∈ eW := eT_in 845 (by decide +kernel) rfl
theorem wm_yX1_namesWithLettersOf : Cond.instanceMethod yX1_namesWithLettersOf ∈ eW := eT_in 854 (by decide +kernel) rfl
theorem wm_yX10_runScript : Cond.instanceMethod yX10_runScript ∈ eW := eT_in 862 (by decide +kernel) rfl
theorem wm_yX10_simulate : Cond.instanceMethod yX10_simulate ∈ eW := eT_in 904 (by decide +kernel) rfl
theorem wm_yX2_alive : Cond.instanceMethod yX2_alive ∈ eW := eT_in 920 (by decide +kernel) rfl
theorem wm_yX10_append : Cond.instanceMethod yX10_append ∈ eW := eT_in 928 (by decide +kernel) rfl
theorem wm_yX9_put : Cond.instanceMethod yX9_put ∈ eW := eT_in 934 (by decide +kernel) rfl
theorem wm_yX10_bestGiver : Cond.instanceMethod yX10_bestGiver ∈ eW := eT_in 949 (by decide +kernel) rfl
theorem wm_yX2_sticksBetter : Cond.instanceMethod yX2_sticksBetter ∈ eW := eT_in 953 (by decide +kernel) rfl
theorem wm_yX10_mixed : Cond.instanceMethod yX10_mixed ∈ eW := eT_in 959 (by decide +kernel) rfl
theorem wm_yX10_undo : Cond.instanceMethod yX10_undo ∈ eW := eT_in 970 (by decide +kernel) rfl
theorem wm_yX3_takeBack : Cond.instanceMethod yX3_takeBack ∈ eW := eT_in 975 (by decide +kernel) rfl
theorem wm_yX10_errorPosition : Cond.instanceMethod yX10_errorPosition ∈ eW := eT_in 982 (by decide +kernel) rfl
theorem wm_yX10_clearText : Cond.instanceMethod yX10_clearText ∈ eW := eT_in 991 (by decide +kernel) rfl
theorem ws_yL_draw : Cond.static yL_draw ∈ eW := eT_in 255 (by decide +kernel) rfl
theorem ws_yL_load : Cond.static yL_load ∈ eW := eT_in 260 (by decide +kernel) rfl
theorem ws_yX10_isFamily : Cond.static yX10_isFamily ∈ eW := eT_in 398 (by decide +kernel) rfl
theorem ws_yX10_isBench : Cond.static yX10_isBench ∈ eW := eT_in 401 (by decide +kernel) rfl
theorem ws_yX10_isAgeToCome : Cond.static yX10_isAgeToCome ∈ eW := eT_in 404 (by decide +kernel) rfl
theorem ws_yX0_isCode : Cond.static yX0_isCode ∈ eW := eT_in 424 (by decide +kernel) rfl
theorem ws_yX0_codes : Cond.static yX0_codes ∈ eW := eT_in 427 (by decide +kernel) rfl
theorem ws_yX10_isYearsAtOnce : Cond.static yX10_isYearsAtOnce ∈ eW := eT_in 492 (by decide +kernel) rfl
theorem ws_yX10_isSettingWith : Cond.static yX10_isSettingWith ∈ eW := eT_in 535 (by decide +kernel) rfl
theorem ws_yL_save : Cond.static yL_save ∈ eW := eT_in 539 (by decide +kernel) rfl
theorem ws_yX10_requireSlot : Cond.static yX10_requireSlot ∈ eW := eT_in 547 (by decide +kernel) rfl
theorem ws_arraycopyName : Cond.static arraycopyName ∈ eW := eT_in 574 (by decide +kernel) rfl
theorem ws_yL_restore : Cond.static yL_restore ∈ eW := eT_in 584 (by decide +kernel) rfl
theorem ws_yL_errors : Cond.static yL_errors ∈ eW := eT_in 592 (by decide +kernel) rfl
theorem ws_yL_now : Cond.static yL_now ∈ eW := eT_in 595 (by decide +kernel) rfl
theorem ws_yL_about : Cond.static yL_about ∈ eW := eT_in 600 (by decide +kernel) rfl
theorem ws_yL_personOf : Cond.static yL_personOf ∈ eW := eT_in 633 (by decide +kernel) rfl
theorem ws_yL_nameOf : Cond.static yL_nameOf ∈ eW := eT_in 661 (by decide +kernel) rfl
theorem ws_yL_letter : Cond.static yL_letter ∈ eW := eT_in 678 (by decide +kernel) rfl
theorem ws_yX0_at : Cond.static yX0_at ∈ eW := eT_in 686 (by decide +kernel) rfl
theorem ws_yL_roll : Cond.static yL_roll ∈ eW := eT_in 689 (by decide +kernel) rfl
theorem ws_yX0_dictionaryKey : Cond.static yX0_dictionaryKey ∈ eW := eT_in 706 (by decide +kernel) rfl
theorem ws_yL_meant : Cond.static yL_meant ∈ eW := eT_in 710 (by decide +kernel) rfl
theorem ws_yX10_requireBench : Cond.static yX10_requireBench ∈ eW := eT_in 717 (by decide +kernel) rfl
theorem ws_yX10_requireCode : Cond.static yX10_requireCode ∈ eW := eT_in 722 (by decide +kernel) rfl
theorem ws_yL_person : Cond.static yL_person ∈ eW := eT_in 737 (by decide +kernel) rfl
theorem ws_yL_sit : Cond.static yL_sit ∈ eW := eT_in 756 (by decide +kernel) rfl
theorem ws_yL_give : Cond.static yL_give ∈ eW := eT_in 765 (by decide +kernel) rfl
theorem ws_yL_call : Cond.static yL_call ∈ eW := eT_in 774 (by decide +kernel) rfl
theorem ws_yL_years : Cond.static yL_years ∈ eW := eT_in 782 (by decide +kernel) rfl
theorem ws_yL_set : Cond.static yL_set ∈ eW := eT_in 793 (by decide +kernel) rfl
theorem ws_yL_why : Cond.static yL_why ∈ eW := eT_in 802 (by decide +kernel) rfl
theorem ws_yL_endsIn : Cond.static yL_endsIn ∈ eW := eT_in 809 (by decide +kernel) rfl
theorem ws_yJ9_min_7cf53 : Cond.static yJ9_min_7cf53 ∈ eW := eT_in 820 (by decide +kernel) rfl
theorem ws_yJ9_max_7cf53 : Cond.static yJ9_max_7cf53 ∈ eW := eT_in 823 (by decide +kernel) rfl
theorem ws_yL_bestName : Cond.static yL_bestName ∈ eW := eT_in 826 (by decide +kernel) rfl
theorem ws_yX0_isRepeated : Cond.static yX0_isRepeated ∈ eW := eT_in 849 (by decide +kernel) rfl
theorem ws_yL_script : Cond.static yL_script ∈ eW := eT_in 859 (by decide +kernel) rfl
theorem ws_yX6_beyond : Cond.static yX6_beyond ∈ eW := eT_in 867 (by decide +kernel) rfl
theorem ws_yX6_group : Cond.static yX6_group ∈ eW := eT_in 872 (by decide +kernel) rfl
theorem ws_yX6_succeeds : Cond.static yX6_succeeds ∈ eW := eT_in 875 (by decide +kernel) rfl
theorem ws_yX6_hasNames : Cond.static yX6_hasNames ∈ eW := eT_in 884 (by decide +kernel) rfl
theorem ws_yX6_means : Cond.static yX6_means ∈ eW := eT_in 889 (by decide +kernel) rfl
theorem ws_yX6_isInState : Cond.static yX6_isInState ∈ eW := eT_in 896 (by decide +kernel) rfl
theorem ws_yL_simulate : Cond.static yL_simulate ∈ eW := eT_in 901 (by decide +kernel) rfl
theorem ws_yX7_takeTurn : Cond.static yX7_takeTurn ∈ eW := eT_in 911 (by decide +kernel) rfl
theorem ws_yL_append : Cond.static yL_append ∈ eW := eT_in 925 (by decide +kernel) rfl
theorem ws_yL_kept : Cond.static yL_kept ∈ eW := eT_in 938 (by decide +kernel) rfl
theorem ws_yL_in : Cond.static yL_in ∈ eW := eT_in 945 (by decide +kernel) rfl
theorem ws_yL_follows : Cond.static yL_follows ∈ eW := eT_in 963 (by decide +kernel) rfl
theorem ws_yL_undo : Cond.static yL_undo ∈ eW := eT_in 967 (by decide +kernel) rfl
theorem ws_yL_alike : Cond.static yL_alike ∈ eW := eT_in 979 (by decide +kernel) rfl
theorem ws_yL_told : Cond.static yL_told ∈ eW := eT_in 988 (by decide +kernel) rfl
theorem ws_yL_says : Cond.static yL_says ∈ eW := eT_in 995 (by decide +kernel) rfl
theorem ws_yL_act : Cond.static yL_act ∈ eW := eT_in 998 (by decide +kernel) rfl
theorem wn_arraycopyName : Cond.native arraycopyName ∈ eW := eT_in 575 (by decide +kernel) rfl
theorem wl_yX10_load : Cond.selects RX10 yX10_load yX10_load ∈ eW := eT_in 265 (by decide +kernel) rfl
theorem wl_yX9_firstError : Cond.selects RX9 yX9_firstError yX9_firstError ∈ eW := eT_in 269 (by decide +kernel) rfl
theorem wl_yX9_readHead : Cond.selects RX9 yX9_readHead yX9_readHead ∈ eW := eT_in 273 (by decide +kernel) rfl
theorem wl_yX9_reads : Cond.selects RX9 yX9_reads yX9_reads ∈ eW := eT_in 277 (by decide +kernel) rfl
theorem wl_yX9_here : Cond.selects RX9 yX9_here yX9_here ∈ eW := eT_in 281 (by decide +kernel) rfl
theorem wl_yX9_readCommand : Cond.selects RX9 yX9_readCommand yX9_readCommand ∈ eW := eT_in 285 (by decide +kernel) rfl
theorem wl_yX9_readsPair : Cond.selects RX9 yX9_readsPair yX9_readsPair ∈ eW := eT_in 289 (by decide +kernel) rfl
theorem wl_yX9_takeDigit : Cond.selects RX9 yX9_takeDigit yX9_takeDigit ∈ eW := eT_in 293 (by decide +kernel) rfl
theorem wl_yX9_tells : Cond.selects RX9 yX9_tells yX9_tells ∈ eW := eT_in 297 (by decide +kernel) rfl
theorem wl_yX9_readsDigit : Cond.selects RX9 yX9_readsDigit yX9_readsDigit ∈ eW := eT_in 301 (by decide +kernel) rfl
theorem wl_yX9_readsLetters : Cond.selects RX9 yX9_readsLetters yX9_readsLetters ∈ eW := eT_in 305 (by decide +kernel) rfl
theorem wl_yX5_empty : Cond.selects RX5 yX5_empty yX5_empty ∈ eW := eT_in 377 (by decide +kernel) rfl
theorem wl_yX3_forgetAll : Cond.selects RX3 yX3_forgetAll yX3_forgetAll ∈ eW := eT_in 381 (by decide +kernel) rfl
theorem wl_yX8_forgetAll : Cond.selects RX8 yX8_forgetAll yX8_forgetAll ∈ eW := eT_in 385 (by decide +kernel) rfl
theorem wl_yX5_obeys : Cond.selects RX5 yX5_obeys yX5_obeys ∈ eW := eT_in 391 (by decide +kernel) rfl
theorem wl_yX5_triesPerson : Cond.selects RX5 yX5_triesPerson yX5_triesPerson ∈ eW := eT_in 395 (by decide +kernel) rfl
theorem wl_yX4_isFull : Cond.selects RX4 yX4_isFull yX4_isFull ∈ eW := eT_in 408 (by decide +kernel) rfl
theorem wl_yX4_add : Cond.selects RX4 yX4_add yX4_add ∈ eW := eT_in 412 (by decide +kernel) rfl
theorem wl_yX5_triesGiving : Cond.selects RX5 yX5_triesGiving yX5_triesGiving ∈ eW := eT_in 417 (by decide +kernel) rfl
theorem wl_yX4_has : Cond.selects RX4 yX4_has yX4_has ∈ eW := eT_in 421 (by decide +kernel) rfl
theorem wl_yX5_reasonAgainst : Cond.selects RX5 yX5_reasonAgainst yX5_reasonAgainst ∈ eW := eT_in 431 (by decide +kernel) rfl
theorem wl_yX5_reasonAgainstAnyName : Cond.selects RX5 yX5_reasonAgainstAnyName yX5_reasonAgainstAnyName ∈ eW := eT_in 435 (by decide +kernel) rfl
theorem wl_yX4_areBrothers : Cond.selects RX4 yX4_areBrothers yX4_areBrothers ∈ eW := eT_in 439 (by decide +kernel) rfl
theorem wl_yX2_aliveOf : Cond.selects RX2 yX2_aliveOf yX2_aliveOf ∈ eW := eT_in 443 (by decide +kernel) rfl
theorem wl_yX5_isTaken : Cond.selects RX5 yX5_isTaken yX5_isTaken ∈ eW := eT_in 447 (by decide +kernel) rfl
theorem wl_yX2_isAliveAs : Cond.selects RX2 yX2_isAliveAs yX2_isAliveAs ∈ eW := eT_in 451 (by decide +kernel) rfl
theorem wl_yX2_isFull : Cond.selects RX2 yX2_isFull yX2_isFull ∈ eW := eT_in 455 (by decide +kernel) rfl
theorem wl_yX2_add : Cond.selects RX2 yX2_add yX2_add ∈ eW := eT_in 459 (by decide +kernel) rfl
theorem wl_yX5_callFor : Cond.selects RX5 yX5_callFor yX5_callFor ∈ eW := eT_in 464 (by decide +kernel) rfl
theorem wl_yX5_meantByPeople : Cond.selects RX5 yX5_meantByPeople yX5_meantByPeople ∈ eW := eT_in 468 (by decide +kernel) rfl
theorem wl_yX2_aliveNameOf : Cond.selects RX2 yX2_aliveNameOf yX2_aliveNameOf ∈ eW := eT_in 472 (by decide +kernel) rfl
theorem wl_yX5_firstBrotherNamed : Cond.selects RX5 yX5_firstBrotherNamed yX5_firstBrotherNamed ∈ eW := eT_in 477 (by decide +kernel) rfl
theorem wl_yX2_use : Cond.selects RX2 yX2_use yX2_use ∈ eW := eT_in 481 (by decide +kernel) rfl
theorem wl_yX5_mixUp : Cond.selects RX5 yX5_mixUp yX5_mixUp ∈ eW := eT_in 485 (by decide +kernel) rfl
theorem wl_yX5_passYears : Cond.selects RX5 yX5_passYears yX5_passYears ∈ eW := eT_in 489 (by decide +kernel) rfl
theorem wl_yX4_growOlder : Cond.selects RX4 yX4_growOlder yX4_growOlder ∈ eW := eT_in 496 (by decide +kernel) rfl
theorem wl_yX5_endNames : Cond.selects RX5 yX5_endNames yX5_endNames ∈ eW := eT_in 500 (by decide +kernel) rfl
theorem wl_yX2_isAlive : Cond.selects RX2 yX2_isAlive yX2_isAlive ∈ eW := eT_in 504 (by decide +kernel) rfl
theorem wl_yX5_oldestFor : Cond.selects RX5 yX5_oldestFor yX5_oldestFor ∈ eW := eT_in 508 (by decide +kernel) rfl
theorem wl_yX5_outgrow : Cond.selects RX5 yX5_outgrow yX5_outgrow ∈ eW := eT_in 512 (by decide +kernel) rfl
theorem wl_yX5_heirOf : Cond.selects RX5 yX5_heirOf yX5_heirOf ∈ eW := eT_in 516 (by decide +kernel) rfl
theorem wl_yX4_isYoungerBeside : Cond.selects RX4 yX4_isYoungerBeside yX4_isYoungerBeside ∈ eW := eT_in 520 (by decide +kernel) rfl
theorem wl_yX5_triesSitting : Cond.selects RX5 yX5_triesSitting yX5_triesSitting ∈ eW := eT_in 524 (by decide +kernel) rfl
theorem wl_yX5_isKeptFrom : Cond.selects RX5 yX5_isKeptFrom yX5_isKeptFrom ∈ eW := eT_in 528 (by decide +kernel) rfl
theorem wl_yX5_triesSetting : Cond.selects RX5 yX5_triesSetting yX5_triesSetting ∈ eW := eT_in 532 (by decide +kernel) rfl
theorem wl_yX10_save : Cond.selects RX10 yX10_save yX10_save ∈ eW := eT_in 544 (by decide +kernel) rfl
theorem wl_yX5_copyFrom : Cond.selects RX5 yX5_copyFrom yX5_copyFrom ∈ eW := eT_in 567 (by decide +kernel) rfl
theorem wl_yX4_copyFrom : Cond.selects RX4 yX4_copyFrom yX4_copyFrom ∈ eW := eT_in 571 (by decide +kernel) rfl
theorem wl_yX2_copyFrom : Cond.selects RX2 yX2_copyFrom yX2_copyFrom ∈ eW := eT_in 578 (by decide +kernel) rfl
theorem wl_yX10_restore : Cond.selects RX10 yX10_restore yX10_restore ∈ eW := eT_in 588 (by decide +kernel) rfl
theorem wl_yX10_about : Cond.selects RX10 yX10_about yX10_about ∈ eW := eT_in 605 (by decide +kernel) rfl
theorem wl_yX2_inState : Cond.selects RX2 yX2_inState yX2_inState ∈ eW := eT_in 609 (by decide +kernel) rfl
theorem wl_yX2_usesTogether : Cond.selects RX2 yX2_usesTogether yX2_usesTogether ∈ eW := eT_in 613 (by decide +kernel) rfl
theorem wl_yX10_personOf : Cond.selects RX10 yX10_personOf yX10_personOf ∈ eW := eT_in 637 (by decide +kernel) rfl
theorem wl_yX4_brothersOf : Cond.selects RX4 yX4_brothersOf yX4_brothersOf ∈ eW := eT_in 648 (by decide +kernel) rfl
theorem wl_yX2_givenBy : Cond.selects RX2 yX2_givenBy yX2_givenBy ∈ eW := eT_in 653 (by decide +kernel) rfl
theorem wl_yX2_stuckGivenBy : Cond.selects RX2 yX2_stuckGivenBy yX2_stuckGivenBy ∈ eW := eT_in 657 (by decide +kernel) rfl
theorem wl_yX10_nameOf : Cond.selects RX10 yX10_nameOf yX10_nameOf ∈ eW := eT_in 665 (by decide +kernel) rfl
theorem wl_yX2_has : Cond.selects RX2 yX2_has yX2_has ∈ eW := eT_in 673 (by decide +kernel) rfl
theorem wl_yX10_letter : Cond.selects RX10 yX10_letter yX10_letter ∈ eW := eT_in 682 (by decide +kernel) rfl
theorem wl_yX10_roll : Cond.selects RX10 yX10_roll yX10_roll ∈ eW := eT_in 693 (by decide +kernel) rfl
theorem wl_yX2_ranked : Cond.selects RX2 yX2_ranked yX2_ranked ∈ eW := eT_in 698 (by decide +kernel) rfl
theorem wl_yX2_aliveAheadOf : Cond.selects RX2 yX2_aliveAheadOf yX2_aliveAheadOf ∈ eW := eT_in 703 (by decide +kernel) rfl
theorem wl_yX10_meant : Cond.selects RX10 yX10_meant yX10_meant ∈ eW := eT_in 714 (by decide +kernel) rfl
theorem wl_yX5_meantByNames : Cond.selects RX5 yX5_meantByNames yX5_meantByNames ∈ eW := eT_in 729 (by decide +kernel) rfl
theorem wl_yX4_firstBrotherOn : Cond.selects RX4 yX4_firstBrotherOn yX4_firstBrotherOn ∈ eW := eT_in 733 (by decide +kernel) rfl
theorem wl_yX10_person : Cond.selects RX10 yX10_person yX10_person ∈ eW := eT_in 741 (by decide +kernel) rfl
theorem wl_yX3_remember : Cond.selects RX3 yX3_remember yX3_remember ∈ eW := eT_in 751 (by decide +kernel) rfl
theorem wl_yX10_sit : Cond.selects RX10 yX10_sit yX10_sit ∈ eW := eT_in 760 (by decide +kernel) rfl
theorem wl_yX10_give : Cond.selects RX10 yX10_give yX10_give ∈ eW := eT_in 769 (by decide +kernel) rfl
theorem wl_yX10_call : Cond.selects RX10 yX10_call yX10_call ∈ eW := eT_in 778 (by decide +kernel) rfl
theorem wl_yX10_years : Cond.selects RX10 yX10_years yX10_years ∈ eW := eT_in 786 (by decide +kernel) rfl
theorem wl_yX10_set : Cond.selects RX10 yX10_set yX10_set ∈ eW := eT_in 797 (by decide +kernel) rfl
theorem wl_yX10_why : Cond.selects RX10 yX10_why yX10_why ∈ eW := eT_in 806 (by decide +kernel) rfl
theorem wl_yX10_endsIn : Cond.selects RX10 yX10_endsIn yX10_endsIn ∈ eW := eT_in 813 (by decide +kernel) rfl
theorem wl_yX5_yearsLeft : Cond.selects RX5 yX5_yearsLeft yX5_yearsLeft ∈ eW := eT_in 817 (by decide +kernel) rfl
theorem wl_yX10_bestName : Cond.selects RX10 yX10_bestName yX10_bestName ∈ eW := eT_in 830 (by decide +kernel) rfl
theorem wl_yX1_bestCode : Cond.selects RX1 yX1_bestCode yX1_bestCode ∈ eW := eT_in 835 (by decide +kernel) rfl
theorem wl_yX1_countNames : Cond.selects RX1 yX1_countNames yX1_countNames ∈ eW := eT_in 841 (by decide +kernel) rfl
theorem wl_yX1_countLetters : Cond.selects RX1 yX1_countLetters yX1_countLetters ∈ eW := eT_in 846 (by decide +kernel) rfl
theorem wl_yX1_namesWithLettersOf : Cond.selects RX1 yX1_namesWithLettersOf yX1_namesWithLettersOf ∈ eW := eT_in 855 (by decide +kernel) rfl
theorem wl_yX10_runScript : Cond.selects RX10 yX10_runScript yX10_runScript ∈ eW := eT_in 863 (by decide +kernel) rfl
theorem wl_yX10_simulate : Cond.selects RX10 yX10_simulate yX10_simulate ∈ eW := eT_in 905 (by decide +kernel) rfl
theorem wl_yX2_alive : Cond.selects RX2 yX2_alive yX2_alive ∈ eW := eT_in 921 (by decide +kernel) rfl
theorem wl_yX10_append : Cond.selects RX10 yX10_append yX10_append ∈ eW := eT_in 929 (by decide +kernel) rfl
theorem wl_yX9_put : Cond.selects RX9 yX9_put yX9_put ∈ eW := eT_in 935 (by decide +kernel) rfl
theorem wl_yX10_bestGiver : Cond.selects RX10 yX10_bestGiver yX10_bestGiver ∈ eW := eT_in 950 (by decide +kernel) rfl
theorem wl_yX2_sticksBetter : Cond.selects RX2 yX2_sticksBetter yX2_sticksBetter ∈ eW := eT_in 954 (by decide +kernel) rfl
theorem wl_yX10_mixed : Cond.selects RX10 yX10_mixed yX10_mixed ∈ eW := eT_in 960 (by decide +kernel) rfl
theorem wl_yX10_undo : Cond.selects RX10 yX10_undo yX10_undo ∈ eW := eT_in 971 (by decide +kernel) rfl
theorem wl_yX3_takeBack : Cond.selects RX3 yX3_takeBack yX3_takeBack ∈ eW := eT_in 976 (by decide +kernel) rfl
theorem wl_yX10_errorPosition : Cond.selects RX10 yX10_errorPosition yX10_errorPosition ∈ eW := eT_in 983 (by decide +kernel) rfl
theorem wl_yX10_clearText : Cond.selects RX10 yX10_clearText yX10_clearText ∈ eW := eT_in 992 (by decide +kernel) rfl
theorem wl_yX10_requirePerson : Cond.selects RX10 yX10_requirePerson yX10_requirePerson ∈ eW := eS_in 1 (by decide +kernel) rfl
theorem wl_yX10_requireName : Cond.selects RX10 yX10_requireName yX10_requireName ∈ eW := eS_in 2 (by decide +kernel) rfl
theorem wk_L_10 : Cond.classLink RL 10 RX10 ∈ eW := eT_in 20 (by decide +kernel) rfl
theorem wk_X10_9 : Cond.classLink RX10 9 RX9 ∈ eW := eT_in 28 (by decide +kernel) rfl
theorem wk_X10_16 : Cond.classLink RX10 16 RX5 ∈ eW := eT_in 58 (by decide +kernel) rfl
theorem wk_X5_9 : Cond.classLink RX5 9 RX4 ∈ eW := eT_in 64 (by decide +kernel) rfl
theorem wk_X5_18 : Cond.classLink RX5 18 RX2 ∈ eW := eT_in 101 (by decide +kernel) rfl
theorem wk_X10_26 : Cond.classLink RX10 26 RX3 ∈ eW := eT_in 188 (by decide +kernel) rfl
theorem wk_X3_9 : Cond.classLink RX3 9 RX5 ∈ eW := eT_in 194 (by decide +kernel) rfl
theorem wk_X10_33 : Cond.classLink RX10 33 RX8 ∈ eW := eT_in 208 (by decide +kernel) rfl
theorem wk_X8_9 : Cond.classLink RX8 9 RX5 ∈ eW := eT_in 214 (by decide +kernel) rfl
theorem wk_X10_40 : Cond.classLink RX10 40 RX1 ∈ eW := eT_in 225 (by decide +kernel) rfl
theorem wk_L_19 : Cond.classLink RL 19 "java/lang/IllegalStateException" ∈ eW := eT_in 262 (by decide +kernel) rfl
theorem wk_X10_58 : Cond.classLink RX10 58 "java/lang/IllegalStateException" ∈ eW := eT_in 307 (by decide +kernel) rfl
theorem wk_L_34 : Cond.classLink RL 34 "java/lang/IndexOutOfBoundsException" ∈ eW := eT_in 541 (by decide +kernel) rfl
theorem wk_X10_195 : Cond.classLink RX10 195 "java/lang/IndexOutOfBoundsException" ∈ eW := eT_in 549 (by decide +kernel) rfl
theorem wk_L_15 : Cond.classLink RL 15 "java/lang/IllegalArgumentException" ∈ eW := eT_in 602 (by decide +kernel) rfl
theorem wk_X10_47 : Cond.classLink RX10 47 "java/lang/IllegalArgumentException" ∈ eW := eT_in 615 (by decide +kernel) rfl
theorem wt_X10 : Cond.instantiable RX10 6 ∈ eW := eT_in 21 (by decide +kernel) rfl
theorem wt_X9 : Cond.instantiable RX9 6 ∈ eW := eT_in 29 (by decide +kernel) rfl
theorem wt_X5 : Cond.instantiable RX5 7 ∈ eW := eT_in 59 (by decide +kernel) rfl
theorem wt_X4 : Cond.instantiable RX4 6 ∈ eW := eT_in 65 (by decide +kernel) rfl
theorem wt_X2 : Cond.instantiable RX2 9 ∈ eW := eT_in 102 (by decide +kernel) rfl
theorem wt_X3 : Cond.instantiable RX3 3 ∈ eW := eT_in 189 (by decide +kernel) rfl
theorem wt_X8 : Cond.instantiable RX8 2 ∈ eW := eT_in 209 (by decide +kernel) rfl
theorem wt_X1 : Cond.instantiable RX1 1 ∈ eW := eT_in 226 (by decide +kernel) rfl
theorem wt_java_lang_IllegalStateException : Cond.instantiable "java/lang/IllegalStateException" 6 ∈ eW := eT_in 308 (by decide +kernel) rfl
theorem wt_java_lang_Throwable : Cond.instantiable "java/lang/Throwable" 6 ∈ eW := eT_in 346 (by decide +kernel) rfl
theorem wt_java_lang_IndexOutOfBoundsException : Cond.instantiable "java/lang/IndexOutOfBoundsException" 6 ∈ eW := eT_in 550 (by decide +kernel) rfl
theorem wt_java_lang_IllegalArgumentException : Cond.instantiable "java/lang/IllegalArgumentException" 6 ∈ eW := eT_in 616 (by decide +kernel) rfl
theorem wq_L_7 : Cond.constant RL 7 15594259 ∈ eW := eT_in 257 (by decide +kernel) rfl
theorem wq_L_8 : Cond.constant RL 8 2147483647 ∈ eW := eT_in 258 (by decide +kernel) rfl
theorem wq_X6_13 : Cond.constant RX6 13 100000 ∈ eW := eT_in 877 (by decide +kernel) rfl
theorem wq_L_21 : Cond.constantLong RL 21 (-9000000000000000003) ∈ eW := eT_in 537 (by decide +kernel) rfl
theorem wq_L_36 : Cond.constantLong RL 36 (-9000000000000000001) ∈ eW := eT_in 582 (by decide +kernel) rfl
theorem wq_L_96 : Cond.constantLong RL 96 (151) ∈ eW := eT_in 597 (by decide +kernel) rfl
theorem wq_L_98 : Cond.constantLong RL 98 (31) ∈ eW := eT_in 598 (by decide +kernel) rfl
theorem wq_L_17 : Cond.constantLong RL 17 (-9000000000000000002) ∈ eW := eT_in 631 (by decide +kernel) rfl
theorem wq_X6_11 : Cond.constantLong RX6 11 (1000000) ∈ eW := eT_in 869 (by decide +kernel) rfl
theorem wq_L_144 : Cond.constantLong RL 144 (1000000000000000000) ∈ eW := eT_in 899 (by decide +kernel) rfl
theorem wq_X10_322 : Cond.constantLong RX10 322 (6364136223846793005) ∈ eW := eT_in 908 (by decide +kernel) rfl
theorem wq_X10_324 : Cond.constantLong RX10 324 (1442695040888963407) ∈ eW := eT_in 909 (by decide +kernel) rfl
theorem wq_L_155 : Cond.constantLong RL 155 (2) ∈ eW := eT_in 940 (by decide +kernel) rfl
theorem wq_L_157 : Cond.constantLong RL 157 (4) ∈ eW := eT_in 941 (by decide +kernel) rfl
theorem wq_L_159 : Cond.constantLong RL 159 (-1) ∈ eW := eT_in 942 (by decide +kernel) rfl
theorem wq_L_161 : Cond.constantLong RL 161 (25) ∈ eW := eT_in 943 (by decide +kernel) rfl
theorem wq_L_167 : Cond.constantLong RL 167 (3) ∈ eW := eT_in 947 (by decide +kernel) rfl
theorem wq_L_175 : Cond.constantLong RL 175 (900) ∈ eW := eT_in 965 (by decide +kernel) rfl
theorem wq_L_182 : Cond.constantLong RL 182 (300001600000) ∈ eW := eT_in 985 (by decide +kernel) rfl
theorem wq_L_184 : Cond.constantLong RL 184 (10000) ∈ eW := eT_in 986 (by decide +kernel) rfl
theorem wa_char : Cond.arrayClass .char ∈ eW := eT_in 56 (by decide +kernel) rfl
theorem wa_int : Cond.arrayClass .int ∈ eW := eT_in 57 (by decide +kernel) rfl
theorem wa_boolean : Cond.arrayClass .boolean ∈ eW := eT_in 154 (by decide +kernel) rfl
theorem wp_IllegalStateException : Cond.castable "java/lang/IllegalStateException" "java/lang/IllegalStateException" ∈ eX := eX_in 309 (by decide +kernel) rfl
theorem wp_IndexOutOfBoundsException : Cond.castable "java/lang/IndexOutOfBoundsException" "java/lang/IndexOutOfBoundsException" ∈ eX := eX_in 551 (by decide +kernel) rfl
theorem wp_IllegalArgumentException : Cond.castable "java/lang/IllegalArgumentException" "java/lang/IllegalArgumentException" ∈ eX := eX_in 617 (by decide +kernel) rfl
theorem wu_X1 : ∀ w ∈ u_ws RX1 TX1 1, w ∈ eW := by
  intro w hw
  have h := List.all_eq_true.mp (show (u_ws RX1 TX1 1).all (fun w => decide (w ∈ tables_1) && goodWord w) = true by decide +kernel) w hw
  rw [Bool.and_eq_true, decide_eq_true_eq] at h
  exact List.mem_filter.mpr ⟨List.mem_append_right _ h.1, h.2⟩
theorem wu_X2 : ∀ w ∈ u_ws RX2 TX2 9, w ∈ eW := by
  intro w hw
  have h := List.all_eq_true.mp (show (u_ws RX2 TX2 9).all (fun w => decide (w ∈ tables_1) && goodWord w) = true by decide +kernel) w hw
  rw [Bool.and_eq_true, decide_eq_true_eq] at h
  exact List.mem_filter.mpr ⟨List.mem_append_right _ h.1, h.2⟩
theorem wu_X3 : ∀ w ∈ u_ws RX3 TX3 3, w ∈ eW := by
  intro w hw
  have h := List.all_eq_true.mp (show (u_ws RX3 TX3 3).all (fun w => decide (w ∈ tables_1) && goodWord w) = true by decide +kernel) w hw
  rw [Bool.and_eq_true, decide_eq_true_eq] at h
  exact List.mem_filter.mpr ⟨List.mem_append_right _ h.1, h.2⟩
theorem wu_X4 : ∀ w ∈ u_ws RX4 TX4 6, w ∈ eW := by
  intro w hw
  have h := List.all_eq_true.mp (show (u_ws RX4 TX4 6).all (fun w => decide (w ∈ tables_1) && goodWord w) = true by decide +kernel) w hw
  rw [Bool.and_eq_true, decide_eq_true_eq] at h
  exact List.mem_filter.mpr ⟨List.mem_append_right _ h.1, h.2⟩
theorem wu_X5 : ∀ w ∈ u_ws RX5 TX5 7, w ∈ eW := by
  intro w hw
  have h := List.all_eq_true.mp (show (u_ws RX5 TX5 7).all (fun w => decide (w ∈ tables_1) && goodWord w) = true by decide +kernel) w hw
  rw [Bool.and_eq_true, decide_eq_true_eq] at h
  exact List.mem_filter.mpr ⟨List.mem_append_right _ h.1, h.2⟩
theorem wu_X8 : ∀ w ∈ u_ws RX8 TX8 2, w ∈ eW := by
  intro w hw
  have h := List.all_eq_true.mp (show (u_ws RX8 TX8 2).all (fun w => decide (w ∈ tables_1) && goodWord w) = true by decide +kernel) w hw
  rw [Bool.and_eq_true, decide_eq_true_eq] at h
  exact List.mem_filter.mpr ⟨List.mem_append_right _ h.1, h.2⟩
theorem wu_X9 : ∀ w ∈ u_ws RX9 TX9 6, w ∈ eW := by
  intro w hw
  have h := List.all_eq_true.mp (show (u_ws RX9 TX9 6).all (fun w => decide (w ∈ tables_1) && goodWord w) = true by decide +kernel) w hw
  rw [Bool.and_eq_true, decide_eq_true_eq] at h
  exact List.mem_filter.mpr ⟨List.mem_append_right _ h.1, h.2⟩
theorem wu_X10 : ∀ w ∈ u_ws RX10 TX10 6, w ∈ eW := by
  intro w hw
  have h := List.all_eq_true.mp (show (u_ws RX10 TX10 6).all (fun w => decide (w ∈ tables_1) && goodWord w) = true by decide +kernel) w hw
  rw [Bool.and_eq_true, decide_eq_true_eq] at h
  exact List.mem_filter.mpr ⟨List.mem_append_right _ h.1, h.2⟩
theorem fl_X9_9 : eFL RX9 9 6 0 := ⟨_, rfl, by decide, eT_in 34 (by decide +kernel) rfl, wu_X9⟩
theorem pl_X9_9 : ePL RX9 9 6 0 (.array .char) true := ⟨_, tyX9, rfl, by decide, eT_in 34 (by decide +kernel) rfl, wu_X9, tyX9_ok, nmX9, rfl, by decide +kernel, fun _ => rfl⟩
theorem fl_X9_15 : eFL RX9 15 6 1 := ⟨_, rfl, by decide, eT_in 35 (by decide +kernel) rfl, wu_X9⟩
theorem pl_X9_15 : ePL RX9 15 6 1 .int false := ⟨_, tyX9, rfl, by decide, eT_in 35 (by decide +kernel) rfl, wu_X9, tyX9_ok, nmX9, rfl, by decide +kernel, fun _ => rfl⟩
theorem fl_X10_54 : eFL RX10 54 6 1 := ⟨_, rfl, by decide, eT_in 36 (by decide +kernel) rfl, wu_X9⟩
theorem pl_X10_54 : ePL RX10 54 6 1 .int false := ⟨_, tyX9, rfl, by decide, eT_in 36 (by decide +kernel) rfl, wu_X9, tyX9_ok, nmX9, rfl, by decide +kernel, fun h => by revert h; decide +kernel⟩
theorem fl_X9_19 : eFL RX9 19 6 2 := ⟨_, rfl, by decide, eT_in 37 (by decide +kernel) rfl, wu_X9⟩
theorem pl_X9_19 : ePL RX9 19 6 2 .int false := ⟨_, tyX9, rfl, by decide, eT_in 37 (by decide +kernel) rfl, wu_X9, tyX9_ok, nmX9, rfl, by decide +kernel, fun _ => rfl⟩
theorem fl_X9_22 : eFL RX9 22 6 3 := ⟨_, rfl, by decide, eT_in 38 (by decide +kernel) rfl, wu_X9⟩
theorem pl_X9_22 : ePL RX9 22 6 3 .int false := ⟨_, tyX9, rfl, by decide, eT_in 38 (by decide +kernel) rfl, wu_X9, tyX9_ok, nmX9, rfl, by decide +kernel, fun _ => rfl⟩
theorem fl_X5_205 : eFL RX5 205 6 3 := ⟨_, rfl, by decide, eT_in 39 (by decide +kernel) rfl, wu_X9⟩
theorem pl_X5_205 : ePL RX5 205 6 3 .int false := ⟨_, tyX9, rfl, by decide, eT_in 39 (by decide +kernel) rfl, wu_X9, tyX9_ok, nmX9, rfl, by decide +kernel, fun h => by revert h; decide +kernel⟩
theorem fl_X9_25 : eFL RX9 25 6 4 := ⟨_, rfl, by decide, eT_in 40 (by decide +kernel) rfl, wu_X9⟩
theorem pl_X9_25 : ePL RX9 25 6 4 (.array .int) true := ⟨_, tyX9, rfl, by decide, eT_in 40 (by decide +kernel) rfl, wu_X9, tyX9_ok, nmX9, rfl, by decide +kernel, fun _ => rfl⟩
theorem fl_X5_200 : eFL RX5 200 6 4 := ⟨_, rfl, by decide, eT_in 41 (by decide +kernel) rfl, wu_X9⟩
-- X5 200 final of another
theorem fl_X9_29 : eFL RX9 29 6 5 := ⟨_, rfl, by decide, eT_in 42 (by decide +kernel) rfl, wu_X9⟩
theorem pl_X9_29 : ePL RX9 29 6 5 .int false := ⟨_, tyX9, rfl, by decide, eT_in 42 (by decide +kernel) rfl, wu_X9, tyX9_ok, nmX9, rfl, by decide +kernel, fun _ => rfl⟩
theorem fl_X4_9 : eFL RX4 9 3 0 := ⟨_, rfl, by decide, eT_in 70 (by decide +kernel) rfl, wu_X4⟩
theorem pl_X4_9 : ePL RX4 9 3 0 .int false := ⟨_, tyX4, rfl, by decide, eT_in 70 (by decide +kernel) rfl, wu_X4, tyX4_ok, nmX4, rfl, by decide +kernel, fun _ => rfl⟩
theorem fl_X5_42 : eFL RX5 42 3 0 := ⟨_, rfl, by decide, eT_in 71 (by decide +kernel) rfl, wu_X4⟩
theorem pl_X5_42 : ePL RX5 42 3 0 .int false := ⟨_, tyX4, rfl, by decide, eT_in 71 (by decide +kernel) rfl, wu_X4, tyX4_ok, nmX4, rfl, by decide +kernel, fun h => by revert h; decide +kernel⟩
theorem fl_X10_95 : eFL RX10 95 3 0 := ⟨_, rfl, by decide, eT_in 72 (by decide +kernel) rfl, wu_X4⟩
theorem pl_X10_95 : ePL RX10 95 3 0 .int false := ⟨_, tyX4, rfl, by decide, eT_in 72 (by decide +kernel) rfl, wu_X4, tyX4_ok, nmX4, rfl, by decide +kernel, fun h => by revert h; decide +kernel⟩
theorem fl_X4_15 : eFL RX4 15 3 1 := ⟨_, rfl, by decide, eT_in 73 (by decide +kernel) rfl, wu_X4⟩
theorem pl_X4_15 : ePL RX4 15 3 1 (.array .int) true := ⟨_, tyX4, rfl, by decide, eT_in 73 (by decide +kernel) rfl, wu_X4, tyX4_ok, nmX4, rfl, by decide +kernel, fun _ => rfl⟩
theorem fl_X10_136 : eFL RX10 136 3 1 := ⟨_, rfl, by decide, eT_in 74 (by decide +kernel) rfl, wu_X4⟩
-- X10 136 final of another
theorem fl_X5_153 : eFL RX5 153 3 1 := ⟨_, rfl, by decide, eT_in 75 (by decide +kernel) rfl, wu_X4⟩
-- X5 153 final of another
theorem fl_X4_19 : eFL RX4 19 3 2 := ⟨_, rfl, by decide, eT_in 76 (by decide +kernel) rfl, wu_X4⟩
theorem pl_X4_19 : ePL RX4 19 3 2 (.array .int) true := ⟨_, tyX4, rfl, by decide, eT_in 76 (by decide +kernel) rfl, wu_X4, tyX4_ok, nmX4, rfl, by decide +kernel, fun _ => rfl⟩
theorem fl_X10_139 : eFL RX10 139 3 2 := ⟨_, rfl, by decide, eT_in 77 (by decide +kernel) rfl, wu_X4⟩
-- X10 139 final of another
theorem fl_X4_22 : eFL RX4 22 3 3 := ⟨_, rfl, by decide, eT_in 78 (by decide +kernel) rfl, wu_X4⟩
theorem pl_X4_22 : ePL RX4 22 3 3 (.array .int) true := ⟨_, tyX4, rfl, by decide, eT_in 78 (by decide +kernel) rfl, wu_X4, tyX4_ok, nmX4, rfl, by decide +kernel, fun _ => rfl⟩
theorem fl_X1_35 : eFL RX1 35 3 3 := ⟨_, rfl, by decide, eT_in 79 (by decide +kernel) rfl, wu_X4⟩
-- X1 35 final of another
theorem fl_X5_63 : eFL RX5 63 3 3 := ⟨_, rfl, by decide, eT_in 80 (by decide +kernel) rfl, wu_X4⟩
-- X5 63 final of another
theorem fl_X10_142 : eFL RX10 142 3 3 := ⟨_, rfl, by decide, eT_in 81 (by decide +kernel) rfl, wu_X4⟩
-- X10 142 final of another
theorem fl_X4_25 : eFL RX4 25 3 4 := ⟨_, rfl, by decide, eT_in 82 (by decide +kernel) rfl, wu_X4⟩
theorem pl_X4_25 : ePL RX4 25 3 4 (.array .int) true := ⟨_, tyX4, rfl, by decide, eT_in 82 (by decide +kernel) rfl, wu_X4, tyX4_ok, nmX4, rfl, by decide +kernel, fun _ => rfl⟩
theorem fl_X10_157 : eFL RX10 157 3 4 := ⟨_, rfl, by decide, eT_in 83 (by decide +kernel) rfl, wu_X4⟩
-- X10 157 final of another
theorem fl_X5_131 : eFL RX5 131 3 4 := ⟨_, rfl, by decide, eT_in 84 (by decide +kernel) rfl, wu_X4⟩
-- X5 131 final of another
theorem fl_X4_28 : eFL RX4 28 3 5 := ⟨_, rfl, by decide, eT_in 85 (by decide +kernel) rfl, wu_X4⟩
theorem pl_X4_28 : ePL RX4 28 3 5 (.array .int) true := ⟨_, tyX4, rfl, by decide, eT_in 85 (by decide +kernel) rfl, wu_X4, tyX4_ok, nmX4, rfl, by decide +kernel, fun _ => rfl⟩
theorem fl_X10_160 : eFL RX10 160 3 5 := ⟨_, rfl, by decide, eT_in 86 (by decide +kernel) rfl, wu_X4⟩
-- X10 160 final of another
theorem fl_X5_134 : eFL RX5 134 3 5 := ⟨_, rfl, by decide, eT_in 87 (by decide +kernel) rfl, wu_X4⟩
-- X5 134 final of another
theorem fl_X2_9 : eFL RX2 9 1 0 := ⟨_, rfl, by decide, eT_in 107 (by decide +kernel) rfl, wu_X2⟩
theorem pl_X2_9 : ePL RX2 9 1 0 .int false := ⟨_, tyX2, rfl, by decide, eT_in 107 (by decide +kernel) rfl, wu_X2, tyX2_ok, nmX2, rfl, by decide +kernel, fun _ => rfl⟩
theorem fl_X5_45 : eFL RX5 45 1 0 := ⟨_, rfl, by decide, eT_in 108 (by decide +kernel) rfl, wu_X2⟩
theorem pl_X5_45 : ePL RX5 45 1 0 .int false := ⟨_, tyX2, rfl, by decide, eT_in 108 (by decide +kernel) rfl, wu_X2, tyX2_ok, nmX2, rfl, by decide +kernel, fun h => by revert h; decide +kernel⟩
theorem fl_X1_57 : eFL RX1 57 1 0 := ⟨_, rfl, by decide, eT_in 109 (by decide +kernel) rfl, wu_X2⟩
theorem pl_X1_57 : ePL RX1 57 1 0 .int false := ⟨_, tyX2, rfl, by decide, eT_in 109 (by decide +kernel) rfl, wu_X2, tyX2_ok, nmX2, rfl, by decide +kernel, fun h => by revert h; decide +kernel⟩
theorem fl_X10_104 : eFL RX10 104 1 0 := ⟨_, rfl, by decide, eT_in 110 (by decide +kernel) rfl, wu_X2⟩
theorem pl_X10_104 : ePL RX10 104 1 0 .int false := ⟨_, tyX2, rfl, by decide, eT_in 110 (by decide +kernel) rfl, wu_X2, tyX2_ok, nmX2, rfl, by decide +kernel, fun h => by revert h; decide +kernel⟩
theorem fl_X2_15 : eFL RX2 15 1 1 := ⟨_, rfl, by decide, eT_in 111 (by decide +kernel) rfl, wu_X2⟩
theorem pl_X2_15 : ePL RX2 15 1 1 (.array .int) true := ⟨_, tyX2, rfl, by decide, eT_in 111 (by decide +kernel) rfl, wu_X2, tyX2_ok, nmX2, rfl, by decide +kernel, fun _ => rfl⟩
theorem fl_X1_65 : eFL RX1 65 1 1 := ⟨_, rfl, by decide, eT_in 112 (by decide +kernel) rfl, wu_X2⟩
-- X1 65 final of another
theorem fl_X5_93 : eFL RX5 93 1 1 := ⟨_, rfl, by decide, eT_in 113 (by decide +kernel) rfl, wu_X2⟩
-- X5 93 final of another
theorem fl_X10_168 : eFL RX10 168 1 1 := ⟨_, rfl, by decide, eT_in 114 (by decide +kernel) rfl, wu_X2⟩
-- X10 168 final of another
theorem fl_X2_19 : eFL RX2 19 1 2 := ⟨_, rfl, by decide, eT_in 115 (by decide +kernel) rfl, wu_X2⟩
theorem pl_X2_19 : ePL RX2 19 1 2 (.array .int) true := ⟨_, tyX2, rfl, by decide, eT_in 115 (by decide +kernel) rfl, wu_X2, tyX2_ok, nmX2, rfl, by decide +kernel, fun _ => rfl⟩
theorem fl_X1_68 : eFL RX1 68 1 2 := ⟨_, rfl, by decide, eT_in 116 (by decide +kernel) rfl, wu_X2⟩
-- X1 68 final of another
theorem fl_X5_96 : eFL RX5 96 1 2 := ⟨_, rfl, by decide, eT_in 117 (by decide +kernel) rfl, wu_X2⟩
-- X5 96 final of another
theorem fl_X10_171 : eFL RX10 171 1 2 := ⟨_, rfl, by decide, eT_in 118 (by decide +kernel) rfl, wu_X2⟩
-- X10 171 final of another
theorem fl_X2_22 : eFL RX2 22 1 3 := ⟨_, rfl, by decide, eT_in 119 (by decide +kernel) rfl, wu_X2⟩
theorem pl_X2_22 : ePL RX2 22 1 3 (.array .int) true := ⟨_, tyX2, rfl, by decide, eT_in 119 (by decide +kernel) rfl, wu_X2, tyX2_ok, nmX2, rfl, by decide +kernel, fun _ => rfl⟩
theorem fl_X10_174 : eFL RX10 174 1 3 := ⟨_, rfl, by decide, eT_in 120 (by decide +kernel) rfl, wu_X2⟩
-- X10 174 final of another
theorem fl_X2_25 : eFL RX2 25 1 4 := ⟨_, rfl, by decide, eT_in 121 (by decide +kernel) rfl, wu_X2⟩
theorem pl_X2_25 : ePL RX2 25 1 4 (.array .int) true := ⟨_, tyX2, rfl, by decide, eT_in 121 (by decide +kernel) rfl, wu_X2, tyX2_ok, nmX2, rfl, by decide +kernel, fun _ => rfl⟩
theorem fl_X5_82 : eFL RX5 82 1 4 := ⟨_, rfl, by decide, eT_in 122 (by decide +kernel) rfl, wu_X2⟩
-- X5 82 final of another
theorem fl_X10_177 : eFL RX10 177 1 4 := ⟨_, rfl, by decide, eT_in 123 (by decide +kernel) rfl, wu_X2⟩
-- X10 177 final of another
theorem fl_X2_28 : eFL RX2 28 1 5 := ⟨_, rfl, by decide, eT_in 124 (by decide +kernel) rfl, wu_X2⟩
theorem pl_X2_28 : ePL RX2 28 1 5 (.array .int) true := ⟨_, tyX2, rfl, by decide, eT_in 124 (by decide +kernel) rfl, wu_X2, tyX2_ok, nmX2, rfl, by decide +kernel, fun _ => rfl⟩
theorem fl_X10_180 : eFL RX10 180 1 5 := ⟨_, rfl, by decide, eT_in 125 (by decide +kernel) rfl, wu_X2⟩
-- X10 180 final of another
theorem fl_X2_31 : eFL RX2 31 1 6 := ⟨_, rfl, by decide, eT_in 126 (by decide +kernel) rfl, wu_X2⟩
theorem pl_X2_31 : ePL RX2 31 1 6 (.array .int) true := ⟨_, tyX2, rfl, by decide, eT_in 126 (by decide +kernel) rfl, wu_X2, tyX2_ok, nmX2, rfl, by decide +kernel, fun _ => rfl⟩
theorem fl_X10_183 : eFL RX10 183 1 6 := ⟨_, rfl, by decide, eT_in 127 (by decide +kernel) rfl, wu_X2⟩
-- X10 183 final of another
theorem fl_X5_147 : eFL RX5 147 1 6 := ⟨_, rfl, by decide, eT_in 128 (by decide +kernel) rfl, wu_X2⟩
-- X5 147 final of another
theorem fl_X2_34 : eFL RX2 34 1 7 := ⟨_, rfl, by decide, eT_in 129 (by decide +kernel) rfl, wu_X2⟩
theorem pl_X2_34 : ePL RX2 34 1 7 (.array .int) true := ⟨_, tyX2, rfl, by decide, eT_in 129 (by decide +kernel) rfl, wu_X2, tyX2_ok, nmX2, rfl, by decide +kernel, fun _ => rfl⟩
theorem fl_X6_80 : eFL RX6 80 1 7 := ⟨_, rfl, by decide, eT_in 130 (by decide +kernel) rfl, wu_X2⟩
-- X6 80 final of another
theorem fl_X10_186 : eFL RX10 186 1 7 := ⟨_, rfl, by decide, eT_in 131 (by decide +kernel) rfl, wu_X2⟩
-- X10 186 final of another
theorem fl_X5_150 : eFL RX5 150 1 7 := ⟨_, rfl, by decide, eT_in 132 (by decide +kernel) rfl, wu_X2⟩
-- X5 150 final of another
theorem fl_X2_37 : eFL RX2 37 1 8 := ⟨_, rfl, by decide, eT_in 133 (by decide +kernel) rfl, wu_X2⟩
theorem pl_X2_37 : ePL RX2 37 1 8 (.array .boolean) true := ⟨_, tyX2, rfl, by decide, eT_in 133 (by decide +kernel) rfl, wu_X2, tyX2_ok, nmX2, rfl, by decide +kernel, fun _ => rfl⟩
theorem fl_X10_189 : eFL RX10 189 1 8 := ⟨_, rfl, by decide, eT_in 134 (by decide +kernel) rfl, wu_X2⟩
-- X10 189 final of another
theorem fl_X5_12 : eFL RX5 12 4 0 := ⟨_, rfl, by decide, eT_in 155 (by decide +kernel) rfl, wu_X5⟩
theorem pl_X5_12 : ePL RX5 12 4 0 (.object "NameBenches$People") true := ⟨_, tyX5, rfl, by decide, eT_in 155 (by decide +kernel) rfl, wu_X5, tyX5_ok, nmX5, rfl, by decide +kernel, fun _ => rfl⟩
theorem fl_X1_31 : eFL RX1 31 4 0 := ⟨_, rfl, by decide, eT_in 156 (by decide +kernel) rfl, wu_X5⟩
-- X1 31 final of another
theorem fl_X6_55 : eFL RX6 55 4 0 := ⟨_, rfl, by decide, eT_in 157 (by decide +kernel) rfl, wu_X5⟩
-- X6 55 final of another
theorem fl_X10_91 : eFL RX10 91 4 0 := ⟨_, rfl, by decide, eT_in 158 (by decide +kernel) rfl, wu_X5⟩
-- X10 91 final of another
theorem fl_X5_21 : eFL RX5 21 4 1 := ⟨_, rfl, by decide, eT_in 159 (by decide +kernel) rfl, wu_X5⟩
theorem pl_X5_21 : ePL RX5 21 4 1 (.object "NameBenches$Names") true := ⟨_, tyX5, rfl, by decide, eT_in 159 (by decide +kernel) rfl, wu_X5, tyX5_ok, nmX5, rfl, by decide +kernel, fun _ => rfl⟩
theorem fl_X1_21 : eFL RX1 21 4 1 := ⟨_, rfl, by decide, eT_in 160 (by decide +kernel) rfl, wu_X5⟩
-- X1 21 final of another
theorem fl_X6_43 : eFL RX6 43 4 1 := ⟨_, rfl, by decide, eT_in 161 (by decide +kernel) rfl, wu_X5⟩
-- X6 43 final of another
theorem fl_X10_100 : eFL RX10 100 4 1 := ⟨_, rfl, by decide, eT_in 162 (by decide +kernel) rfl, wu_X5⟩
-- X10 100 final of another
theorem fl_X5_25 : eFL RX5 25 4 2 := ⟨_, rfl, by decide, eT_in 163 (by decide +kernel) rfl, wu_X5⟩
theorem pl_X5_25 : ePL RX5 25 4 2 (.array .int) true := ⟨_, tyX5, rfl, by decide, eT_in 163 (by decide +kernel) rfl, wu_X5, tyX5_ok, nmX5, rfl, by decide +kernel, fun _ => rfl⟩
theorem fl_X10_126 : eFL RX10 126 4 2 := ⟨_, rfl, by decide, eT_in 164 (by decide +kernel) rfl, wu_X5⟩
-- X10 126 final of another
theorem fl_X5_29 : eFL RX5 29 4 3 := ⟨_, rfl, by decide, eT_in 165 (by decide +kernel) rfl, wu_X5⟩
theorem pl_X5_29 : ePL RX5 29 4 3 .int false := ⟨_, tyX5, rfl, by decide, eT_in 165 (by decide +kernel) rfl, wu_X5, tyX5_ok, nmX5, rfl, by decide +kernel, fun _ => rfl⟩
theorem fl_X10_111 : eFL RX10 111 4 3 := ⟨_, rfl, by decide, eT_in 166 (by decide +kernel) rfl, wu_X5⟩
theorem pl_X10_111 : ePL RX10 111 4 3 .int false := ⟨_, tyX5, rfl, by decide, eT_in 166 (by decide +kernel) rfl, wu_X5, tyX5_ok, nmX5, rfl, by decide +kernel, fun h => by revert h; decide +kernel⟩
theorem fl_X5_33 : eFL RX5 33 4 4 := ⟨_, rfl, by decide, eT_in 167 (by decide +kernel) rfl, wu_X5⟩
theorem pl_X5_33 : ePL RX5 33 4 4 .int false := ⟨_, tyX5, rfl, by decide, eT_in 167 (by decide +kernel) rfl, wu_X5, tyX5_ok, nmX5, rfl, by decide +kernel, fun _ => rfl⟩
theorem fl_X10_117 : eFL RX10 117 4 4 := ⟨_, rfl, by decide, eT_in 168 (by decide +kernel) rfl, wu_X5⟩
theorem pl_X10_117 : ePL RX10 117 4 4 .int false := ⟨_, tyX5, rfl, by decide, eT_in 168 (by decide +kernel) rfl, wu_X5, tyX5_ok, nmX5, rfl, by decide +kernel, fun h => by revert h; decide +kernel⟩
theorem fl_X5_36 : eFL RX5 36 4 5 := ⟨_, rfl, by decide, eT_in 169 (by decide +kernel) rfl, wu_X5⟩
theorem pl_X5_36 : ePL RX5 36 4 5 .int false := ⟨_, tyX5, rfl, by decide, eT_in 169 (by decide +kernel) rfl, wu_X5, tyX5_ok, nmX5, rfl, by decide +kernel, fun _ => rfl⟩
theorem fl_X10_120 : eFL RX10 120 4 5 := ⟨_, rfl, by decide, eT_in 170 (by decide +kernel) rfl, wu_X5⟩
theorem pl_X10_120 : ePL RX10 120 4 5 .int false := ⟨_, tyX5, rfl, by decide, eT_in 170 (by decide +kernel) rfl, wu_X5, tyX5_ok, nmX5, rfl, by decide +kernel, fun h => by revert h; decide +kernel⟩
theorem fl_X5_39 : eFL RX5 39 4 6 := ⟨_, rfl, by decide, eT_in 171 (by decide +kernel) rfl, wu_X5⟩
theorem pl_X5_39 : ePL RX5 39 4 6 .int false := ⟨_, tyX5, rfl, by decide, eT_in 171 (by decide +kernel) rfl, wu_X5, tyX5_ok, nmX5, rfl, by decide +kernel, fun _ => rfl⟩
theorem fl_X10_123 : eFL RX10 123 4 6 := ⟨_, rfl, by decide, eT_in 172 (by decide +kernel) rfl, wu_X5⟩
theorem pl_X10_123 : ePL RX10 123 4 6 .int false := ⟨_, tyX5, rfl, by decide, eT_in 172 (by decide +kernel) rfl, wu_X5, tyX5_ok, nmX5, rfl, by decide +kernel, fun h => by revert h; decide +kernel⟩
theorem fl_X3_11 : eFL RX3 11 2 0 := ⟨_, rfl, by decide, eT_in 197 (by decide +kernel) rfl, wu_X3⟩
theorem pl_X3_11 : ePL RX3 11 2 0 (.array (.object "NameBenches$Registry")) true := ⟨_, tyX3, rfl, by decide, eT_in 197 (by decide +kernel) rfl, wu_X3, tyX3_ok, nmX3, rfl, by decide +kernel, fun _ => rfl⟩
theorem fl_X3_17 : eFL RX3 17 2 1 := ⟨_, rfl, by decide, eT_in 198 (by decide +kernel) rfl, wu_X3⟩
theorem pl_X3_17 : ePL RX3 17 2 1 .int false := ⟨_, tyX3, rfl, by decide, eT_in 198 (by decide +kernel) rfl, wu_X3, tyX3_ok, nmX3, rfl, by decide +kernel, fun _ => rfl⟩
theorem fl_X3_21 : eFL RX3 21 2 2 := ⟨_, rfl, by decide, eT_in 199 (by decide +kernel) rfl, wu_X3⟩
theorem pl_X3_21 : ePL RX3 21 2 2 .int false := ⟨_, tyX3, rfl, by decide, eT_in 199 (by decide +kernel) rfl, wu_X3, tyX3_ok, nmX3, rfl, by decide +kernel, fun _ => rfl⟩
theorem fl_X10_281 : eFL RX10 281 2 2 := ⟨_, rfl, by decide, eT_in 200 (by decide +kernel) rfl, wu_X3⟩
theorem pl_X10_281 : ePL RX10 281 2 2 .int false := ⟨_, tyX3, rfl, by decide, eT_in 200 (by decide +kernel) rfl, wu_X3, tyX3_ok, nmX3, rfl, by decide +kernel, fun h => by revert h; decide +kernel⟩
theorem fl_X8_11 : eFL RX8 11 5 0 := ⟨_, rfl, by decide, eT_in 216 (by decide +kernel) rfl, wu_X8⟩
theorem pl_X8_11 : ePL RX8 11 5 0 (.array (.object "NameBenches$Registry")) true := ⟨_, tyX8, rfl, by decide, eT_in 216 (by decide +kernel) rfl, wu_X8, tyX8_ok, nmX8, rfl, by decide +kernel, fun _ => rfl⟩
theorem fl_X10_338 : eFL RX10 338 5 0 := ⟨_, rfl, by decide, eT_in 217 (by decide +kernel) rfl, wu_X8⟩
-- X10 338 final of another
theorem fl_X8_17 : eFL RX8 17 5 1 := ⟨_, rfl, by decide, eT_in 218 (by decide +kernel) rfl, wu_X8⟩
theorem pl_X8_17 : ePL RX8 17 5 1 (.array .boolean) true := ⟨_, tyX8, rfl, by decide, eT_in 218 (by decide +kernel) rfl, wu_X8, tyX8_ok, nmX8, rfl, by decide +kernel, fun _ => rfl⟩
theorem fl_X10_342 : eFL RX10 342 5 1 := ⟨_, rfl, by decide, eT_in 219 (by decide +kernel) rfl, wu_X8⟩
-- X10 342 final of another
theorem fl_X1_9 : eFL RX1 9 0 0 := ⟨_, rfl, by decide, eT_in 231 (by decide +kernel) rfl, wu_X1⟩
theorem pl_X1_9 : ePL RX1 9 0 0 (.array .int) true := ⟨_, tyX1, rfl, by decide, eT_in 231 (by decide +kernel) rfl, wu_X1, tyX1_ok, nmX1, rfl, by decide +kernel, fun _ => rfl⟩
theorem fl_X10_12 : eFL RX10 12 7 0 := ⟨_, rfl, by decide, eT_in 235 (by decide +kernel) rfl, wu_X10⟩
theorem pl_X10_12 : ePL RX10 12 7 0 (.object "NameBenches$Text") true := ⟨_, tyX10, rfl, by decide, eT_in 235 (by decide +kernel) rfl, wu_X10, tyX10_ok, nmX10, rfl, by decide +kernel, fun _ => rfl⟩
theorem fl_X10_19 : eFL RX10 19 7 1 := ⟨_, rfl, by decide, eT_in 236 (by decide +kernel) rfl, wu_X10⟩
theorem pl_X10_19 : ePL RX10 19 7 1 (.object "NameBenches$Registry") true := ⟨_, tyX10, rfl, by decide, eT_in 236 (by decide +kernel) rfl, wu_X10, tyX10_ok, nmX10, rfl, by decide +kernel, fun _ => rfl⟩
theorem fl_X10_23 : eFL RX10 23 7 2 := ⟨_, rfl, by decide, eT_in 237 (by decide +kernel) rfl, wu_X10⟩
theorem pl_X10_23 : ePL RX10 23 7 2 (.object "NameBenches$Registry") true := ⟨_, tyX10, rfl, by decide, eT_in 237 (by decide +kernel) rfl, wu_X10, tyX10_ok, nmX10, rfl, by decide +kernel, fun _ => rfl⟩
theorem fl_X10_29 : eFL RX10 29 7 3 := ⟨_, rfl, by decide, eT_in 238 (by decide +kernel) rfl, wu_X10⟩
theorem pl_X10_29 : ePL RX10 29 7 3 (.object "NameBenches$Past") true := ⟨_, tyX10, rfl, by decide, eT_in 238 (by decide +kernel) rfl, wu_X10, tyX10_ok, nmX10, rfl, by decide +kernel, fun _ => rfl⟩
theorem fl_X10_36 : eFL RX10 36 7 4 := ⟨_, rfl, by decide, eT_in 239 (by decide +kernel) rfl, wu_X10⟩
theorem pl_X10_36 : ePL RX10 36 7 4 (.object "NameBenches$Slots") true := ⟨_, tyX10, rfl, by decide, eT_in 239 (by decide +kernel) rfl, wu_X10, tyX10_ok, nmX10, rfl, by decide +kernel, fun _ => rfl⟩
theorem fl_X10_43 : eFL RX10 43 7 5 := ⟨_, rfl, by decide, eT_in 240 (by decide +kernel) rfl, wu_X10⟩
theorem pl_X10_43 : ePL RX10 43 7 5 (.object "NameBenches$NameSearch") true := ⟨_, tyX10, rfl, by decide, eT_in 240 (by decide +kernel) rfl, wu_X10, tyX10_ok, nmX10, rfl, by decide +kernel, fun _ => rfl⟩
theorem wv_L_193 : Cond.methodLink RL 193 yX10_init ∈ eW := eT_in 22 (by decide +kernel) rfl
theorem lk_L_193 : Cond.methodLink RL 193 yX10_init ∈ eW ∧ Cond.instanceMethod yX10_init ∈ eW ∧ Cond.initialized (yX10_init).cls ∈ eW ∧ Cond.code yX10_init cX10_init 1 none ∈ eW ∧ (yX10_init).name = "<init>" ∧ (yX10_init).cls ≠ "java/lang/invoke/MethodHandle" ∧ (yX10_init).cls ≠ "java/lang/invoke/VarHandle" ∧ (parseMethodDescriptor (yX10_init).desc).map (fun d => d.parameters.length) = some 0 := ⟨wv_L_193, wm_yX10_init, wi_X10, wyX10_init, rfl, by decide +kernel, by decide +kernel, by decide +kernel⟩
theorem wv_X10_3 : Cond.methodLink RX10 3 Lib.objectInit ∈ eW := eT_in 25 (by decide +kernel) rfl
theorem wv_X9_3 : Cond.methodLink RX9 3 Lib.objectInit ∈ eW := eT_in 33 (by decide +kernel) rfl
theorem wv_X10_18 : Cond.methodLink RX10 18 yX5_init ∈ eW := eT_in 60 (by decide +kernel) rfl
theorem lk_X10_18 : Cond.methodLink RX10 18 yX5_init ∈ eW ∧ Cond.instanceMethod yX5_init ∈ eW ∧ Cond.initialized (yX5_init).cls ∈ eW ∧ Cond.code yX5_init cX5_init 2 none ∈ eW ∧ (yX5_init).name = "<init>" ∧ (yX5_init).cls ≠ "java/lang/invoke/MethodHandle" ∧ (yX5_init).cls ≠ "java/lang/invoke/VarHandle" ∧ (parseMethodDescriptor (yX5_init).desc).map (fun d => d.parameters.length) = some 0 := ⟨wv_X10_18, wm_yX5_init, wi_X5, wyX5_init, rfl, by decide +kernel, by decide +kernel, by decide +kernel⟩
theorem wv_X5_3 : Cond.methodLink RX5 3 Lib.objectInit ∈ eW := eT_in 63 (by decide +kernel) rfl
theorem wv_X4_3 : Cond.methodLink RX4 3 Lib.objectInit ∈ eW := eT_in 69 (by decide +kernel) rfl
theorem wv_X2_3 : Cond.methodLink RX2 3 Lib.objectInit ∈ eW := eT_in 106 (by decide +kernel) rfl
theorem wv_X10_28 : Cond.methodLink RX10 28 yX3_init ∈ eW := eT_in 190 (by decide +kernel) rfl
theorem lk_X10_28 : Cond.methodLink RX10 28 yX3_init ∈ eW ∧ Cond.instanceMethod yX3_init ∈ eW ∧ Cond.initialized (yX3_init).cls ∈ eW ∧ Cond.code yX3_init cX3_init 2 none ∈ eW ∧ (yX3_init).name = "<init>" ∧ (yX3_init).cls ≠ "java/lang/invoke/MethodHandle" ∧ (yX3_init).cls ≠ "java/lang/invoke/VarHandle" ∧ (parseMethodDescriptor (yX3_init).desc).map (fun d => d.parameters.length) = some 0 := ⟨wv_X10_28, wm_yX3_init, wi_X3, wyX3_init, rfl, by decide +kernel, by decide +kernel, by decide +kernel⟩
theorem wv_X3_3 : Cond.methodLink RX3 3 Lib.objectInit ∈ eW := eT_in 193 (by decide +kernel) rfl
theorem wv_X3_24 : Cond.methodLink RX3 24 yX5_init ∈ eW := eT_in 196 (by decide +kernel) rfl
theorem lk_X3_24 : Cond.methodLink RX3 24 yX5_init ∈ eW ∧ Cond.instanceMethod yX5_init ∈ eW ∧ Cond.initialized (yX5_init).cls ∈ eW ∧ Cond.code yX5_init cX5_init 2 none ∈ eW ∧ (yX5_init).name = "<init>" ∧ (yX5_init).cls ≠ "java/lang/invoke/MethodHandle" ∧ (yX5_init).cls ≠ "java/lang/invoke/VarHandle" ∧ (parseMethodDescriptor (yX5_init).desc).map (fun d => d.parameters.length) = some 0 := ⟨wv_X3_24, wm_yX5_init, wi_X5, wyX5_init, rfl, by decide +kernel, by decide +kernel, by decide +kernel⟩
theorem wv_X10_35 : Cond.methodLink RX10 35 yX8_init ∈ eW := eT_in 210 (by decide +kernel) rfl
theorem lk_X10_35 : Cond.methodLink RX10 35 yX8_init ∈ eW ∧ Cond.instanceMethod yX8_init ∈ eW ∧ Cond.initialized (yX8_init).cls ∈ eW ∧ Cond.code yX8_init cX8_init 2 none ∈ eW ∧ (yX8_init).name = "<init>" ∧ (yX8_init).cls ≠ "java/lang/invoke/MethodHandle" ∧ (yX8_init).cls ≠ "java/lang/invoke/VarHandle" ∧ (parseMethodDescriptor (yX8_init).desc).map (fun d => d.parameters.length) = some 0 := ⟨wv_X10_35, wm_yX8_init, wi_X8, wyX8_init, rfl, by decide +kernel, by decide +kernel, by decide +kernel⟩
theorem wv_X8_3 : Cond.methodLink RX8 3 Lib.objectInit ∈ eW := eT_in 213 (by decide +kernel) rfl
theorem wv_X8_21 : Cond.methodLink RX8 21 yX5_init ∈ eW := eT_in 215 (by decide +kernel) rfl
theorem lk_X8_21 : Cond.methodLink RX8 21 yX5_init ∈ eW ∧ Cond.instanceMethod yX5_init ∈ eW ∧ Cond.initialized (yX5_init).cls ∈ eW ∧ Cond.code yX5_init cX5_init 2 none ∈ eW ∧ (yX5_init).name = "<init>" ∧ (yX5_init).cls ≠ "java/lang/invoke/MethodHandle" ∧ (yX5_init).cls ≠ "java/lang/invoke/VarHandle" ∧ (parseMethodDescriptor (yX5_init).desc).map (fun d => d.parameters.length) = some 0 := ⟨wv_X8_21, wm_yX5_init, wi_X5, wyX5_init, rfl, by decide +kernel, by decide +kernel, by decide +kernel⟩
theorem wv_X1_3 : Cond.methodLink RX1 3 Lib.objectInit ∈ eW := eT_in 230 (by decide +kernel) rfl
theorem wv_L_194 : Cond.methodLink RL 194 yL_draw ∈ eW := eT_in 254 (by decide +kernel) rfl
theorem lk_L_194 : eLS RL 194 yL_draw (.code yL_draw cL_draw 2 (some .int)) 2 := ⟨wv_L_194, ws_yL_draw, wi_L, wyL_draw, by decide +kernel, by decide +kernel, by decide +kernel⟩
theorem wv_L_213 : Cond.methodLink RL 213 yL_load ∈ eW := eT_in 259 (by decide +kernel) rfl
theorem lk_L_213 : eLS RL 213 yL_load (.codeWith yL_load cL_load 2 (some .long) [(0, 5, 6, 19)]) 1 := ⟨wv_L_213, ws_yL_load, wi_L, wyL_load, by decide +kernel, by decide +kernel, by decide +kernel⟩
theorem wv_L_23 : Cond.methodLink RL 23 yX10_load ∈ eW := eT_in 263 (by decide +kernel) rfl
theorem lk_L_23 : eLV RL 23 RX10 yX10_load (.code yX10_load cX10_load 3 (some .int)) 0 := ⟨wv_L_23, wm_yX10_load, wl_yX10_load, wi_X10, wyX10_load, rfl, by decide +kernel, by decide +kernel, by decide +kernel⟩
theorem wv_X10_67 : Cond.methodLink RX10 67 yX9_firstError ∈ eW := eT_in 267 (by decide +kernel) rfl
theorem lk_X10_67 : eLV RX10 67 RX9 yX9_firstError (.code yX9_firstError cX9_firstError 2 (some .int)) 0 := ⟨wv_X10_67, wm_yX9_firstError, wl_yX9_firstError, wi_X9, wyX9_firstError, rfl, by decide +kernel, by decide +kernel, by decide +kernel⟩
theorem wv_X9_32 : Cond.methodLink RX9 32 yX9_readHead ∈ eW := eT_in 271 (by decide +kernel) rfl
theorem lk_X9_32 : eLV RX9 32 RX9 yX9_readHead (.code yX9_readHead cX9_readHead 1 (some .boolean)) 0 := ⟨wv_X9_32, wm_yX9_readHead, wl_yX9_readHead, wi_X9, wyX9_readHead, rfl, by decide +kernel, by decide +kernel, by decide +kernel⟩
theorem wv_X9_39 : Cond.methodLink RX9 39 yX9_reads ∈ eW := eT_in 275 (by decide +kernel) rfl
theorem lk_X9_39 : eLV RX9 39 RX9 yX9_reads (.code yX9_reads cX9_reads 2 (some .boolean)) 1 := ⟨wv_X9_39, wm_yX9_reads, wl_yX9_reads, wi_X9, wyX9_reads, rfl, by decide +kernel, by decide +kernel, by decide +kernel⟩
theorem wv_X9_43 : Cond.methodLink RX9 43 yX9_here ∈ eW := eT_in 279 (by decide +kernel) rfl
theorem lk_X9_43 : eLV RX9 43 RX9 yX9_here (.code yX9_here cX9_here 1 (some .int)) 0 := ⟨wv_X9_43, wm_yX9_here, wl_yX9_here, wi_X9, wyX9_here, rfl, by decide +kernel, by decide +kernel, by decide +kernel⟩
theorem wv_X9_36 : Cond.methodLink RX9 36 yX9_readCommand ∈ eW := eT_in 283 (by decide +kernel) rfl
theorem lk_X9_36 : eLV RX9 36 RX9 yX9_readCommand (.code yX9_readCommand cX9_readCommand 1 (some .boolean)) 0 := ⟨wv_X9_36, wm_yX9_readCommand, wl_yX9_readCommand, wi_X9, wyX9_readCommand, rfl, by decide +kernel, by decide +kernel, by decide +kernel⟩
theorem wv_X9_47 : Cond.methodLink RX9 47 yX9_readsPair ∈ eW := eT_in 287 (by decide +kernel) rfl
theorem lk_X9_47 : eLV RX9 47 RX9 yX9_readsPair (.code yX9_readsPair cX9_readsPair 4 (some .boolean)) 1 := ⟨wv_X9_47, wm_yX9_readsPair, wl_yX9_readsPair, wi_X9, wyX9_readsPair, rfl, by decide +kernel, by decide +kernel, by decide +kernel⟩
theorem wv_X9_57 : Cond.methodLink RX9 57 yX9_takeDigit ∈ eW := eT_in 291 (by decide +kernel) rfl
theorem lk_X9_57 : eLV RX9 57 RX9 yX9_takeDigit (.code yX9_takeDigit cX9_takeDigit 4 (some .int)) 2 := ⟨wv_X9_57, wm_yX9_takeDigit, wl_yX9_takeDigit, wi_X9, wyX9_takeDigit, rfl, by decide +kernel, by decide +kernel, by decide +kernel⟩
theorem wv_X9_61 : Cond.methodLink RX9 61 yX9_tells ∈ eW := eT_in 295 (by decide +kernel) rfl
theorem lk_X9_61 : eLV RX9 61 RX9 yX9_tells (.code yX9_tells cX9_tells 2 (some .boolean)) 1 := ⟨wv_X9_61, wm_yX9_tells, wl_yX9_tells, wi_X9, wyX9_tells, rfl, by decide +kernel, by decide +kernel, by decide +kernel⟩
theorem wv_X9_50 : Cond.methodLink RX9 50 yX9_readsDigit ∈ eW := eT_in 299 (by decide +kernel) rfl
theorem lk_X9_50 : eLV RX9 50 RX9 yX9_readsDigit (.code yX9_readsDigit cX9_readsDigit 4 (some .boolean)) 2 := ⟨wv_X9_50, wm_yX9_readsDigit, wl_yX9_readsDigit, wi_X9, wyX9_readsDigit, rfl, by decide +kernel, by decide +kernel, by decide +kernel⟩
theorem wv_X9_54 : Cond.methodLink RX9 54 yX9_readsLetters ∈ eW := eT_in 303 (by decide +kernel) rfl
theorem lk_X9_54 : eLV RX9 54 RX9 yX9_readsLetters (.code yX9_readsLetters cX9_readsLetters 4 (some .boolean)) 0 := ⟨wv_X9_54, wm_yX9_readsLetters, wl_yX9_readsLetters, wi_X9, wyX9_readsLetters, rfl, by decide +kernel, by decide +kernel, by decide +kernel⟩
theorem wv_X10_73 : Cond.methodLink RX10 73 yX5_empty ∈ eW := eT_in 375 (by decide +kernel) rfl
theorem lk_X10_73 : eLV RX10 73 RX5 yX5_empty (.code yX5_empty cX5_empty 2 none) 0 := ⟨wv_X10_73, wm_yX5_empty, wl_yX5_empty, wi_X5, wyX5_empty, rfl, by decide +kernel, by decide +kernel, by decide +kernel⟩
theorem wv_X10_76 : Cond.methodLink RX10 76 yX3_forgetAll ∈ eW := eT_in 379 (by decide +kernel) rfl
theorem lk_X10_76 : eLV RX10 76 RX3 yX3_forgetAll (.code yX3_forgetAll cX3_forgetAll 1 none) 0 := ⟨wv_X10_76, wm_yX3_forgetAll, wl_yX3_forgetAll, wi_X3, wyX3_forgetAll, rfl, by decide +kernel, by decide +kernel, by decide +kernel⟩
theorem wv_X10_79 : Cond.methodLink RX10 79 yX8_forgetAll ∈ eW := eT_in 383 (by decide +kernel) rfl
theorem lk_X10_79 : eLV RX10 79 RX8 yX8_forgetAll (.code yX8_forgetAll cX8_forgetAll 2 none) 0 := ⟨wv_X10_79, wm_yX8_forgetAll, wl_yX8_forgetAll, wi_X8, wyX8_forgetAll, rfl, by decide +kernel, by decide +kernel, by decide +kernel⟩
theorem wv_X10_80 : Cond.methodLink RX10 80 yX9_readHead ∈ eW := eT_in 387 (by decide +kernel) rfl
theorem lk_X10_80 : eLV RX10 80 RX9 yX9_readHead (.code yX9_readHead cX9_readHead 1 (some .boolean)) 0 := ⟨wv_X10_80, wm_yX9_readHead, wl_yX9_readHead, wi_X9, wyX9_readHead, rfl, by decide +kernel, by decide +kernel, by decide +kernel⟩
theorem wv_X10_84 : Cond.methodLink RX10 84 yX9_readCommand ∈ eW := eT_in 388 (by decide +kernel) rfl
theorem lk_X10_84 : eLV RX10 84 RX9 yX9_readCommand (.code yX9_readCommand cX9_readCommand 1 (some .boolean)) 0 := ⟨wv_X10_84, wm_yX9_readCommand, wl_yX9_readCommand, wi_X9, wyX9_readCommand, rfl, by decide +kernel, by decide +kernel, by decide +kernel⟩
theorem wv_X10_87 : Cond.methodLink RX10 87 yX5_obeys ∈ eW := eT_in 389 (by decide +kernel) rfl
theorem lk_X10_87 : eLV RX10 87 RX5 yX5_obeys (.code yX5_obeys cX5_obeys 3 (some .boolean)) 1 := ⟨wv_X10_87, wm_yX5_obeys, wl_yX5_obeys, wi_X5, wyX5_obeys, rfl, by decide +kernel, by decide +kernel, by decide +kernel⟩
theorem wv_X5_208 : Cond.methodLink RX5 208 yX5_triesPerson ∈ eW := eT_in 393 (by decide +kernel) rfl
theorem lk_X5_208 : eLV RX5 208 RX5 yX5_triesPerson (.code yX5_triesPerson cX5_triesPerson 4 (some .boolean)) 3 := ⟨wv_X5_208, wm_yX5_triesPerson, wl_yX5_triesPerson, wi_X5, wyX5_triesPerson, rfl, by decide +kernel, by decide +kernel, by decide +kernel⟩
theorem wv_X5_187 : Cond.methodLink RX5 187 yX4_isFull ∈ eW := eT_in 406 (by decide +kernel) rfl
theorem lk_X5_187 : eLV RX5 187 RX4 yX4_isFull (.code yX4_isFull cX4_isFull 1 (some .boolean)) 0 := ⟨wv_X5_187, wm_yX4_isFull, wl_yX4_isFull, wi_X4, wyX4_isFull, rfl, by decide +kernel, by decide +kernel, by decide +kernel⟩
theorem wv_X5_188 : Cond.methodLink RX5 188 yX4_add ∈ eW := eT_in 410 (by decide +kernel) rfl
theorem lk_X5_188 : eLV RX5 188 RX4 yX4_add (.code yX4_add cX4_add 4 none) 3 := ⟨wv_X5_188, wm_yX4_add, wl_yX4_add, wi_X4, wyX4_add, rfl, by decide +kernel, by decide +kernel, by decide +kernel⟩
theorem wv_X4_37 : Cond.methodLink RX4 37 yX4_isFull ∈ eW := eT_in 414 (by decide +kernel) rfl
theorem lk_X4_37 : eLV RX4 37 RX4 yX4_isFull (.code yX4_isFull cX4_isFull 1 (some .boolean)) 0 := ⟨wv_X4_37, wm_yX4_isFull, wl_yX4_isFull, wi_X4, wyX4_isFull, rfl, by decide +kernel, by decide +kernel, by decide +kernel⟩
theorem wv_X5_211 : Cond.methodLink RX5 211 yX5_triesGiving ∈ eW := eT_in 415 (by decide +kernel) rfl
theorem lk_X5_211 : eLV RX5 211 RX5 yX5_triesGiving (.code yX5_triesGiving cX5_triesGiving 5 (some .boolean)) 4 := ⟨wv_X5_211, wm_yX5_triesGiving, wl_yX5_triesGiving, wi_X5, wyX5_triesGiving, rfl, by decide +kernel, by decide +kernel, by decide +kernel⟩
theorem wv_X5_128 : Cond.methodLink RX5 128 yX4_has ∈ eW := eT_in 419 (by decide +kernel) rfl
theorem lk_X5_128 : eLV RX5 128 RX4 yX4_has (.code yX4_has cX4_has 2 (some .boolean)) 1 := ⟨wv_X5_128, wm_yX4_has, wl_yX4_has, wi_X4, wyX4_has, rfl, by decide +kernel, by decide +kernel, by decide +kernel⟩
theorem wv_X5_112 : Cond.methodLink RX5 112 yX0_isCode ∈ eW := eT_in 423 (by decide +kernel) rfl
theorem lk_X5_112 : eLS RX5 112 yX0_isCode (.code yX0_isCode cX0_isCode 2 (some .boolean)) 2 := ⟨wv_X5_112, ws_yX0_isCode, wi_X0, wyX0_isCode, by decide +kernel, by decide +kernel, by decide +kernel⟩
theorem wv_X0_9 : Cond.methodLink RX0 9 yX0_codes ∈ eW := eT_in 426 (by decide +kernel) rfl
theorem lk_X0_9 : eLS RX0 9 yX0_codes (.code yX0_codes cX0_codes 3 (some .int)) 1 := ⟨wv_X0_9, ws_yX0_codes, wi_X0, wyX0_codes, by decide +kernel, by decide +kernel, by decide +kernel⟩
theorem wv_X5_193 : Cond.methodLink RX5 193 yX5_reasonAgainst ∈ eW := eT_in 429 (by decide +kernel) rfl
theorem lk_X5_193 : eLV RX5 193 RX5 yX5_reasonAgainst (.code yX5_reasonAgainst cX5_reasonAgainst 6 (some .int)) 4 := ⟨wv_X5_193, wm_yX5_reasonAgainst, wl_yX5_reasonAgainst, wi_X5, wyX5_reasonAgainst, rfl, by decide +kernel, by decide +kernel, by decide +kernel⟩
theorem wv_X5_59 : Cond.methodLink RX5 59 yX5_reasonAgainstAnyName ∈ eW := eT_in 433 (by decide +kernel) rfl
theorem lk_X5_59 : eLV RX5 59 RX5 yX5_reasonAgainstAnyName (.code yX5_reasonAgainstAnyName cX5_reasonAgainstAnyName 3 (some .int)) 2 := ⟨wv_X5_59, wm_yX5_reasonAgainstAnyName, wl_yX5_reasonAgainstAnyName, wi_X5, wyX5_reasonAgainstAnyName, rfl, by decide +kernel, by decide +kernel, by decide +kernel⟩
theorem wv_X5_74 : Cond.methodLink RX5 74 yX4_areBrothers ∈ eW := eT_in 437 (by decide +kernel) rfl
theorem lk_X5_74 : eLV RX5 74 RX4 yX4_areBrothers (.code yX4_areBrothers cX4_areBrothers 3 (some .boolean)) 2 := ⟨wv_X5_74, wm_yX4_areBrothers, wl_yX4_areBrothers, wi_X4, wyX4_areBrothers, rfl, by decide +kernel, by decide +kernel, by decide +kernel⟩
theorem wv_X5_78 : Cond.methodLink RX5 78 yX2_aliveOf ∈ eW := eT_in 441 (by decide +kernel) rfl
theorem lk_X5_78 : eLV RX5 78 RX2 yX2_aliveOf (.code yX2_aliveOf cX2_aliveOf 4 (some .int)) 1 := ⟨wv_X5_78, wm_yX2_aliveOf, wl_yX2_aliveOf, wi_X2, wyX2_aliveOf, rfl, by decide +kernel, by decide +kernel, by decide +kernel⟩
theorem wv_X5_66 : Cond.methodLink RX5 66 yX5_isTaken ∈ eW := eT_in 445 (by decide +kernel) rfl
theorem lk_X5_66 : eLV RX5 66 RX5 yX5_isTaken (.code yX5_isTaken cX5_isTaken 7 (some .boolean)) 4 := ⟨wv_X5_66, wm_yX5_isTaken, wl_yX5_isTaken, wi_X5, wyX5_isTaken, rfl, by decide +kernel, by decide +kernel, by decide +kernel⟩
theorem wv_X5_85 : Cond.methodLink RX5 85 yX2_isAliveAs ∈ eW := eT_in 449 (by decide +kernel) rfl
theorem lk_X5_85 : eLV RX5 85 RX2 yX2_isAliveAs (.code yX2_isAliveAs cX2_isAliveAs 4 (some .boolean)) 3 := ⟨wv_X5_85, wm_yX2_isAliveAs, wl_yX2_isAliveAs, wi_X2, wyX2_isAliveAs, rfl, by decide +kernel, by decide +kernel, by decide +kernel⟩
theorem wv_X5_70 : Cond.methodLink RX5 70 yX2_isFull ∈ eW := eT_in 453 (by decide +kernel) rfl
theorem lk_X5_70 : eLV RX5 70 RX2 yX2_isFull (.code yX2_isFull cX2_isFull 1 (some .boolean)) 0 := ⟨wv_X5_70, wm_yX2_isFull, wl_yX2_isFull, wi_X2, wyX2_isFull, rfl, by decide +kernel, by decide +kernel, by decide +kernel⟩
theorem wv_X5_166 : Cond.methodLink RX5 166 yX2_add ∈ eW := eT_in 457 (by decide +kernel) rfl
theorem lk_X5_166 : eLV RX5 166 RX2 yX2_add (.code yX2_add cX2_add 6 none) 5 := ⟨wv_X5_166, wm_yX2_add, wl_yX2_add, wi_X2, wyX2_add, rfl, by decide +kernel, by decide +kernel, by decide +kernel⟩
theorem wv_X2_47 : Cond.methodLink RX2 47 yX2_isFull ∈ eW := eT_in 461 (by decide +kernel) rfl
theorem lk_X2_47 : eLV RX2 47 RX2 yX2_isFull (.code yX2_isFull cX2_isFull 1 (some .boolean)) 0 := ⟨wv_X2_47, wm_yX2_isFull, wl_yX2_isFull, wi_X2, wyX2_isFull, rfl, by decide +kernel, by decide +kernel, by decide +kernel⟩
theorem wv_X5_214 : Cond.methodLink RX5 214 yX5_callFor ∈ eW := eT_in 462 (by decide +kernel) rfl
theorem lk_X5_214 : eLV RX5 214 RX5 yX5_callFor (.code yX5_callFor cX5_callFor 6 (some .int)) 3 := ⟨wv_X5_214, wm_yX5_callFor, wl_yX5_callFor, wi_X5, wyX5_callFor, rfl, by decide +kernel, by decide +kernel, by decide +kernel⟩
theorem wv_X5_117 : Cond.methodLink RX5 117 yX5_meantByPeople ∈ eW := eT_in 466 (by decide +kernel) rfl
theorem lk_X5_117 : eLV RX5 117 RX5 yX5_meantByPeople (.code yX5_meantByPeople cX5_meantByPeople 5 (some .int)) 3 := ⟨wv_X5_117, wm_yX5_meantByPeople, wl_yX5_meantByPeople, wi_X5, wyX5_meantByPeople, rfl, by decide +kernel, by decide +kernel, by decide +kernel⟩
theorem wv_X5_99 : Cond.methodLink RX5 99 yX2_aliveNameOf ∈ eW := eT_in 470 (by decide +kernel) rfl
theorem lk_X5_99 : eLV RX5 99 RX2 yX2_aliveNameOf (.code yX2_aliveNameOf cX2_aliveNameOf 5 (some .int)) 3 := ⟨wv_X5_99, wm_yX2_aliveNameOf, wl_yX2_aliveNameOf, wi_X2, wyX2_aliveNameOf, rfl, by decide +kernel, by decide +kernel, by decide +kernel⟩
theorem wv_X2_51 : Cond.methodLink RX2 51 yX2_isAliveAs ∈ eW := eT_in 474 (by decide +kernel) rfl
theorem lk_X2_51 : eLV RX2 51 RX2 yX2_isAliveAs (.code yX2_isAliveAs cX2_isAliveAs 4 (some .boolean)) 3 := ⟨wv_X2_51, wm_yX2_isAliveAs, wl_yX2_isAliveAs, wi_X2, wyX2_isAliveAs, rfl, by decide +kernel, by decide +kernel, by decide +kernel⟩
theorem wv_X5_103 : Cond.methodLink RX5 103 yX5_firstBrotherNamed ∈ eW := eT_in 475 (by decide +kernel) rfl
theorem lk_X5_103 : eLV RX5 103 RX5 yX5_firstBrotherNamed (.code yX5_firstBrotherNamed cX5_firstBrotherNamed 5 (some .int)) 3 := ⟨wv_X5_103, wm_yX5_firstBrotherNamed, wl_yX5_firstBrotherNamed, wi_X5, wyX5_firstBrotherNamed, rfl, by decide +kernel, by decide +kernel, by decide +kernel⟩
theorem wv_X5_120 : Cond.methodLink RX5 120 yX2_use ∈ eW := eT_in 479 (by decide +kernel) rfl
theorem lk_X5_120 : eLV RX5 120 RX2 yX2_use (.code yX2_use cX2_use 4 none) 3 := ⟨wv_X5_120, wm_yX2_use, wl_yX2_use, wi_X2, wyX2_use, rfl, by decide +kernel, by decide +kernel, by decide +kernel⟩
theorem wv_X5_124 : Cond.methodLink RX5 124 yX5_mixUp ∈ eW := eT_in 483 (by decide +kernel) rfl
theorem lk_X5_124 : eLV RX5 124 RX5 yX5_mixUp (.code yX5_mixUp cX5_mixUp 3 none) 2 := ⟨wv_X5_124, wm_yX5_mixUp, wl_yX5_mixUp, wi_X5, wyX5_mixUp, rfl, by decide +kernel, by decide +kernel, by decide +kernel⟩
theorem wv_X5_217 : Cond.methodLink RX5 217 yX5_passYears ∈ eW := eT_in 487 (by decide +kernel) rfl
theorem lk_X5_217 : eLV RX5 217 RX5 yX5_passYears (.code yX5_passYears cX5_passYears 4 (some .int)) 1 := ⟨wv_X5_217, wm_yX5_passYears, wl_yX5_passYears, wi_X5, wyX5_passYears, rfl, by decide +kernel, by decide +kernel, by decide +kernel⟩
theorem wv_X5_140 : Cond.methodLink RX5 140 yX4_growOlder ∈ eW := eT_in 494 (by decide +kernel) rfl
theorem lk_X5_140 : eLV RX5 140 RX4 yX4_growOlder (.code yX4_growOlder cX4_growOlder 2 none) 0 := ⟨wv_X5_140, wm_yX4_growOlder, wl_yX4_growOlder, wi_X4, wyX4_growOlder, rfl, by decide +kernel, by decide +kernel, by decide +kernel⟩
theorem wv_X5_143 : Cond.methodLink RX5 143 yX5_endNames ∈ eW := eT_in 498 (by decide +kernel) rfl
theorem lk_X5_143 : eLV RX5 143 RX5 yX5_endNames (.code yX5_endNames cX5_endNames 4 (some .int)) 0 := ⟨wv_X5_143, wm_yX5_endNames, wl_yX5_endNames, wi_X5, wyX5_endNames, rfl, by decide +kernel, by decide +kernel, by decide +kernel⟩
theorem wv_X5_89 : Cond.methodLink RX5 89 yX2_isAlive ∈ eW := eT_in 502 (by decide +kernel) rfl
theorem lk_X5_89 : eLV RX5 89 RX2 yX2_isAlive (.code yX2_isAlive cX2_isAlive 2 (some .boolean)) 1 := ⟨wv_X5_89, wm_yX2_isAlive, wl_yX2_isAlive, wi_X2, wyX2_isAlive, rfl, by decide +kernel, by decide +kernel, by decide +kernel⟩
theorem wv_X5_156 : Cond.methodLink RX5 156 yX5_oldestFor ∈ eW := eT_in 506 (by decide +kernel) rfl
theorem lk_X5_156 : eLV RX5 156 RX5 yX5_oldestFor (.code yX5_oldestFor cX5_oldestFor 2 (some .int)) 1 := ⟨wv_X5_156, wm_yX5_oldestFor, wl_yX5_oldestFor, wi_X5, wyX5_oldestFor, rfl, by decide +kernel, by decide +kernel, by decide +kernel⟩
theorem wv_X5_159 : Cond.methodLink RX5 159 yX5_outgrow ∈ eW := eT_in 510 (by decide +kernel) rfl
theorem lk_X5_159 : eLV RX5 159 RX5 yX5_outgrow (.code yX5_outgrow cX5_outgrow 4 none) 1 := ⟨wv_X5_159, wm_yX5_outgrow, wl_yX5_outgrow, wi_X5, wyX5_outgrow, rfl, by decide +kernel, by decide +kernel, by decide +kernel⟩
theorem wv_X5_163 : Cond.methodLink RX5 163 yX5_heirOf ∈ eW := eT_in 514 (by decide +kernel) rfl
theorem lk_X5_163 : eLV RX5 163 RX5 yX5_heirOf (.code yX5_heirOf cX5_heirOf 5 (some .int)) 1 := ⟨wv_X5_163, wm_yX5_heirOf, wl_yX5_heirOf, wi_X5, wyX5_heirOf, rfl, by decide +kernel, by decide +kernel, by decide +kernel⟩
theorem wv_X5_170 : Cond.methodLink RX5 170 yX4_isYoungerBeside ∈ eW := eT_in 518 (by decide +kernel) rfl
theorem lk_X5_170 : eLV RX5 170 RX4 yX4_isYoungerBeside (.code yX4_isYoungerBeside cX4_isYoungerBeside 3 (some .boolean)) 2 := ⟨wv_X5_170, wm_yX4_isYoungerBeside, wl_yX4_isYoungerBeside, wi_X4, wyX4_isYoungerBeside, rfl, by decide +kernel, by decide +kernel, by decide +kernel⟩
theorem wv_X5_220 : Cond.methodLink RX5 220 yX5_triesSitting ∈ eW := eT_in 522 (by decide +kernel) rfl
theorem lk_X5_220 : eLV RX5 220 RX5 yX5_triesSitting (.code yX5_triesSitting cX5_triesSitting 3 (some .boolean)) 2 := ⟨wv_X5_220, wm_yX5_triesSitting, wl_yX5_triesSitting, wi_X5, wyX5_triesSitting, rfl, by decide +kernel, by decide +kernel, by decide +kernel⟩
theorem wv_X5_190 : Cond.methodLink RX5 190 yX5_isKeptFrom ∈ eW := eT_in 526 (by decide +kernel) rfl
theorem lk_X5_190 : eLV RX5 190 RX5 yX5_isKeptFrom (.code yX5_isKeptFrom cX5_isKeptFrom 4 (some .boolean)) 2 := ⟨wv_X5_190, wm_yX5_isKeptFrom, wl_yX5_isKeptFrom, wi_X5, wyX5_isKeptFrom, rfl, by decide +kernel, by decide +kernel, by decide +kernel⟩
theorem wv_X5_223 : Cond.methodLink RX5 223 yX5_triesSetting ∈ eW := eT_in 530 (by decide +kernel) rfl
theorem lk_X5_223 : eLV RX5 223 RX5 yX5_triesSetting (.code yX5_triesSetting cX5_triesSetting 3 (some .boolean)) 2 := ⟨wv_X5_223, wm_yX5_triesSetting, wl_yX5_triesSetting, wi_X5, wyX5_triesSetting, rfl, by decide +kernel, by decide +kernel, by decide +kernel⟩
theorem wv_L_149 : Cond.methodLink RL 149 yL_save ∈ eW := eT_in 538 (by decide +kernel) rfl
theorem lk_L_149 : eLS RL 149 yL_save (.codeWith yL_save cL_save 3 (some .long) [(0, 6, 7, 34)]) 2 := ⟨wv_L_149, ws_yL_save, wi_L, wyL_save, by decide +kernel, by decide +kernel, by decide +kernel⟩
theorem wv_L_90 : Cond.methodLink RL 90 yX10_save ∈ eW := eT_in 542 (by decide +kernel) rfl
theorem lk_L_90 : eLV RL 90 RX10 yX10_save (.code yX10_save cX10_save 2 (some .int)) 1 := ⟨wv_L_90, wm_yX10_save, wl_yX10_save, wi_X10, wyX10_save, rfl, by decide +kernel, by decide +kernel, by decide +kernel⟩
theorem wv_X10_335 : Cond.methodLink RX10 335 yX10_requireSlot ∈ eW := eT_in 546 (by decide +kernel) rfl
theorem lk_X10_335 : eLS RX10 335 yX10_requireSlot (.code yX10_requireSlot cX10_requireSlot 1 none) 1 := ⟨wv_X10_335, ws_yX10_requireSlot, wi_X10, wyX10_requireSlot, by decide +kernel, by decide +kernel, by decide +kernel⟩
theorem wv_X10_309 : Cond.methodLink RX10 309 yX5_copyFrom ∈ eW := eT_in 565 (by decide +kernel) rfl
theorem lk_X10_309 : eLV RX10 309 RX5 yX5_copyFrom (.code yX5_copyFrom cX5_copyFrom 2 none) 1 := ⟨wv_X10_309, wm_yX5_copyFrom, wl_yX5_copyFrom, wi_X5, wyX5_copyFrom, rfl, by decide +kernel, by decide +kernel, by decide +kernel⟩
theorem wv_X5_46 : Cond.methodLink RX5 46 yX4_copyFrom ∈ eW := eT_in 569 (by decide +kernel) rfl
theorem lk_X5_46 : eLV RX5 46 RX4 yX4_copyFrom (.code yX4_copyFrom cX4_copyFrom 2 none) 1 := ⟨wv_X5_46, wm_yX4_copyFrom, wl_yX4_copyFrom, wi_X4, wyX4_copyFrom, rfl, by decide +kernel, by decide +kernel, by decide +kernel⟩
theorem wv_X4_31 : Cond.methodLink RX4 31 arraycopyName ∈ eW := eT_in 573 (by decide +kernel) rfl
theorem wv_X5_50 : Cond.methodLink RX5 50 yX2_copyFrom ∈ eW := eT_in 576 (by decide +kernel) rfl
theorem lk_X5_50 : eLV RX5 50 RX2 yX2_copyFrom (.code yX2_copyFrom cX2_copyFrom 2 none) 1 := ⟨wv_X5_50, wm_yX2_copyFrom, wl_yX2_copyFrom, wi_X2, wyX2_copyFrom, rfl, by decide +kernel, by decide +kernel, by decide +kernel⟩
theorem wv_X2_41 : Cond.methodLink RX2 41 arraycopyName ∈ eW := eT_in 580 (by decide +kernel) rfl
theorem wv_X5_53 : Cond.methodLink RX5 53 arraycopyName ∈ eW := eT_in 581 (by decide +kernel) rfl
theorem wv_L_151 : Cond.methodLink RL 151 yL_restore ∈ eW := eT_in 583 (by decide +kernel) rfl
theorem lk_L_151 : eLS RL 151 yL_restore (.codeWith yL_restore cL_restore 3 (some .long) [(0, 6, 7, 34), (0, 6, 12, 19)]) 2 := ⟨wv_L_151, ws_yL_restore, wi_L, wyL_restore, by decide +kernel, by decide +kernel, by decide +kernel⟩
theorem wv_L_93 : Cond.methodLink RL 93 yX10_restore ∈ eW := eT_in 586 (by decide +kernel) rfl
theorem lk_L_93 : eLV RL 93 RX10 yX10_restore (.code yX10_restore cX10_restore 2 (some .int)) 1 := ⟨wv_L_93, wm_yX10_restore, wl_yX10_restore, wi_X10, wyX10_restore, rfl, by decide +kernel, by decide +kernel, by decide +kernel⟩
theorem wv_L_202 : Cond.methodLink RL 202 yL_errors ∈ eW := eT_in 591 (by decide +kernel) rfl
theorem lk_L_202 : eLS RL 202 yL_errors (.code yL_errors cL_errors 6 (some .boolean)) 1 := ⟨wv_L_202, ws_yL_errors, wi_L, wyL_errors, by decide +kernel, by decide +kernel, by decide +kernel⟩
theorem wv_L_110 : Cond.methodLink RL 110 yL_now ∈ eW := eT_in 594 (by decide +kernel) rfl
theorem lk_L_110 : eLS RL 110 yL_now (.code yL_now cL_now 5 (some .long)) 1 := ⟨wv_L_110, ws_yL_now, wi_L, wyL_now, by decide +kernel, by decide +kernel, by decide +kernel⟩
theorem wv_L_100 : Cond.methodLink RL 100 yL_about ∈ eW := eT_in 599 (by decide +kernel) rfl
theorem lk_L_100 : eLS RL 100 yL_about (.codeWith yL_about cL_about 3 (some .long) [(0, 6, 7, 15)]) 2 := ⟨wv_L_100, ws_yL_about, wi_L, wyL_about, by decide +kernel, by decide +kernel, by decide +kernel⟩
theorem wv_L_27 : Cond.methodLink RL 27 yX10_about ∈ eW := eT_in 603 (by decide +kernel) rfl
theorem lk_L_27 : eLV RL 27 RX10 yX10_about (.code yX10_about cX10_about 2 (some .int)) 1 := ⟨wv_L_27, wm_yX10_about, wl_yX10_about, wi_X10, wyX10_about, rfl, by decide +kernel, by decide +kernel, by decide +kernel⟩
theorem wv_X10_107 : Cond.methodLink RX10 107 yX2_inState ∈ eW := eT_in 607 (by decide +kernel) rfl
theorem lk_X10_107 : eLV RX10 107 RX2 yX2_inState (.code yX2_inState cX2_inState 4 (some .int)) 1 := ⟨wv_X10_107, wm_yX2_inState, wl_yX2_inState, wi_X2, wyX2_inState, rfl, by decide +kernel, by decide +kernel, by decide +kernel⟩
theorem wv_X10_114 : Cond.methodLink RX10 114 yX2_usesTogether ∈ eW := eT_in 611 (by decide +kernel) rfl
theorem lk_X10_114 : eLV RX10 114 RX2 yX2_usesTogether (.code yX2_usesTogether cX2_usesTogether 3 (some .int)) 0 := ⟨wv_X10_114, wm_yX2_usesTogether, wl_yX2_usesTogether, wi_X2, wyX2_usesTogether, rfl, by decide +kernel, by decide +kernel, by decide +kernel⟩
theorem wv_L_105 : Cond.methodLink RL 105 yL_personOf ∈ eW := eT_in 632 (by decide +kernel) rfl
theorem lk_L_105 : eLS RL 105 yL_personOf (.codeWith yL_personOf cL_personOf 4 (some .long) [(0, 7, 8, 34), (0, 7, 13, 15)]) 3 := ⟨wv_L_105, ws_yL_personOf, wi_L, wyL_personOf, by decide +kernel, by decide +kernel, by decide +kernel⟩
theorem wv_L_30 : Cond.methodLink RL 30 yX10_personOf ∈ eW := eT_in 635 (by decide +kernel) rfl
theorem lk_L_30 : eLV RL 30 RX10 yX10_personOf (.code yX10_personOf cX10_personOf 3 (some .int)) 2 := ⟨wv_L_30, wm_yX10_personOf, wl_yX10_personOf, wi_X10, wyX10_personOf, rfl, by decide +kernel, by decide +kernel, by decide +kernel⟩
theorem wv_X10_132 : Cond.methodLink RX10 132 yX10_requirePerson ∈ eW := eT_in 639 (by decide +kernel) rfl
theorem lk_X10_132 : eLV RX10 132 RX10 yX10_requirePerson (.code yX10_requirePerson cX10_requirePerson 2 none) 1 := ⟨wv_X10_132, wm_yX10_requirePerson, wl_yX10_requirePerson, wi_X10, wyX10_requirePerson, rfl, by decide +kernel, by decide +kernel, by decide +kernel⟩
theorem wv_X10_347 : Cond.methodLink RX10 347 yX4_has ∈ eW := eT_in 643 (by decide +kernel) rfl
theorem lk_X10_347 : eLV RX10 347 RX4 yX4_has (.code yX4_has cX4_has 2 (some .boolean)) 1 := ⟨wv_X10_347, wm_yX4_has, wl_yX4_has, wi_X4, wyX4_has, rfl, by decide +kernel, by decide +kernel, by decide +kernel⟩
theorem wv_X10_145 : Cond.methodLink RX10 145 yX2_aliveOf ∈ eW := eT_in 645 (by decide +kernel) rfl
theorem lk_X10_145 : eLV RX10 145 RX2 yX2_aliveOf (.code yX2_aliveOf cX2_aliveOf 4 (some .int)) 1 := ⟨wv_X10_145, wm_yX2_aliveOf, wl_yX2_aliveOf, wi_X2, wyX2_aliveOf, rfl, by decide +kernel, by decide +kernel, by decide +kernel⟩
theorem wv_X10_148 : Cond.methodLink RX10 148 yX4_brothersOf ∈ eW := eT_in 646 (by decide +kernel) rfl
theorem lk_X10_148 : eLV RX10 148 RX4 yX4_brothersOf (.code yX4_brothersOf cX4_brothersOf 4 (some .int)) 1 := ⟨wv_X10_148, wm_yX4_brothersOf, wl_yX4_brothersOf, wi_X4, wyX4_brothersOf, rfl, by decide +kernel, by decide +kernel, by decide +kernel⟩
theorem wv_X4_41 : Cond.methodLink RX4 41 yX4_areBrothers ∈ eW := eT_in 650 (by decide +kernel) rfl
theorem lk_X4_41 : eLV RX4 41 RX4 yX4_areBrothers (.code yX4_areBrothers cX4_areBrothers 3 (some .boolean)) 2 := ⟨wv_X4_41, wm_yX4_areBrothers, wl_yX4_areBrothers, wi_X4, wyX4_areBrothers, rfl, by decide +kernel, by decide +kernel, by decide +kernel⟩
theorem wv_X10_151 : Cond.methodLink RX10 151 yX2_givenBy ∈ eW := eT_in 651 (by decide +kernel) rfl
theorem lk_X10_151 : eLV RX10 151 RX2 yX2_givenBy (.code yX2_givenBy cX2_givenBy 4 (some .int)) 1 := ⟨wv_X10_151, wm_yX2_givenBy, wl_yX2_givenBy, wi_X2, wyX2_givenBy, rfl, by decide +kernel, by decide +kernel, by decide +kernel⟩
theorem wv_X10_154 : Cond.methodLink RX10 154 yX2_stuckGivenBy ∈ eW := eT_in 655 (by decide +kernel) rfl
theorem lk_X10_154 : eLV RX10 154 RX2 yX2_stuckGivenBy (.code yX2_stuckGivenBy cX2_stuckGivenBy 4 (some .int)) 1 := ⟨wv_X10_154, wm_yX2_stuckGivenBy, wl_yX2_stuckGivenBy, wi_X2, wyX2_stuckGivenBy, rfl, by decide +kernel, by decide +kernel, by decide +kernel⟩
theorem wv_L_108 : Cond.methodLink RL 108 yL_nameOf ∈ eW := eT_in 660 (by decide +kernel) rfl
theorem lk_L_108 : eLS RL 108 yL_nameOf (.codeWith yL_nameOf cL_nameOf 4 (some .long) [(0, 7, 8, 34), (0, 7, 13, 15)]) 3 := ⟨wv_L_108, ws_yL_nameOf, wi_L, wyL_nameOf, by decide +kernel, by decide +kernel, by decide +kernel⟩
theorem wv_L_38 : Cond.methodLink RL 38 yX10_nameOf ∈ eW := eT_in 663 (by decide +kernel) rfl
theorem lk_L_38 : eLV RL 38 RX10 yX10_nameOf (.code yX10_nameOf cX10_nameOf 3 (some .int)) 2 := ⟨wv_L_38, wm_yX10_nameOf, wl_yX10_nameOf, wi_X10, wyX10_nameOf, rfl, by decide +kernel, by decide +kernel, by decide +kernel⟩
theorem wv_X10_165 : Cond.methodLink RX10 165 yX10_requireName ∈ eW := eT_in 667 (by decide +kernel) rfl
theorem lk_X10_165 : eLV RX10 165 RX10 yX10_requireName (.code yX10_requireName cX10_requireName 2 none) 1 := ⟨wv_X10_165, wm_yX10_requireName, wl_yX10_requireName, wi_X10, wyX10_requireName, rfl, by decide +kernel, by decide +kernel, by decide +kernel⟩
theorem wv_X10_352 : Cond.methodLink RX10 352 yX2_has ∈ eW := eT_in 671 (by decide +kernel) rfl
theorem lk_X10_352 : eLV RX10 352 RX2 yX2_has (.code yX2_has cX2_has 2 (some .boolean)) 1 := ⟨wv_X10_352, wm_yX2_has, wl_yX2_has, wi_X2, wyX2_has, rfl, by decide +kernel, by decide +kernel, by decide +kernel⟩
theorem wv_L_114 : Cond.methodLink RL 114 yL_letter ∈ eW := eT_in 677 (by decide +kernel) rfl
theorem lk_L_114 : eLS RL 114 yL_letter (.codeWith yL_letter cL_letter 4 (some .long) [(0, 7, 8, 34)]) 3 := ⟨wv_L_114, ws_yL_letter, wi_L, wyL_letter, by decide +kernel, by decide +kernel, by decide +kernel⟩
theorem wv_L_41 : Cond.methodLink RL 41 yX10_letter ∈ eW := eT_in 680 (by decide +kernel) rfl
theorem lk_L_41 : eLV RL 41 RX10 yX10_letter (.code yX10_letter cX10_letter 3 (some .int)) 2 := ⟨wv_L_41, wm_yX10_letter, wl_yX10_letter, wi_X10, wyX10_letter, rfl, by decide +kernel, by decide +kernel, by decide +kernel⟩
theorem wv_X10_200 : Cond.methodLink RX10 200 yX0_at ∈ eW := eT_in 685 (by decide +kernel) rfl
theorem lk_X10_200 : eLS RX10 200 yX0_at (.code yX0_at cX0_at 5 (some .int)) 3 := ⟨wv_X10_200, ws_yX0_at, wi_X0, wyX0_at, by decide +kernel, by decide +kernel, by decide +kernel⟩
theorem wv_L_116 : Cond.methodLink RL 116 yL_roll ∈ eW := eT_in 688 (by decide +kernel) rfl
theorem lk_L_116 : eLS RL 116 yL_roll (.codeWith yL_roll cL_roll 3 (some .long) [(0, 6, 7, 15)]) 2 := ⟨wv_L_116, ws_yL_roll, wi_L, wyL_roll, by decide +kernel, by decide +kernel, by decide +kernel⟩
theorem wv_L_44 : Cond.methodLink RL 44 yX10_roll ∈ eW := eT_in 691 (by decide +kernel) rfl
theorem lk_L_44 : eLV RL 44 RX10 yX10_roll (.code yX10_roll cX10_roll 2 (some .int)) 1 := ⟨wv_L_44, wm_yX10_roll, wl_yX10_roll, wi_X10, wyX10_roll, rfl, by decide +kernel, by decide +kernel, by decide +kernel⟩
theorem wv_X10_208 : Cond.methodLink RX10 208 yX2_ranked ∈ eW := eT_in 696 (by decide +kernel) rfl
theorem lk_X10_208 : eLV RX10 208 RX2 yX2_ranked (.code yX2_ranked cX2_ranked 3 (some .int)) 1 := ⟨wv_X10_208, wm_yX2_ranked, wl_yX2_ranked, wi_X2, wyX2_ranked, rfl, by decide +kernel, by decide +kernel, by decide +kernel⟩
theorem wv_X2_65 : Cond.methodLink RX2 65 yX2_isAlive ∈ eW := eT_in 700 (by decide +kernel) rfl
theorem lk_X2_65 : eLV RX2 65 RX2 yX2_isAlive (.code yX2_isAlive cX2_isAlive 2 (some .boolean)) 1 := ⟨wv_X2_65, wm_yX2_isAlive, wl_yX2_isAlive, wi_X2, wyX2_isAlive, rfl, by decide +kernel, by decide +kernel, by decide +kernel⟩
theorem wv_X2_69 : Cond.methodLink RX2 69 yX2_aliveAheadOf ∈ eW := eT_in 701 (by decide +kernel) rfl
theorem lk_X2_69 : eLV RX2 69 RX2 yX2_aliveAheadOf (.code yX2_aliveAheadOf cX2_aliveAheadOf 6 (some .int)) 1 := ⟨wv_X2_69, wm_yX2_aliveAheadOf, wl_yX2_aliveAheadOf, wi_X2, wyX2_aliveAheadOf, rfl, by decide +kernel, by decide +kernel, by decide +kernel⟩
theorem wv_X2_72 : Cond.methodLink RX2 72 yX0_dictionaryKey ∈ eW := eT_in 705 (by decide +kernel) rfl
theorem lk_X2_72 : eLS RX2 72 yX0_dictionaryKey (.code yX0_dictionaryKey cX0_dictionaryKey 4 (some .int)) 2 := ⟨wv_X2_72, ws_yX0_dictionaryKey, wi_X0, wyX0_dictionaryKey, by decide +kernel, by decide +kernel, by decide +kernel⟩
theorem wv_X0_15 : Cond.methodLink RX0 15 yX0_at ∈ eW := eT_in 708 (by decide +kernel) rfl
theorem lk_X0_15 : eLS RX0 15 yX0_at (.code yX0_at cX0_at 5 (some .int)) 3 := ⟨wv_X0_15, ws_yX0_at, wi_X0, wyX0_at, by decide +kernel, by decide +kernel, by decide +kernel⟩
theorem wv_L_118 : Cond.methodLink RL 118 yL_meant ∈ eW := eT_in 709 (by decide +kernel) rfl
theorem lk_L_118 : eLS RL 118 yL_meant (.codeWith yL_meant cL_meant 6 (some .long) [(0, 10, 11, 34), (0, 10, 17, 15)]) 5 := ⟨wv_L_118, ws_yL_meant, wi_L, wyL_meant, by decide +kernel, by decide +kernel, by decide +kernel⟩
theorem wv_L_47 : Cond.methodLink RL 47 yX10_meant ∈ eW := eT_in 712 (by decide +kernel) rfl
theorem lk_L_47 : eLV RL 47 RX10 yX10_meant (.code yX10_meant cX10_meant 5 (some .int)) 4 := ⟨wv_L_47, wm_yX10_meant, wl_yX10_meant, wi_X10, wyX10_meant, rfl, by decide +kernel, by decide +kernel, by decide +kernel⟩
theorem wv_X10_211 : Cond.methodLink RX10 211 yX10_requireBench ∈ eW := eT_in 716 (by decide +kernel) rfl
theorem lk_X10_211 : eLS RX10 211 yX10_requireBench (.code yX10_requireBench cX10_requireBench 1 none) 1 := ⟨wv_X10_211, ws_yX10_requireBench, wi_X10, wyX10_requireBench, by decide +kernel, by decide +kernel, by decide +kernel⟩
theorem wv_X10_355 : Cond.methodLink RX10 355 yX10_isBench ∈ eW := eT_in 719 (by decide +kernel) rfl
theorem lk_X10_355 : eLS RX10 355 yX10_isBench (.code yX10_isBench cX10_isBench 1 (some .boolean)) 1 := ⟨wv_X10_355, ws_yX10_isBench, wi_X10, wyX10_isBench, by decide +kernel, by decide +kernel, by decide +kernel⟩
theorem wv_X10_214 : Cond.methodLink RX10 214 yX10_requireCode ∈ eW := eT_in 721 (by decide +kernel) rfl
theorem lk_X10_214 : eLS RX10 214 yX10_requireCode (.code yX10_requireCode cX10_requireCode 2 none) 2 := ⟨wv_X10_214, ws_yX10_requireCode, wi_X10, wyX10_requireCode, by decide +kernel, by decide +kernel, by decide +kernel⟩
theorem wv_X10_360 : Cond.methodLink RX10 360 yX0_isCode ∈ eW := eT_in 724 (by decide +kernel) rfl
theorem lk_X10_360 : eLS RX10 360 yX0_isCode (.code yX0_isCode cX0_isCode 2 (some .boolean)) 2 := ⟨wv_X10_360, ws_yX0_isCode, wi_X0, wyX0_isCode, by decide +kernel, by decide +kernel, by decide +kernel⟩
theorem wv_X10_218 : Cond.methodLink RX10 218 yX5_meantByPeople ∈ eW := eT_in 726 (by decide +kernel) rfl
theorem lk_X10_218 : eLV RX10 218 RX5 yX5_meantByPeople (.code yX5_meantByPeople cX5_meantByPeople 5 (some .int)) 3 := ⟨wv_X10_218, wm_yX5_meantByPeople, wl_yX5_meantByPeople, wi_X5, wyX5_meantByPeople, rfl, by decide +kernel, by decide +kernel, by decide +kernel⟩
theorem wv_X10_221 : Cond.methodLink RX10 221 yX5_meantByNames ∈ eW := eT_in 727 (by decide +kernel) rfl
theorem lk_X10_221 : eLV RX10 221 RX5 yX5_meantByNames (.code yX5_meantByNames cX5_meantByNames 8 (some .int)) 3 := ⟨wv_X10_221, wm_yX5_meantByNames, wl_yX5_meantByNames, wi_X5, wyX5_meantByNames, rfl, by decide +kernel, by decide +kernel, by decide +kernel⟩
theorem wv_X5_106 : Cond.methodLink RX5 106 yX4_firstBrotherOn ∈ eW := eT_in 731 (by decide +kernel) rfl
theorem lk_X5_106 : eLV RX5 106 RX4 yX4_firstBrotherOn (.code yX4_firstBrotherOn cX4_firstBrotherOn 4 (some .int)) 2 := ⟨wv_X5_106, wm_yX4_firstBrotherOn, wl_yX4_firstBrotherOn, wi_X4, wyX4_firstBrotherOn, rfl, by decide +kernel, by decide +kernel, by decide +kernel⟩
theorem wv_L_121 : Cond.methodLink RL 121 yL_person ∈ eW := eT_in 736 (by decide +kernel) rfl
theorem lk_L_121 : eLS RL 121 yL_person (.codeWith yL_person cL_person 5 (some .long) [(0, 8, 9, 34), (0, 8, 15, 15), (0, 8, 21, 19)]) 4 := ⟨wv_L_121, ws_yL_person, wi_L, wyL_person, by decide +kernel, by decide +kernel, by decide +kernel⟩
theorem wv_L_51 : Cond.methodLink RL 51 yX10_person ∈ eW := eT_in 739 (by decide +kernel) rfl
theorem lk_L_51 : eLV RL 51 RX10 yX10_person (.code yX10_person cX10_person 4 (some .int)) 3 := ⟨wv_L_51, wm_yX10_person, wl_yX10_person, wi_X10, wyX10_person, rfl, by decide +kernel, by decide +kernel, by decide +kernel⟩
theorem wv_X10_226 : Cond.methodLink RX10 226 yX10_isFamily ∈ eW := eT_in 743 (by decide +kernel) rfl
theorem lk_X10_226 : eLS RX10 226 yX10_isFamily (.code yX10_isFamily cX10_isFamily 1 (some .boolean)) 1 := ⟨wv_X10_226, ws_yX10_isFamily, wi_X10, wyX10_isFamily, by decide +kernel, by decide +kernel, by decide +kernel⟩
theorem wv_X10_232 : Cond.methodLink RX10 232 yX10_isAgeToCome ∈ eW := eT_in 745 (by decide +kernel) rfl
theorem lk_X10_232 : eLS RX10 232 yX10_isAgeToCome (.code yX10_isAgeToCome cX10_isAgeToCome 1 (some .boolean)) 1 := ⟨wv_X10_232, ws_yX10_isAgeToCome, wi_X10, wyX10_isAgeToCome, by decide +kernel, by decide +kernel, by decide +kernel⟩
theorem wv_X10_237 : Cond.methodLink RX10 237 yX4_isFull ∈ eW := eT_in 747 (by decide +kernel) rfl
theorem lk_X10_237 : eLV RX10 237 RX4 yX4_isFull (.code yX4_isFull cX4_isFull 1 (some .boolean)) 0 := ⟨wv_X10_237, wm_yX4_isFull, wl_yX4_isFull, wi_X4, wyX4_isFull, rfl, by decide +kernel, by decide +kernel, by decide +kernel⟩
theorem wv_X10_242 : Cond.methodLink RX10 242 yX3_remember ∈ eW := eT_in 749 (by decide +kernel) rfl
theorem lk_X10_242 : eLV RX10 242 RX3 yX3_remember (.code yX3_remember cX3_remember 2 none) 1 := ⟨wv_X10_242, wm_yX3_remember, wl_yX3_remember, wi_X3, wyX3_remember, rfl, by decide +kernel, by decide +kernel, by decide +kernel⟩
theorem wv_X3_25 : Cond.methodLink RX3 25 yX5_copyFrom ∈ eW := eT_in 753 (by decide +kernel) rfl
theorem lk_X3_25 : eLV RX3 25 RX5 yX5_copyFrom (.code yX5_copyFrom cX5_copyFrom 2 none) 1 := ⟨wv_X3_25, wm_yX5_copyFrom, wl_yX5_copyFrom, wi_X5, wyX5_copyFrom, rfl, by decide +kernel, by decide +kernel, by decide +kernel⟩
theorem wv_X10_246 : Cond.methodLink RX10 246 yX4_add ∈ eW := eT_in 754 (by decide +kernel) rfl
theorem lk_X10_246 : eLV RX10 246 RX4 yX4_add (.code yX4_add cX4_add 4 none) 3 := ⟨wv_X10_246, wm_yX4_add, wl_yX4_add, wi_X4, wyX4_add, rfl, by decide +kernel, by decide +kernel, by decide +kernel⟩
theorem wv_L_124 : Cond.methodLink RL 124 yL_sit ∈ eW := eT_in 755 (by decide +kernel) rfl
theorem lk_L_124 : eLS RL 124 yL_sit (.codeWith yL_sit cL_sit 4 (some .long) [(0, 7, 8, 34), (0, 7, 13, 19)]) 3 := ⟨wv_L_124, ws_yL_sit, wi_L, wyL_sit, by decide +kernel, by decide +kernel, by decide +kernel⟩
theorem wv_L_55 : Cond.methodLink RL 55 yX10_sit ∈ eW := eT_in 758 (by decide +kernel) rfl
theorem lk_L_55 : eLV RL 55 RX10 yX10_sit (.code yX10_sit cX10_sit 4 (some .int)) 2 := ⟨wv_L_55, wm_yX10_sit, wl_yX10_sit, wi_X10, wyX10_sit, rfl, by decide +kernel, by decide +kernel, by decide +kernel⟩
theorem wv_X10_250 : Cond.methodLink RX10 250 yX5_isKeptFrom ∈ eW := eT_in 762 (by decide +kernel) rfl
theorem lk_X10_250 : eLV RX10 250 RX5 yX5_isKeptFrom (.code yX5_isKeptFrom cX5_isKeptFrom 4 (some .boolean)) 2 := ⟨wv_X10_250, wm_yX5_isKeptFrom, wl_yX5_isKeptFrom, wi_X5, wyX5_isKeptFrom, rfl, by decide +kernel, by decide +kernel, by decide +kernel⟩
theorem wv_L_126 : Cond.methodLink RL 126 yL_give ∈ eW := eT_in 764 (by decide +kernel) rfl
theorem lk_L_126 : eLS RL 126 yL_give (.codeWith yL_give cL_give 6 (some .long) [(0, 10, 11, 34), (0, 10, 17, 15)]) 5 := ⟨wv_L_126, ws_yL_give, wi_L, wyL_give, by decide +kernel, by decide +kernel, by decide +kernel⟩
theorem wv_L_58 : Cond.methodLink RL 58 yX10_give ∈ eW := eT_in 767 (by decide +kernel) rfl
theorem lk_L_58 : eLV RL 58 RX10 yX10_give (.code yX10_give cX10_give 6 (some .int)) 4 := ⟨wv_L_58, wm_yX10_give, wl_yX10_give, wi_X10, wyX10_give, rfl, by decide +kernel, by decide +kernel, by decide +kernel⟩
theorem wv_X10_256 : Cond.methodLink RX10 256 yX5_reasonAgainst ∈ eW := eT_in 771 (by decide +kernel) rfl
theorem lk_X10_256 : eLV RX10 256 RX5 yX5_reasonAgainst (.code yX5_reasonAgainst cX5_reasonAgainst 6 (some .int)) 4 := ⟨wv_X10_256, wm_yX5_reasonAgainst, wl_yX5_reasonAgainst, wi_X5, wyX5_reasonAgainst, rfl, by decide +kernel, by decide +kernel, by decide +kernel⟩
theorem wv_X10_260 : Cond.methodLink RX10 260 yX2_add ∈ eW := eT_in 772 (by decide +kernel) rfl
theorem lk_X10_260 : eLV RX10 260 RX2 yX2_add (.code yX2_add cX2_add 6 none) 5 := ⟨wv_X10_260, wm_yX2_add, wl_yX2_add, wi_X2, wyX2_add, rfl, by decide +kernel, by decide +kernel, by decide +kernel⟩
theorem wv_L_128 : Cond.methodLink RL 128 yL_call ∈ eW := eT_in 773 (by decide +kernel) rfl
theorem lk_L_128 : eLS RL 128 yL_call (.codeWith yL_call cL_call 5 (some .long) [(0, 8, 9, 34), (0, 8, 15, 15)]) 4 := ⟨wv_L_128, ws_yL_call, wi_L, wyL_call, by decide +kernel, by decide +kernel, by decide +kernel⟩
theorem wv_L_61 : Cond.methodLink RL 61 yX10_call ∈ eW := eT_in 776 (by decide +kernel) rfl
theorem lk_L_61 : eLV RL 61 RX10 yX10_call (.code yX10_call cX10_call 5 (some .int)) 3 := ⟨wv_L_61, wm_yX10_call, wl_yX10_call, wi_X10, wyX10_call, rfl, by decide +kernel, by decide +kernel, by decide +kernel⟩
theorem wv_X10_263 : Cond.methodLink RX10 263 yX5_callFor ∈ eW := eT_in 780 (by decide +kernel) rfl
theorem lk_X10_263 : eLV RX10 263 RX5 yX5_callFor (.code yX5_callFor cX5_callFor 6 (some .int)) 3 := ⟨wv_X10_263, wm_yX5_callFor, wl_yX5_callFor, wi_X5, wyX5_callFor, rfl, by decide +kernel, by decide +kernel, by decide +kernel⟩
theorem wv_L_130 : Cond.methodLink RL 130 yL_years ∈ eW := eT_in 781 (by decide +kernel) rfl
theorem lk_L_130 : eLS RL 130 yL_years (.codeWith yL_years cL_years 3 (some .long) [(0, 6, 7, 15), (0, 6, 12, 19)]) 2 := ⟨wv_L_130, ws_yL_years, wi_L, wyL_years, by decide +kernel, by decide +kernel, by decide +kernel⟩
theorem wv_L_64 : Cond.methodLink RL 64 yX10_years ∈ eW := eT_in 784 (by decide +kernel) rfl
theorem lk_L_64 : eLV RL 64 RX10 yX10_years (.code yX10_years cX10_years 2 (some .int)) 1 := ⟨wv_L_64, wm_yX10_years, wl_yX10_years, wi_X10, wyX10_years, rfl, by decide +kernel, by decide +kernel, by decide +kernel⟩
theorem wv_X10_266 : Cond.methodLink RX10 266 yX10_isYearsAtOnce ∈ eW := eT_in 788 (by decide +kernel) rfl
theorem lk_X10_266 : eLS RX10 266 yX10_isYearsAtOnce (.code yX10_isYearsAtOnce cX10_isYearsAtOnce 1 (some .boolean)) 1 := ⟨wv_X10_266, ws_yX10_isYearsAtOnce, wi_X10, wyX10_isYearsAtOnce, by decide +kernel, by decide +kernel, by decide +kernel⟩
theorem wv_X10_273 : Cond.methodLink RX10 273 yX5_passYears ∈ eW := eT_in 791 (by decide +kernel) rfl
theorem lk_X10_273 : eLV RX10 273 RX5 yX5_passYears (.code yX5_passYears cX5_passYears 4 (some .int)) 1 := ⟨wv_X10_273, wm_yX5_passYears, wl_yX5_passYears, wi_X5, wyX5_passYears, rfl, by decide +kernel, by decide +kernel, by decide +kernel⟩
theorem wv_L_132 : Cond.methodLink RL 132 yL_set ∈ eW := eT_in 792 (by decide +kernel) rfl
theorem lk_L_132 : eLS RL 132 yL_set (.codeWith yL_set cL_set 4 (some .long) [(0, 7, 8, 15)]) 3 := ⟨wv_L_132, ws_yL_set, wi_L, wyL_set, by decide +kernel, by decide +kernel, by decide +kernel⟩
theorem wv_L_67 : Cond.methodLink RL 67 yX10_set ∈ eW := eT_in 795 (by decide +kernel) rfl
theorem lk_L_67 : eLV RL 67 RX10 yX10_set (.code yX10_set cX10_set 4 (some .int)) 2 := ⟨wv_L_67, wm_yX10_set, wl_yX10_set, wi_X10, wyX10_set, rfl, by decide +kernel, by decide +kernel, by decide +kernel⟩
theorem wv_X10_276 : Cond.methodLink RX10 276 yX10_isSettingWith ∈ eW := eT_in 799 (by decide +kernel) rfl
theorem lk_X10_276 : eLS RX10 276 yX10_isSettingWith (.code yX10_isSettingWith cX10_isSettingWith 3 (some .boolean)) 2 := ⟨wv_X10_276, ws_yX10_isSettingWith, wi_X10, wyX10_isSettingWith, by decide +kernel, by decide +kernel, by decide +kernel⟩
theorem wv_L_134 : Cond.methodLink RL 134 yL_why ∈ eW := eT_in 801 (by decide +kernel) rfl
theorem lk_L_134 : eLS RL 134 yL_why (.codeWith yL_why cL_why 6 (some .long) [(0, 10, 11, 34), (0, 10, 17, 15)]) 5 := ⟨wv_L_134, ws_yL_why, wi_L, wyL_why, by decide +kernel, by decide +kernel, by decide +kernel⟩
theorem wv_L_73 : Cond.methodLink RL 73 yX10_why ∈ eW := eT_in 804 (by decide +kernel) rfl
theorem lk_L_73 : eLV RL 73 RX10 yX10_why (.code yX10_why cX10_why 5 (some .int)) 4 := ⟨wv_L_73, wm_yX10_why, wl_yX10_why, wi_X10, wyX10_why, rfl, by decide +kernel, by decide +kernel, by decide +kernel⟩
theorem wv_L_136 : Cond.methodLink RL 136 yL_endsIn ∈ eW := eT_in 808 (by decide +kernel) rfl
theorem lk_L_136 : eLS RL 136 yL_endsIn (.codeWith yL_endsIn cL_endsIn 3 (some .long) [(0, 6, 7, 34)]) 2 := ⟨wv_L_136, ws_yL_endsIn, wi_L, wyL_endsIn, by decide +kernel, by decide +kernel, by decide +kernel⟩
theorem wv_L_76 : Cond.methodLink RL 76 yX10_endsIn ∈ eW := eT_in 811 (by decide +kernel) rfl
theorem lk_L_76 : eLV RL 76 RX10 yX10_endsIn (.code yX10_endsIn cX10_endsIn 2 (some .int)) 1 := ⟨wv_L_76, wm_yX10_endsIn, wl_yX10_endsIn, wi_X10, wyX10_endsIn, rfl, by decide +kernel, by decide +kernel, by decide +kernel⟩
theorem wv_X10_287 : Cond.methodLink RX10 287 yX5_yearsLeft ∈ eW := eT_in 815 (by decide +kernel) rfl
theorem lk_X10_287 : eLV RX10 287 RX5 yX5_yearsLeft (.code yX5_yearsLeft cX5_yearsLeft 4 (some .int)) 1 := ⟨wv_X10_287, wm_yX5_yearsLeft, wl_yX5_yearsLeft, wi_X5, wyX5_yearsLeft, rfl, by decide +kernel, by decide +kernel, by decide +kernel⟩
theorem wv_X5_173 : Cond.methodLink RX5 173 yJ9_min_7cf53 ∈ eW := eT_in 819 (by decide +kernel) rfl
theorem lk_X5_173 : eLS RX5 173 yJ9_min_7cf53 (.code yJ9_min_7cf53 cJ9_min_7cf53 2 (some .int)) 2 := ⟨wv_X5_173, ws_yJ9_min_7cf53, wi_J9, wyJ9_min_7cf53, by decide +kernel, by decide +kernel, by decide +kernel⟩
theorem wv_X5_178 : Cond.methodLink RX5 178 yJ9_max_7cf53 ∈ eW := eT_in 822 (by decide +kernel) rfl
theorem lk_X5_178 : eLS RX5 178 yJ9_max_7cf53 (.code yJ9_max_7cf53 cJ9_max_7cf53 2 (some .int)) 2 := ⟨wv_X5_178, ws_yJ9_max_7cf53, wi_J9, wyJ9_max_7cf53, by decide +kernel, by decide +kernel, by decide +kernel⟩
theorem wv_L_138 : Cond.methodLink RL 138 yL_bestName ∈ eW := eT_in 825 (by decide +kernel) rfl
theorem lk_L_138 : eLS RL 138 yL_bestName (.codeWith yL_bestName cL_bestName 5 (some .long) [(0, 8, 9, 34), (0, 8, 15, 15)]) 4 := ⟨wv_L_138, ws_yL_bestName, wi_L, wyL_bestName, by decide +kernel, by decide +kernel, by decide +kernel⟩
theorem wv_L_79 : Cond.methodLink RL 79 yX10_bestName ∈ eW := eT_in 828 (by decide +kernel) rfl
theorem lk_L_79 : eLV RL 79 RX10 yX10_bestName (.code yX10_bestName cX10_bestName 4 (some .int)) 3 := ⟨wv_L_79, wm_yX10_bestName, wl_yX10_bestName, wi_X10, wyX10_bestName, rfl, by decide +kernel, by decide +kernel, by decide +kernel⟩
theorem wv_X10_292 : Cond.methodLink RX10 292 yX1_bestCode ∈ eW := eT_in 833 (by decide +kernel) rfl
theorem lk_X10_292 : eLV RX10 292 RX1 yX1_bestCode (.code yX1_bestCode cX1_bestCode 10 (some .int)) 4 := ⟨wv_X10_292, wm_yX1_bestCode, wl_yX1_bestCode, wi_X1, wyX1_bestCode, rfl, by decide +kernel, by decide +kernel, by decide +kernel⟩
theorem wv_X1_15 : Cond.methodLink RX1 15 yX5_reasonAgainstAnyName ∈ eW := eT_in 837 (by decide +kernel) rfl
theorem lk_X1_15 : eLV RX1 15 RX5 yX5_reasonAgainstAnyName (.code yX5_reasonAgainstAnyName cX5_reasonAgainstAnyName 3 (some .int)) 2 := ⟨wv_X1_15, wm_yX5_reasonAgainstAnyName, wl_yX5_reasonAgainstAnyName, wi_X5, wyX5_reasonAgainstAnyName, rfl, by decide +kernel, by decide +kernel, by decide +kernel⟩
theorem wv_X1_25 : Cond.methodLink RX1 25 yX2_isFull ∈ eW := eT_in 838 (by decide +kernel) rfl
theorem lk_X1_25 : eLV RX1 25 RX2 yX2_isFull (.code yX2_isFull cX2_isFull 1 (some .boolean)) 0 := ⟨wv_X1_25, wm_yX2_isFull, wl_yX2_isFull, wi_X2, wyX2_isFull, rfl, by decide +kernel, by decide +kernel, by decide +kernel⟩
theorem wv_X1_40 : Cond.methodLink RX1 40 yX1_countNames ∈ eW := eT_in 839 (by decide +kernel) rfl
theorem lk_X1_40 : eLV RX1 40 RX1 yX1_countNames (.code yX1_countNames cX1_countNames 3 none) 1 := ⟨wv_X1_40, wm_yX1_countNames, wl_yX1_countNames, wi_X1, wyX1_countNames, rfl, by decide +kernel, by decide +kernel, by decide +kernel⟩
theorem wv_X1_61 : Cond.methodLink RX1 61 yX2_isAlive ∈ eW := eT_in 843 (by decide +kernel) rfl
theorem lk_X1_61 : eLV RX1 61 RX2 yX2_isAlive (.code yX2_isAlive cX2_isAlive 2 (some .boolean)) 1 := ⟨wv_X1_61, wm_yX2_isAlive, wl_yX2_isAlive, wi_X2, wyX2_isAlive, rfl, by decide +kernel, by decide +kernel, by decide +kernel⟩
theorem wv_X1_71 : Cond.methodLink RX1 71 yX1_countLetters ∈ eW := eT_in 844 (by decide +kernel) rfl
theorem lk_X1_71 : eLV RX1 71 RX1 yX1_countLetters (.code yX1_countLetters cX1_countLetters 4 none) 2 := ⟨wv_X1_71, wm_yX1_countLetters, wl_yX1_countLetters, wi_X1, wyX1_countLetters, rfl, by decide +kernel, by decide +kernel, by decide +kernel⟩
theorem wv_X1_75 : Cond.methodLink RX1 75 yX0_isRepeated ∈ eW := eT_in 848 (by decide +kernel) rfl
theorem lk_X1_75 : eLS RX1 75 yX0_isRepeated (.code yX0_isRepeated cX0_isRepeated 4 (some .boolean)) 3 := ⟨wv_X1_75, ws_yX0_isRepeated, wi_X0, wyX0_isRepeated, by decide +kernel, by decide +kernel, by decide +kernel⟩
theorem wv_X1_79 : Cond.methodLink RX1 79 yX0_at ∈ eW := eT_in 851 (by decide +kernel) rfl
theorem lk_X1_79 : eLS RX1 79 yX0_at (.code yX0_at cX0_at 5 (some .int)) 3 := ⟨wv_X1_79, ws_yX0_at, wi_X0, wyX0_at, by decide +kernel, by decide +kernel, by decide +kernel⟩
theorem wv_X1_44 : Cond.methodLink RX1 44 yX0_codes ∈ eW := eT_in 852 (by decide +kernel) rfl
theorem lk_X1_44 : eLS RX1 44 yX0_codes (.code yX0_codes cX0_codes 3 (some .int)) 1 := ⟨wv_X1_44, ws_yX0_codes, wi_X0, wyX0_codes, by decide +kernel, by decide +kernel, by decide +kernel⟩
theorem wv_X1_50 : Cond.methodLink RX1 50 yX1_namesWithLettersOf ∈ eW := eT_in 853 (by decide +kernel) rfl
theorem lk_X1_50 : eLV RX1 50 RX1 yX1_namesWithLettersOf (.code yX1_namesWithLettersOf cX1_namesWithLettersOf 5 (some .int)) 2 := ⟨wv_X1_50, wm_yX1_namesWithLettersOf, wl_yX1_namesWithLettersOf, wi_X1, wyX1_namesWithLettersOf, rfl, by decide +kernel, by decide +kernel, by decide +kernel⟩
theorem wv_X1_53 : Cond.methodLink RX1 53 yX5_isTaken ∈ eW := eT_in 857 (by decide +kernel) rfl
theorem lk_X1_53 : eLV RX1 53 RX5 yX5_isTaken (.code yX5_isTaken cX5_isTaken 7 (some .boolean)) 4 := ⟨wv_X1_53, wm_yX5_isTaken, wl_yX5_isTaken, wi_X5, wyX5_isTaken, rfl, by decide +kernel, by decide +kernel, by decide +kernel⟩
theorem wv_L_140 : Cond.methodLink RL 140 yL_script ∈ eW := eT_in 858 (by decide +kernel) rfl
theorem lk_L_140 : eLS RL 140 yL_script (.codeWith yL_script cL_script 5 (some .long) [(0, 7, 8, 15)]) 3 := ⟨wv_L_140, ws_yL_script, wi_L, wyL_script, by decide +kernel, by decide +kernel, by decide +kernel⟩
theorem wv_L_82 : Cond.methodLink RL 82 yX10_runScript ∈ eW := eT_in 861 (by decide +kernel) rfl
theorem lk_L_82 : eLV RL 82 RX10 yX10_runScript (.code yX10_runScript cX10_runScript 5 (some .int)) 2 := ⟨wv_L_82, wm_yX10_runScript, wl_yX10_runScript, wi_X10, wyX10_runScript, rfl, by decide +kernel, by decide +kernel, by decide +kernel⟩
theorem wv_X10_301 : Cond.methodLink RX10 301 yX6_beyond ∈ eW := eT_in 866 (by decide +kernel) rfl
theorem lk_X10_301 : eLS RX10 301 yX6_beyond (.code yX6_beyond cX6_beyond 4 (some .long)) 1 := ⟨wv_X10_301, ws_yX6_beyond, wi_X6, wyX6_beyond, by decide +kernel, by decide +kernel, by decide +kernel⟩
theorem wv_X10_312 : Cond.methodLink RX10 312 yX6_group ∈ eW := eT_in 871 (by decide +kernel) rfl
theorem lk_X10_312 : eLS RX10 312 yX6_group (.code yX6_group cX6_group 7 (some .int)) 3 := ⟨wv_X10_312, ws_yX6_group, wi_X6, wyX6_group, by decide +kernel, by decide +kernel, by decide +kernel⟩
theorem wv_X10_316 : Cond.methodLink RX10 316 yX6_succeeds ∈ eW := eT_in 874 (by decide +kernel) rfl
theorem lk_X10_316 : eLS RX10 316 yX6_succeeds (.code yX6_succeeds cX6_succeeds 7 (some .boolean)) 2 := ⟨wv_X10_316, ws_yX6_succeeds, wi_X6, wyX6_succeeds, by decide +kernel, by decide +kernel, by decide +kernel⟩
theorem wv_X6_14 : Cond.methodLink RX6 14 yX5_triesGiving ∈ eW := eT_in 878 (by decide +kernel) rfl
theorem lk_X6_14 : eLV RX6 14 RX5 yX5_triesGiving (.code yX5_triesGiving cX5_triesGiving 5 (some .boolean)) 4 := ⟨wv_X6_14, wm_yX5_triesGiving, wl_yX5_triesGiving, wi_X5, wyX5_triesGiving, rfl, by decide +kernel, by decide +kernel, by decide +kernel⟩
theorem wv_X6_20 : Cond.methodLink RX6 20 yX5_callFor ∈ eW := eT_in 879 (by decide +kernel) rfl
theorem lk_X6_20 : eLV RX6 20 RX5 yX5_callFor (.code yX5_callFor cX5_callFor 6 (some .int)) 3 := ⟨wv_X6_20, wm_yX5_callFor, wl_yX5_callFor, wi_X5, wyX5_callFor, rfl, by decide +kernel, by decide +kernel, by decide +kernel⟩
theorem wv_X6_24 : Cond.methodLink RX6 24 yX5_passYears ∈ eW := eT_in 880 (by decide +kernel) rfl
theorem lk_X6_24 : eLV RX6 24 RX5 yX5_passYears (.code yX5_passYears cX5_passYears 4 (some .int)) 1 := ⟨wv_X6_24, wm_yX5_passYears, wl_yX5_passYears, wi_X5, wyX5_passYears, rfl, by decide +kernel, by decide +kernel, by decide +kernel⟩
theorem wv_X6_28 : Cond.methodLink RX6 28 yX5_triesSitting ∈ eW := eT_in 881 (by decide +kernel) rfl
theorem lk_X6_28 : eLV RX6 28 RX5 yX5_triesSitting (.code yX5_triesSitting cX5_triesSitting 3 (some .boolean)) 2 := ⟨wv_X6_28, wm_yX5_triesSitting, wl_yX5_triesSitting, wi_X5, wyX5_triesSitting, rfl, by decide +kernel, by decide +kernel, by decide +kernel⟩
theorem wv_X6_32 : Cond.methodLink RX6 32 yX5_triesSetting ∈ eW := eT_in 882 (by decide +kernel) rfl
theorem lk_X6_32 : eLV RX6 32 RX5 yX5_triesSetting (.code yX5_triesSetting cX5_triesSetting 3 (some .boolean)) 2 := ⟨wv_X6_32, wm_yX5_triesSetting, wl_yX5_triesSetting, wi_X5, wyX5_triesSetting, rfl, by decide +kernel, by decide +kernel, by decide +kernel⟩
theorem wv_X6_35 : Cond.methodLink RX6 35 yX6_hasNames ∈ eW := eT_in 883 (by decide +kernel) rfl
theorem lk_X6_35 : eLS RX6 35 yX6_hasNames (.code yX6_hasNames cX6_hasNames 3 (some .boolean)) 3 := ⟨wv_X6_35, ws_yX6_hasNames, wi_X6, wyX6_hasNames, by decide +kernel, by decide +kernel, by decide +kernel⟩
theorem wv_X6_59 : Cond.methodLink RX6 59 yX4_has ∈ eW := eT_in 886 (by decide +kernel) rfl
theorem lk_X6_59 : eLV RX6 59 RX4 yX4_has (.code yX4_has cX4_has 2 (some .boolean)) 1 := ⟨wv_X6_59, wm_yX4_has, wl_yX4_has, wi_X4, wyX4_has, rfl, by decide +kernel, by decide +kernel, by decide +kernel⟩
theorem wv_X6_65 : Cond.methodLink RX6 65 yX2_aliveOf ∈ eW := eT_in 887 (by decide +kernel) rfl
theorem lk_X6_65 : eLV RX6 65 RX2 yX2_aliveOf (.code yX2_aliveOf cX2_aliveOf 4 (some .int)) 1 := ⟨wv_X6_65, wm_yX2_aliveOf, wl_yX2_aliveOf, wi_X2, wyX2_aliveOf, rfl, by decide +kernel, by decide +kernel, by decide +kernel⟩
theorem wv_X6_39 : Cond.methodLink RX6 39 yX6_means ∈ eW := eT_in 888 (by decide +kernel) rfl
theorem lk_X6_39 : eLS RX6 39 yX6_means (.code yX6_means cX6_means 4 (some .boolean)) 4 := ⟨wv_X6_39, ws_yX6_means, wi_X6, wyX6_means, by decide +kernel, by decide +kernel, by decide +kernel⟩
theorem wv_X6_71 : Cond.methodLink RX6 71 yX0_isCode ∈ eW := eT_in 892 (by decide +kernel) rfl
theorem lk_X6_71 : eLS RX6 71 yX0_isCode (.code yX0_isCode cX0_isCode 2 (some .boolean)) 2 := ⟨wv_X6_71, ws_yX0_isCode, wi_X0, wyX0_isCode, by decide +kernel, by decide +kernel, by decide +kernel⟩
theorem wv_X6_76 : Cond.methodLink RX6 76 yX5_meantByPeople ∈ eW := eT_in 893 (by decide +kernel) rfl
theorem lk_X6_76 : eLV RX6 76 RX5 yX5_meantByPeople (.code yX5_meantByPeople cX5_meantByPeople 5 (some .int)) 3 := ⟨wv_X6_76, wm_yX5_meantByPeople, wl_yX5_meantByPeople, wi_X5, wyX5_meantByPeople, rfl, by decide +kernel, by decide +kernel, by decide +kernel⟩
theorem wv_X6_47 : Cond.methodLink RX6 47 yX2_inState ∈ eW := eT_in 894 (by decide +kernel) rfl
theorem lk_X6_47 : eLV RX6 47 RX2 yX2_inState (.code yX2_inState cX2_inState 4 (some .int)) 1 := ⟨wv_X6_47, wm_yX2_inState, wl_yX2_inState, wi_X2, wyX2_inState, rfl, by decide +kernel, by decide +kernel, by decide +kernel⟩
theorem wv_X6_52 : Cond.methodLink RX6 52 yX6_isInState ∈ eW := eT_in 895 (by decide +kernel) rfl
theorem lk_X6_52 : eLS RX6 52 yX6_isInState (.code yX6_isInState cX6_isInState 3 (some .boolean)) 3 := ⟨wv_X6_52, ws_yX6_isInState, wi_X6, wyX6_isInState, by decide +kernel, by decide +kernel, by decide +kernel⟩
theorem wv_X6_79 : Cond.methodLink RX6 79 yX2_has ∈ eW := eT_in 898 (by decide +kernel) rfl
theorem lk_X6_79 : eLV RX6 79 RX2 yX2_has (.code yX2_has cX2_has 2 (some .boolean)) 1 := ⟨wv_X6_79, wm_yX2_has, wl_yX2_has, wi_X2, wyX2_has, rfl, by decide +kernel, by decide +kernel, by decide +kernel⟩
theorem wv_L_146 : Cond.methodLink RL 146 yL_simulate ∈ eW := eT_in 900 (by decide +kernel) rfl
theorem lk_L_146 : eLS RL 146 yL_simulate (.codeWith yL_simulate cL_simulate 5 (some .long) [(0, 7, 8, 15)]) 3 := ⟨wv_L_146, ws_yL_simulate, wi_L, wyL_simulate, by decide +kernel, by decide +kernel, by decide +kernel⟩
theorem wv_L_86 : Cond.methodLink RL 86 yX10_simulate ∈ eW := eT_in 903 (by decide +kernel) rfl
theorem lk_L_86 : eLV RL 86 RX10 yX10_simulate (.code yX10_simulate cX10_simulate 7 (some .int)) 2 := ⟨wv_L_86, wm_yX10_simulate, wl_yX10_simulate, wi_X10, wyX10_simulate, rfl, by decide +kernel, by decide +kernel, by decide +kernel⟩
theorem wv_X10_326 : Cond.methodLink RX10 326 yX7_takeTurn ∈ eW := eT_in 910 (by decide +kernel) rfl
theorem lk_X10_326 : eLS RX10 326 yX7_takeTurn (.code yX7_takeTurn cX7_takeTurn 3 none) 2 := ⟨wv_X10_326, ws_yX7_takeTurn, wi_X7, wyX7_takeTurn, by decide +kernel, by decide +kernel, by decide +kernel⟩
theorem wv_X7_7 : Cond.methodLink RX7 7 yX5_triesPerson ∈ eW := eT_in 913 (by decide +kernel) rfl
theorem lk_X7_7 : eLV RX7 7 RX5 yX5_triesPerson (.code yX5_triesPerson cX5_triesPerson 4 (some .boolean)) 3 := ⟨wv_X7_7, wm_yX5_triesPerson, wl_yX5_triesPerson, wi_X5, wyX5_triesPerson, rfl, by decide +kernel, by decide +kernel, by decide +kernel⟩
theorem wv_X7_13 : Cond.methodLink RX7 13 yX5_triesGiving ∈ eW := eT_in 914 (by decide +kernel) rfl
theorem lk_X7_13 : eLV RX7 13 RX5 yX5_triesGiving (.code yX5_triesGiving cX5_triesGiving 5 (some .boolean)) 4 := ⟨wv_X7_13, wm_yX5_triesGiving, wl_yX5_triesGiving, wi_X5, wyX5_triesGiving, rfl, by decide +kernel, by decide +kernel, by decide +kernel⟩
theorem wv_X7_17 : Cond.methodLink RX7 17 yX5_callFor ∈ eW := eT_in 915 (by decide +kernel) rfl
theorem lk_X7_17 : eLV RX7 17 RX5 yX5_callFor (.code yX5_callFor cX5_callFor 6 (some .int)) 3 := ⟨wv_X7_17, wm_yX5_callFor, wl_yX5_callFor, wi_X5, wyX5_callFor, rfl, by decide +kernel, by decide +kernel, by decide +kernel⟩
theorem wv_X7_21 : Cond.methodLink RX7 21 yX5_triesSitting ∈ eW := eT_in 916 (by decide +kernel) rfl
theorem lk_X7_21 : eLV RX7 21 RX5 yX5_triesSitting (.code yX5_triesSitting cX5_triesSitting 3 (some .boolean)) 2 := ⟨wv_X7_21, wm_yX5_triesSitting, wl_yX5_triesSitting, wi_X5, wyX5_triesSitting, rfl, by decide +kernel, by decide +kernel, by decide +kernel⟩
theorem wv_X7_25 : Cond.methodLink RX7 25 yX5_triesSetting ∈ eW := eT_in 917 (by decide +kernel) rfl
theorem lk_X7_25 : eLV RX7 25 RX5 yX5_triesSetting (.code yX5_triesSetting cX5_triesSetting 3 (some .boolean)) 2 := ⟨wv_X7_25, wm_yX5_triesSetting, wl_yX5_triesSetting, wi_X5, wyX5_triesSetting, rfl, by decide +kernel, by decide +kernel, by decide +kernel⟩
theorem wv_X7_28 : Cond.methodLink RX7 28 yX5_passYears ∈ eW := eT_in 918 (by decide +kernel) rfl
theorem lk_X7_28 : eLV RX7 28 RX5 yX5_passYears (.code yX5_passYears cX5_passYears 4 (some .int)) 1 := ⟨wv_X7_28, wm_yX5_passYears, wl_yX5_passYears, wi_X5, wyX5_passYears, rfl, by decide +kernel, by decide +kernel, by decide +kernel⟩
theorem wv_X10_332 : Cond.methodLink RX10 332 yX2_alive ∈ eW := eT_in 919 (by decide +kernel) rfl
theorem lk_X10_332 : eLV RX10 332 RX2 yX2_alive (.code yX2_alive cX2_alive 1 (some .int)) 0 := ⟨wv_X10_332, wm_yX2_alive, wl_yX2_alive, wi_X2, wyX2_alive, rfl, by decide +kernel, by decide +kernel, by decide +kernel⟩
theorem wv_X2_55 : Cond.methodLink RX2 55 yX2_inState ∈ eW := eT_in 923 (by decide +kernel) rfl
theorem lk_X2_55 : eLV RX2 55 RX2 yX2_inState (.code yX2_inState cX2_inState 4 (some .int)) 1 := ⟨wv_X2_55, wm_yX2_inState, wl_yX2_inState, wi_X2, wyX2_inState, rfl, by decide +kernel, by decide +kernel, by decide +kernel⟩
theorem wv_L_153 : Cond.methodLink RL 153 yL_append ∈ eW := eT_in 924 (by decide +kernel) rfl
theorem lk_L_153 : eLS RL 153 yL_append (.codeWith yL_append cL_append 3 (some .long) [(0, 6, 7, 15), (0, 6, 12, 19)]) 2 := ⟨wv_L_153, ws_yL_append, wi_L, wyL_append, by decide +kernel, by decide +kernel, by decide +kernel⟩
theorem wv_L_9 : Cond.methodLink RL 9 yX10_append ∈ eW := eT_in 927 (by decide +kernel) rfl
theorem lk_L_9 : eLV RL 9 RX10 yX10_append (.code yX10_append cX10_append 2 (some .int)) 1 := ⟨wv_L_9, wm_yX10_append, wl_yX10_append, wi_X10, wyX10_append, rfl, by decide +kernel, by decide +kernel, by decide +kernel⟩
theorem wv_X10_63 : Cond.methodLink RX10 63 yX9_put ∈ eW := eT_in 933 (by decide +kernel) rfl
theorem lk_X10_63 : eLV RX10 63 RX9 yX9_put (.code yX9_put cX9_put 2 none) 1 := ⟨wv_X10_63, wm_yX9_put, wl_yX9_put, wi_X9, wyX9_put, rfl, by decide +kernel, by decide +kernel, by decide +kernel⟩
theorem wv_L_206 : Cond.methodLink RL 206 yL_kept ∈ eW := eT_in 937 (by decide +kernel) rfl
theorem lk_L_206 : eLS RL 206 yL_kept (.code yL_kept cL_kept 24 (some .boolean)) 1 := ⟨wv_L_206, ws_yL_kept, wi_L, wyL_kept, by decide +kernel, by decide +kernel, by decide +kernel⟩
theorem wv_L_163 : Cond.methodLink RL 163 yL_in ∈ eW := eT_in 944 (by decide +kernel) rfl
theorem lk_L_163 : eLS RL 163 yL_in (.code yL_in cL_in 6 (some .boolean)) 3 := ⟨wv_L_163, ws_yL_in, wi_L, wyL_in, by decide +kernel, by decide +kernel, by decide +kernel⟩
theorem wv_L_169 : Cond.methodLink RL 169 yX10_bestGiver ∈ eW := eT_in 948 (by decide +kernel) rfl
theorem lk_L_169 : eLV RL 169 RX10 yX10_bestGiver (.code yX10_bestGiver cX10_bestGiver 3 (some .int)) 0 := ⟨wv_L_169, wm_yX10_bestGiver, wl_yX10_bestGiver, wi_X10, wyX10_bestGiver, rfl, by decide +kernel, by decide +kernel, by decide +kernel⟩
theorem wv_X10_296 : Cond.methodLink RX10 296 yX2_sticksBetter ∈ eW := eT_in 952 (by decide +kernel) rfl
theorem lk_X10_296 : eLV RX10 296 RX2 yX2_sticksBetter (.code yX2_sticksBetter cX2_sticksBetter 5 (some .boolean)) 2 := ⟨wv_X10_296, wm_yX2_sticksBetter, wl_yX2_sticksBetter, wi_X2, wyX2_sticksBetter, rfl, by decide +kernel, by decide +kernel, by decide +kernel⟩
theorem wv_X2_59 : Cond.methodLink RX2 59 yX2_stuckGivenBy ∈ eW := eT_in 956 (by decide +kernel) rfl
theorem lk_X2_59 : eLV RX2 59 RX2 yX2_stuckGivenBy (.code yX2_stuckGivenBy cX2_stuckGivenBy 4 (some .int)) 1 := ⟨wv_X2_59, wm_yX2_stuckGivenBy, wl_yX2_stuckGivenBy, wi_X2, wyX2_stuckGivenBy, rfl, by decide +kernel, by decide +kernel, by decide +kernel⟩
theorem wv_X2_62 : Cond.methodLink RX2 62 yX2_givenBy ∈ eW := eT_in 957 (by decide +kernel) rfl
theorem lk_X2_62 : eLV RX2 62 RX2 yX2_givenBy (.code yX2_givenBy cX2_givenBy 4 (some .int)) 1 := ⟨wv_X2_62, wm_yX2_givenBy, wl_yX2_givenBy, wi_X2, wyX2_givenBy, rfl, by decide +kernel, by decide +kernel, by decide +kernel⟩
theorem wv_L_172 : Cond.methodLink RL 172 yX10_mixed ∈ eW := eT_in 958 (by decide +kernel) rfl
theorem lk_L_172 : eLV RL 172 RX10 yX10_mixed (.code yX10_mixed cX10_mixed 3 (some .int)) 0 := ⟨wv_L_172, wm_yX10_mixed, wl_yX10_mixed, wi_X10, wyX10_mixed, rfl, by decide +kernel, by decide +kernel, by decide +kernel⟩
theorem wv_L_218 : Cond.methodLink RL 218 yL_follows ∈ eW := eT_in 962 (by decide +kernel) rfl
theorem lk_L_218 : eLS RL 218 yL_follows (.code yL_follows cL_follows 17 (some .boolean)) 2 := ⟨wv_L_218, ws_yL_follows, wi_L, wyL_follows, by decide +kernel, by decide +kernel, by decide +kernel⟩
theorem wv_L_177 : Cond.methodLink RL 177 yL_undo ∈ eW := eT_in 966 (by decide +kernel) rfl
theorem lk_L_177 : eLS RL 177 yL_undo (.codeWith yL_undo cL_undo 2 (some .long) [(0, 5, 6, 19)]) 1 := ⟨wv_L_177, ws_yL_undo, wi_L, wyL_undo, by decide +kernel, by decide +kernel, by decide +kernel⟩
theorem wv_L_70 : Cond.methodLink RL 70 yX10_undo ∈ eW := eT_in 969 (by decide +kernel) rfl
theorem lk_L_70 : eLV RL 70 RX10 yX10_undo (.code yX10_undo cX10_undo 1 (some .int)) 0 := ⟨wv_L_70, wm_yX10_undo, wl_yX10_undo, wi_X10, wyX10_undo, rfl, by decide +kernel, by decide +kernel, by decide +kernel⟩
theorem wv_X10_284 : Cond.methodLink RX10 284 yX3_takeBack ∈ eW := eT_in 974 (by decide +kernel) rfl
theorem lk_X10_284 : eLV RX10 284 RX3 yX3_takeBack (.code yX3_takeBack cX3_takeBack 2 none) 1 := ⟨wv_X10_284, wm_yX3_takeBack, wl_yX3_takeBack, wi_X3, wyX3_takeBack, rfl, by decide +kernel, by decide +kernel, by decide +kernel⟩
theorem wv_L_198 : Cond.methodLink RL 198 yL_alike ∈ eW := eT_in 978 (by decide +kernel) rfl
theorem lk_L_198 : eLS RL 198 yL_alike (.code yL_alike cL_alike 3 (some .boolean)) 3 := ⟨wv_L_198, ws_yL_alike, wi_L, wyL_alike, by decide +kernel, by decide +kernel, by decide +kernel⟩
theorem wv_L_179 : Cond.methodLink RL 179 yX10_errorPosition ∈ eW := eT_in 981 (by decide +kernel) rfl
theorem lk_L_179 : eLV RL 179 RX10 yX10_errorPosition (.code yX10_errorPosition cX10_errorPosition 1 (some .int)) 0 := ⟨wv_L_179, wm_yX10_errorPosition, wl_yX10_errorPosition, wi_X10, wyX10_errorPosition, rfl, by decide +kernel, by decide +kernel, by decide +kernel⟩
theorem wv_L_209 : Cond.methodLink RL 209 yL_told ∈ eW := eT_in 987 (by decide +kernel) rfl
theorem lk_L_209 : eLS RL 209 yL_told (.code yL_told cL_told 5 (some .boolean)) 2 := ⟨wv_L_209, ws_yL_told, wi_L, wyL_told, by decide +kernel, by decide +kernel, by decide +kernel⟩
theorem wv_L_186 : Cond.methodLink RL 186 yX10_clearText ∈ eW := eT_in 990 (by decide +kernel) rfl
theorem lk_L_186 : eLV RL 186 RX10 yX10_clearText (.code yX10_clearText cX10_clearText 2 (some .int)) 0 := ⟨wv_L_186, wm_yX10_clearText, wl_yX10_clearText, wi_X10, wyX10_clearText, rfl, by decide +kernel, by decide +kernel, by decide +kernel⟩
theorem wv_L_189 : Cond.methodLink RL 189 yL_says ∈ eW := eT_in 994 (by decide +kernel) rfl
theorem lk_L_189 : eLS RL 189 yL_says (.code yL_says cL_says 5 (some .boolean)) 5 := ⟨wv_L_189, ws_yL_says, wi_L, wyL_says, by decide +kernel, by decide +kernel, by decide +kernel⟩
theorem wv_L_215 : Cond.methodLink RL 215 yL_act ∈ eW := eT_in 997 (by decide +kernel) rfl
theorem lk_L_215 : eLS RL 215 yL_act (.code yL_act cL_act 4 (some .long)) 3 := ⟨wv_L_215, ws_yL_act, wi_L, wyL_act, by decide +kernel, by decide +kernel, by decide +kernel⟩
theorem wv_X10_11 : Cond.methodLinkNest RX10 11 yX9_init "NameBenches" ∈ eX := eX_in 30 (by decide +kernel) rfl
theorem lk_X10_11 : eLN RX10 11 yX9_init (.code yX9_init cX9_init 1 none) 0 "NameBenches" := ⟨wv_X10_11, wi_X9, wyX9_init, by decide +kernel, by decide +kernel, by decide +kernel⟩
theorem wv_X5_11 : Cond.methodLinkNest RX5 11 yX4_init "NameBenches" ∈ eX := eX_in 66 (by decide +kernel) rfl
theorem lk_X5_11 : eLN RX5 11 yX4_init (.code yX4_init cX4_init 1 none) 0 "NameBenches" := ⟨wv_X5_11, wi_X4, wyX4_init, by decide +kernel, by decide +kernel, by decide +kernel⟩
theorem wv_X5_20 : Cond.methodLinkNest RX5 20 yX2_init "NameBenches" ∈ eX := eX_in 103 (by decide +kernel) rfl
theorem lk_X5_20 : eLN RX5 20 yX2_init (.code yX2_init cX2_init 1 none) 0 "NameBenches" := ⟨wv_X5_20, wi_X2, wyX2_init, by decide +kernel, by decide +kernel, by decide +kernel⟩
theorem wv_X10_42 : Cond.methodLinkNest RX10 42 yX1_init "NameBenches" ∈ eX := eX_in 227 (by decide +kernel) rfl
theorem lk_X10_42 : eLN RX10 42 yX1_init (.code yX1_init cX1_init 1 none) 0 "NameBenches" := ⟨wv_X10_42, wi_X1, wyX1_init, by decide +kernel, by decide +kernel, by decide +kernel⟩
theorem wv_X5_181 : Cond.methodLinkNest RX5 181 yX10_isFamily "NameBenches" ∈ eX := eX_in 397 (by decide +kernel) rfl
theorem lk_X5_181 : eLN RX5 181 yX10_isFamily (.code yX10_isFamily cX10_isFamily 1 (some .boolean)) 1 "NameBenches" := ⟨wv_X5_181, wi_X10, wyX10_isFamily, by decide +kernel, by decide +kernel, by decide +kernel⟩
theorem wv_X5_109 : Cond.methodLinkNest RX5 109 yX10_isBench "NameBenches" ∈ eX := eX_in 400 (by decide +kernel) rfl
theorem lk_X5_109 : eLN RX5 109 yX10_isBench (.code yX10_isBench cX10_isBench 1 (some .boolean)) 1 "NameBenches" := ⟨wv_X5_109, wi_X10, wyX10_isBench, by decide +kernel, by decide +kernel, by decide +kernel⟩
theorem wv_X5_184 : Cond.methodLinkNest RX5 184 yX10_isAgeToCome "NameBenches" ∈ eX := eX_in 403 (by decide +kernel) rfl
theorem lk_X5_184 : eLN RX5 184 yX10_isAgeToCome (.code yX10_isAgeToCome cX10_isAgeToCome 1 (some .boolean)) 1 "NameBenches" := ⟨wv_X5_184, wi_X10, wyX10_isAgeToCome, by decide +kernel, by decide +kernel, by decide +kernel⟩
theorem wv_X5_137 : Cond.methodLinkNest RX5 137 yX10_isYearsAtOnce "NameBenches" ∈ eX := eX_in 491 (by decide +kernel) rfl
theorem lk_X5_137 : eLN RX5 137 yX10_isYearsAtOnce (.code yX10_isYearsAtOnce cX10_isYearsAtOnce 1 (some .boolean)) 1 "NameBenches" := ⟨wv_X5_137, wi_X10, wyX10_isYearsAtOnce, by decide +kernel, by decide +kernel, by decide +kernel⟩
theorem wv_X5_197 : Cond.methodLinkNest RX5 197 yX10_isSettingWith "NameBenches" ∈ eX := eX_in 534 (by decide +kernel) rfl
theorem lk_X5_197 : eLN RX5 197 yX10_isSettingWith (.code yX10_isSettingWith cX10_isSettingWith 3 (some .boolean)) 2 "NameBenches" := ⟨wv_X5_197, wi_X10, wyX10_isSettingWith, by decide +kernel, by decide +kernel, by decide +kernel⟩
theorem wv_X6_68 : Cond.methodLinkNest RX6 68 yX10_isBench "NameBenches" ∈ eX := eX_in 891 (by decide +kernel) rfl
theorem lk_X6_68 : eLN RX6 68 yX10_isBench (.code yX10_isBench cX10_isBench 1 (some .boolean)) 1 "NameBenches" := ⟨wv_X6_68, wi_X10, wyX10_isBench, by decide +kernel, by decide +kernel, by decide +kernel⟩
abbrev mX0_codes : eMI := (cX0_codes, 3, (some .int), RX0, "codes", 0, 0, [], none)
abbrev kX0_codes (args : List Value) (h : eH) (n : Nat) (r : eRes) (mc ms : Nat) : Prop := eM yX0_codes (.code yX0_codes cX0_codes 3 (some .int)) 0 0 args h n r mc ms
abbrev mX0_isCode : eMI := (cX0_isCode, 2, (some .boolean), RX0, "isCode", 1, 22, [], none)
abbrev kX0_isCode (args : List Value) (h : eH) (n : Nat) (r : eRes) (mc ms : Nat) : Prop := eM yX0_isCode (.code yX0_isCode cX0_isCode 2 (some .boolean)) 1 22 args h n r mc ms
abbrev mX0_at : eMI := (cX0_at, 5, (some .int), RX0, "at", 0, 0, [], none)
abbrev kX0_at (args : List Value) (h : eH) (n : Nat) (r : eRes) (mc ms : Nat) : Prop := eM yX0_at (.code yX0_at cX0_at 5 (some .int)) 0 0 args h n r mc ms
abbrev mX0_dictionaryKey : eMI := (cX0_dictionaryKey, 4, (some .int), RX0, "dictionaryKey", 1, 24, [], none)
abbrev kX0_dictionaryKey (args : List Value) (h : eH) (n : Nat) (r : eRes) (mc ms : Nat) : Prop := eM yX0_dictionaryKey (.code yX0_dictionaryKey cX0_dictionaryKey 4 (some .int)) 1 24 args h n r mc ms
abbrev mX0_isRepeated : eMI := (cX0_isRepeated, 4, (some .boolean), RX0, "isRepeated", 1, 24, [], none)
abbrev kX0_isRepeated (args : List Value) (h : eH) (n : Nat) (r : eRes) (mc ms : Nat) : Prop := eM yX0_isRepeated (.code yX0_isRepeated cX0_isRepeated 4 (some .boolean)) 1 24 args h n r mc ms
abbrev mX1_init : eMI := (cX1_init, 1, none, RX1, "<init>", 1, 24, [], none)
abbrev kX1_init (args : List Value) (h : eH) (n : Nat) (r : eRes) (mc ms : Nat) : Prop := eM yX1_init (.code yX1_init cX1_init 1 none) 1 24 args h n r mc ms
abbrev mX1_bestCode : eMI := (cX1_bestCode, 10, (some .int), RX1, "bestCode", 4, 92, [], none)
abbrev kX1_bestCode (args : List Value) (h : eH) (n : Nat) (r : eRes) (mc ms : Nat) : Prop := eM yX1_bestCode (.code yX1_bestCode cX1_bestCode 10 (some .int)) 4 92 args h n r mc ms
abbrev mX1_countNames : eMI := (cX1_countNames, 3, none, RX1, "countNames", 3, 70, [], none)
abbrev kX1_countNames (args : List Value) (h : eH) (n : Nat) (r : eRes) (mc ms : Nat) : Prop := eM yX1_countNames (.code yX1_countNames cX1_countNames 3 none) 3 70 args h n r mc ms
abbrev mX1_countLetters : eMI := (cX1_countLetters, 4, none, RX1, "countLetters", 2, 47, [], none)
abbrev kX1_countLetters (args : List Value) (h : eH) (n : Nat) (r : eRes) (mc ms : Nat) : Prop := eM yX1_countLetters (.code yX1_countLetters cX1_countLetters 4 none) 2 47 args h n r mc ms
abbrev mX1_namesWithLettersOf : eMI := (cX1_namesWithLettersOf, 5, (some .int), RX1, "namesWithLettersOf", 1, 24, [], none)
abbrev kX1_namesWithLettersOf (args : List Value) (h : eH) (n : Nat) (r : eRes) (mc ms : Nat) : Prop := eM yX1_namesWithLettersOf (.code yX1_namesWithLettersOf cX1_namesWithLettersOf 5 (some .int)) 1 24 args h n r mc ms
abbrev mX2_init : eMI := (cX2_init, 1, none, RX2, "<init>", 1, 24, [], none)
abbrev kX2_init (args : List Value) (h : eH) (n : Nat) (r : eRes) (mc ms : Nat) : Prop := eM yX2_init (.code yX2_init cX2_init 1 none) 1 24 args h n r mc ms
abbrev mX2_copyFrom : eMI := (cX2_copyFrom, 2, none, RX2, "copyFrom", 1, 60, [], none)
abbrev kX2_copyFrom (args : List Value) (h : eH) (n : Nat) (r : eRes) (mc ms : Nat) : Prop := eM yX2_copyFrom (.code yX2_copyFrom cX2_copyFrom 2 none) 1 60 args h n r mc ms
abbrev mX2_has : eMI := (cX2_has, 2, (some .boolean), RX2, "has", 0, 0, [], none)
abbrev kX2_has (args : List Value) (h : eH) (n : Nat) (r : eRes) (mc ms : Nat) : Prop := eM yX2_has (.code yX2_has cX2_has 2 (some .boolean)) 0 0 args h n r mc ms
abbrev mX2_isFull : eMI := (cX2_isFull, 1, (some .boolean), RX2, "isFull", 0, 0, [], none)
abbrev kX2_isFull (args : List Value) (h : eH) (n : Nat) (r : eRes) (mc ms : Nat) : Prop := eM yX2_isFull (.code yX2_isFull cX2_isFull 1 (some .boolean)) 0 0 args h n r mc ms
abbrev mX2_add : eMI := (cX2_add, 6, none, RX2, "add", 1, 20, [], none)
abbrev kX2_add (args : List Value) (h : eH) (n : Nat) (r : eRes) (mc ms : Nat) : Prop := eM yX2_add (.code yX2_add cX2_add 6 none) 1 20 args h n r mc ms
abbrev mX2_use : eMI := (cX2_use, 4, none, RX2, "use", 0, 0, [], none)
abbrev kX2_use (args : List Value) (h : eH) (n : Nat) (r : eRes) (mc ms : Nat) : Prop := eM yX2_use (.code yX2_use cX2_use 4 none) 0 0 args h n r mc ms
abbrev mX2_isAlive : eMI := (cX2_isAlive, 2, (some .boolean), RX2, "isAlive", 0, 0, [], none)
abbrev kX2_isAlive (args : List Value) (h : eH) (n : Nat) (r : eRes) (mc ms : Nat) : Prop := eM yX2_isAlive (.code yX2_isAlive cX2_isAlive 2 (some .boolean)) 0 0 args h n r mc ms
abbrev mX2_isAliveAs : eMI := (cX2_isAliveAs, 4, (some .boolean), RX2, "isAliveAs", 0, 0, [], none)
abbrev kX2_isAliveAs (args : List Value) (h : eH) (n : Nat) (r : eRes) (mc ms : Nat) : Prop := eM yX2_isAliveAs (.code yX2_isAliveAs cX2_isAliveAs 4 (some .boolean)) 0 0 args h n r mc ms
abbrev mX2_aliveNameOf : eMI := (cX2_aliveNameOf, 5, (some .int), RX2, "aliveNameOf", 1, 23, [], none)
abbrev kX2_aliveNameOf (args : List Value) (h : eH) (n : Nat) (r : eRes) (mc ms : Nat) : Prop := eM yX2_aliveNameOf (.code yX2_aliveNameOf cX2_aliveNameOf 5 (some .int)) 1 23 args h n r mc ms
abbrev mX2_alive : eMI := (cX2_alive, 1, (some .int), RX2, "alive", 1, 23, [], none)
abbrev kX2_alive (args : List Value) (h : eH) (n : Nat) (r : eRes) (mc ms : Nat) : Prop := eM yX2_alive (.code yX2_alive cX2_alive 1 (some .int)) 1 23 args h n r mc ms
abbrev mX2_inState : eMI := (cX2_inState, 4, (some .int), RX2, "inState", 0, 0, [], none)
abbrev kX2_inState (args : List Value) (h : eH) (n : Nat) (r : eRes) (mc ms : Nat) : Prop := eM yX2_inState (.code yX2_inState cX2_inState 4 (some .int)) 0 0 args h n r mc ms
abbrev mX2_aliveOf : eMI := (cX2_aliveOf, 4, (some .int), RX2, "aliveOf", 0, 0, [], none)
abbrev kX2_aliveOf (args : List Value) (h : eH) (n : Nat) (r : eRes) (mc ms : Nat) : Prop := eM yX2_aliveOf (.code yX2_aliveOf cX2_aliveOf 4 (some .int)) 0 0 args h n r mc ms
abbrev mX2_usesTogether : eMI := (cX2_usesTogether, 3, (some .int), RX2, "usesTogether", 0, 0, [], none)
abbrev kX2_usesTogether (args : List Value) (h : eH) (n : Nat) (r : eRes) (mc ms : Nat) : Prop := eM yX2_usesTogether (.code yX2_usesTogether cX2_usesTogether 3 (some .int)) 0 0 args h n r mc ms
abbrev mX2_givenBy : eMI := (cX2_givenBy, 4, (some .int), RX2, "givenBy", 0, 0, [], none)
abbrev kX2_givenBy (args : List Value) (h : eH) (n : Nat) (r : eRes) (mc ms : Nat) : Prop := eM yX2_givenBy (.code yX2_givenBy cX2_givenBy 4 (some .int)) 0 0 args h n r mc ms
abbrev mX2_stuckGivenBy : eMI := (cX2_stuckGivenBy, 4, (some .int), RX2, "stuckGivenBy", 0, 0, [], none)
abbrev kX2_stuckGivenBy (args : List Value) (h : eH) (n : Nat) (r : eRes) (mc ms : Nat) : Prop := eM yX2_stuckGivenBy (.code yX2_stuckGivenBy cX2_stuckGivenBy 4 (some .int)) 0 0 args h n r mc ms
abbrev mX2_sticksBetter : eMI := (cX2_sticksBetter, 5, (some .boolean), RX2, "sticksBetter", 1, 23, [], none)
abbrev kX2_sticksBetter (args : List Value) (h : eH) (n : Nat) (r : eRes) (mc ms : Nat) : Prop := eM yX2_sticksBetter (.code yX2_sticksBetter cX2_sticksBetter 5 (some .boolean)) 1 23 args h n r mc ms
abbrev mX2_ranked : eMI := (cX2_ranked, 3, (some .int), RX2, "ranked", 3, 72, [], none)
abbrev kX2_ranked (args : List Value) (h : eH) (n : Nat) (r : eRes) (mc ms : Nat) : Prop := eM yX2_ranked (.code yX2_ranked cX2_ranked 3 (some .int)) 3 72 args h n r mc ms
abbrev mX2_aliveAheadOf : eMI := (cX2_aliveAheadOf, 6, (some .int), RX2, "aliveAheadOf", 2, 47, [], none)
abbrev kX2_aliveAheadOf (args : List Value) (h : eH) (n : Nat) (r : eRes) (mc ms : Nat) : Prop := eM yX2_aliveAheadOf (.code yX2_aliveAheadOf cX2_aliveAheadOf 6 (some .int)) 2 47 args h n r mc ms
abbrev mX3_init : eMI := (cX3_init, 2, none, RX3, "<init>", 3, 65, [], none)
abbrev kX3_init (args : List Value) (h : eH) (n : Nat) (r : eRes) (mc ms : Nat) : Prop := eM yX3_init (.code yX3_init cX3_init 2 none) 3 65 args h n r mc ms
abbrev mX3_forgetAll : eMI := (cX3_forgetAll, 1, none, RX3, "forgetAll", 0, 0, [], none)
abbrev kX3_forgetAll (args : List Value) (h : eH) (n : Nat) (r : eRes) (mc ms : Nat) : Prop := eM yX3_forgetAll (.code yX3_forgetAll cX3_forgetAll 1 none) 0 0 args h n r mc ms
abbrev mX3_remember : eMI := (cX3_remember, 2, none, RX3, "remember", 3, 102, [], none)
abbrev kX3_remember (args : List Value) (h : eH) (n : Nat) (r : eRes) (mc ms : Nat) : Prop := eM yX3_remember (.code yX3_remember cX3_remember 2 none) 3 102 args h n r mc ms
abbrev mX3_takeBack : eMI := (cX3_takeBack, 2, none, RX3, "takeBack", 3, 102, [], none)
abbrev kX3_takeBack (args : List Value) (h : eH) (n : Nat) (r : eRes) (mc ms : Nat) : Prop := eM yX3_takeBack (.code yX3_takeBack cX3_takeBack 2 none) 3 102 args h n r mc ms
abbrev mX4_init : eMI := (cX4_init, 1, none, RX4, "<init>", 1, 24, [], none)
abbrev kX4_init (args : List Value) (h : eH) (n : Nat) (r : eRes) (mc ms : Nat) : Prop := eM yX4_init (.code yX4_init cX4_init 1 none) 1 24 args h n r mc ms
abbrev mX4_copyFrom : eMI := (cX4_copyFrom, 2, none, RX4, "copyFrom", 1, 60, [], none)
abbrev kX4_copyFrom (args : List Value) (h : eH) (n : Nat) (r : eRes) (mc ms : Nat) : Prop := eM yX4_copyFrom (.code yX4_copyFrom cX4_copyFrom 2 none) 1 60 args h n r mc ms
abbrev mX4_has : eMI := (cX4_has, 2, (some .boolean), RX4, "has", 0, 0, [], none)
abbrev kX4_has (args : List Value) (h : eH) (n : Nat) (r : eRes) (mc ms : Nat) : Prop := eM yX4_has (.code yX4_has cX4_has 2 (some .boolean)) 0 0 args h n r mc ms
abbrev mX4_isFull : eMI := (cX4_isFull, 1, (some .boolean), RX4, "isFull", 0, 0, [], none)
abbrev kX4_isFull (args : List Value) (h : eH) (n : Nat) (r : eRes) (mc ms : Nat) : Prop := eM yX4_isFull (.code yX4_isFull cX4_isFull 1 (some .boolean)) 0 0 args h n r mc ms
abbrev mX4_add : eMI := (cX4_add, 4, none, RX4, "add", 1, 20, [], none)
abbrev kX4_add (args : List Value) (h : eH) (n : Nat) (r : eRes) (mc ms : Nat) : Prop := eM yX4_add (.code yX4_add cX4_add 4 none) 1 20 args h n r mc ms
abbrev mX4_growOlder : eMI := (cX4_growOlder, 2, none, RX4, "growOlder", 0, 0, [], none)
abbrev kX4_growOlder (args : List Value) (h : eH) (n : Nat) (r : eRes) (mc ms : Nat) : Prop := eM yX4_growOlder (.code yX4_growOlder cX4_growOlder 2 none) 0 0 args h n r mc ms
abbrev mX4_areBrothers : eMI := (cX4_areBrothers, 3, (some .boolean), RX4, "areBrothers", 0, 0, [], none)
abbrev kX4_areBrothers (args : List Value) (h : eH) (n : Nat) (r : eRes) (mc ms : Nat) : Prop := eM yX4_areBrothers (.code yX4_areBrothers cX4_areBrothers 3 (some .boolean)) 0 0 args h n r mc ms
abbrev mX4_isYoungerBeside : eMI := (cX4_isYoungerBeside, 3, (some .boolean), RX4, "isYoungerBeside", 0, 0, [], none)
abbrev kX4_isYoungerBeside (args : List Value) (h : eH) (n : Nat) (r : eRes) (mc ms : Nat) : Prop := eM yX4_isYoungerBeside (.code yX4_isYoungerBeside cX4_isYoungerBeside 3 (some .boolean)) 0 0 args h n r mc ms
abbrev mX4_brothersOf : eMI := (cX4_brothersOf, 4, (some .int), RX4, "brothersOf", 1, 22, [], none)
abbrev kX4_brothersOf (args : List Value) (h : eH) (n : Nat) (r : eRes) (mc ms : Nat) : Prop := eM yX4_brothersOf (.code yX4_brothersOf cX4_brothersOf 4 (some .int)) 1 22 args h n r mc ms
abbrev mX4_firstBrotherOn : eMI := (cX4_firstBrotherOn, 4, (some .int), RX4, "firstBrotherOn", 1, 22, [], none)
abbrev kX4_firstBrotherOn (args : List Value) (h : eH) (n : Nat) (r : eRes) (mc ms : Nat) : Prop := eM yX4_firstBrotherOn (.code yX4_firstBrotherOn cX4_firstBrotherOn 4 (some .int)) 1 22 args h n r mc ms
abbrev mX5_init : eMI := (cX5_init, 2, none, RX5, "<init>", 2, 44, [], none)
abbrev kX5_init (args : List Value) (h : eH) (n : Nat) (r : eRes) (mc ms : Nat) : Prop := eM yX5_init (.code yX5_init cX5_init 2 none) 2 44 args h n r mc ms
abbrev mX5_empty : eMI := (cX5_empty, 2, none, RX5, "empty", 0, 0, [], none)
abbrev kX5_empty (args : List Value) (h : eH) (n : Nat) (r : eRes) (mc ms : Nat) : Prop := eM yX5_empty (.code yX5_empty cX5_empty 2 none) 0 0 args h n r mc ms
abbrev mX5_copyFrom : eMI := (cX5_copyFrom, 2, none, RX5, "copyFrom", 2, 81, [], none)
abbrev kX5_copyFrom (args : List Value) (h : eH) (n : Nat) (r : eRes) (mc ms : Nat) : Prop := eM yX5_copyFrom (.code yX5_copyFrom cX5_copyFrom 2 none) 2 81 args h n r mc ms
abbrev mX5_reasonAgainst : eMI := (cX5_reasonAgainst, 6, (some .int), RX5, "reasonAgainst", 2, 49, [], none)
abbrev kX5_reasonAgainst (args : List Value) (h : eH) (n : Nat) (r : eRes) (mc ms : Nat) : Prop := eM yX5_reasonAgainst (.code yX5_reasonAgainst cX5_reasonAgainst 6 (some .int)) 2 49 args h n r mc ms
abbrev mX5_reasonAgainstAnyName : eMI := (cX5_reasonAgainstAnyName, 3, (some .int), RX5, "reasonAgainstAnyName", 1, 23, [], none)
abbrev kX5_reasonAgainstAnyName (args : List Value) (h : eH) (n : Nat) (r : eRes) (mc ms : Nat) : Prop := eM yX5_reasonAgainstAnyName (.code yX5_reasonAgainstAnyName cX5_reasonAgainstAnyName 3 (some .int)) 1 23 args h n r mc ms
abbrev mX5_isTaken : eMI := (cX5_isTaken, 7, (some .boolean), RX5, "isTaken", 1, 23, [], none)
abbrev kX5_isTaken (args : List Value) (h : eH) (n : Nat) (r : eRes) (mc ms : Nat) : Prop := eM yX5_isTaken (.code yX5_isTaken cX5_isTaken 7 (some .boolean)) 1 23 args h n r mc ms
abbrev mX5_isKeptFrom : eMI := (cX5_isKeptFrom, 4, (some .boolean), RX5, "isKeptFrom", 2, 49, [], none)
abbrev kX5_isKeptFrom (args : List Value) (h : eH) (n : Nat) (r : eRes) (mc ms : Nat) : Prop := eM yX5_isKeptFrom (.code yX5_isKeptFrom cX5_isKeptFrom 4 (some .boolean)) 2 49 args h n r mc ms
abbrev mX5_meantByPeople : eMI := (cX5_meantByPeople, 5, (some .int), RX5, "meantByPeople", 3, 71, [], none)
abbrev kX5_meantByPeople (args : List Value) (h : eH) (n : Nat) (r : eRes) (mc ms : Nat) : Prop := eM yX5_meantByPeople (.code yX5_meantByPeople cX5_meantByPeople 5 (some .int)) 3 71 args h n r mc ms
abbrev mX5_firstBrotherNamed : eMI := (cX5_firstBrotherNamed, 5, (some .int), RX5, "firstBrotherNamed", 2, 47, [], none)
abbrev kX5_firstBrotherNamed (args : List Value) (h : eH) (n : Nat) (r : eRes) (mc ms : Nat) : Prop := eM yX5_firstBrotherNamed (.code yX5_firstBrotherNamed cX5_firstBrotherNamed 5 (some .int)) 2 47 args h n r mc ms
abbrev mX5_meantByNames : eMI := (cX5_meantByNames, 8, (some .int), RX5, "meantByNames", 2, 45, [], none)
abbrev kX5_meantByNames (args : List Value) (h : eH) (n : Nat) (r : eRes) (mc ms : Nat) : Prop := eM yX5_meantByNames (.code yX5_meantByNames cX5_meantByNames 8 (some .int)) 2 45 args h n r mc ms
abbrev mX5_callFor : eMI := (cX5_callFor, 6, (some .int), RX5, "callFor", 4, 95, [], none)
abbrev kX5_callFor (args : List Value) (h : eH) (n : Nat) (r : eRes) (mc ms : Nat) : Prop := eM yX5_callFor (.code yX5_callFor cX5_callFor 6 (some .int)) 4 95 args h n r mc ms
abbrev mX5_mixUp : eMI := (cX5_mixUp, 3, none, RX5, "mixUp", 1, 21, [], none)
abbrev kX5_mixUp (args : List Value) (h : eH) (n : Nat) (r : eRes) (mc ms : Nat) : Prop := eM yX5_mixUp (.code yX5_mixUp cX5_mixUp 3 none) 1 21 args h n r mc ms
abbrev mX5_passYears : eMI := (cX5_passYears, 4, (some .int), RX5, "passYears", 4, 93, [], none)
abbrev kX5_passYears (args : List Value) (h : eH) (n : Nat) (r : eRes) (mc ms : Nat) : Prop := eM yX5_passYears (.code yX5_passYears cX5_passYears 4 (some .int)) 4 93 args h n r mc ms
abbrev mX5_endNames : eMI := (cX5_endNames, 4, (some .int), RX5, "endNames", 3, 70, [], none)
abbrev kX5_endNames (args : List Value) (h : eH) (n : Nat) (r : eRes) (mc ms : Nat) : Prop := eM yX5_endNames (.code yX5_endNames cX5_endNames 4 (some .int)) 3 70 args h n r mc ms
abbrev mX5_oldestFor : eMI := (cX5_oldestFor, 2, (some .int), RX5, "oldestFor", 0, 0, [], none)
abbrev kX5_oldestFor (args : List Value) (h : eH) (n : Nat) (r : eRes) (mc ms : Nat) : Prop := eM yX5_oldestFor (.code yX5_oldestFor cX5_oldestFor 2 (some .int)) 0 0 args h n r mc ms
abbrev mX5_outgrow : eMI := (cX5_outgrow, 4, none, RX5, "outgrow", 2, 47, [], none)
abbrev kX5_outgrow (args : List Value) (h : eH) (n : Nat) (r : eRes) (mc ms : Nat) : Prop := eM yX5_outgrow (.code yX5_outgrow cX5_outgrow 4 none) 2 47 args h n r mc ms
abbrev mX5_heirOf : eMI := (cX5_heirOf, 5, (some .int), RX5, "heirOf", 1, 23, [], none)
abbrev kX5_heirOf (args : List Value) (h : eH) (n : Nat) (r : eRes) (mc ms : Nat) : Prop := eM yX5_heirOf (.code yX5_heirOf cX5_heirOf 5 (some .int)) 1 23 args h n r mc ms
abbrev mX5_yearsLeft : eMI := (cX5_yearsLeft, 4, (some .int), RX5, "yearsLeft", 1, 21, [], none)
abbrev kX5_yearsLeft (args : List Value) (h : eH) (n : Nat) (r : eRes) (mc ms : Nat) : Prop := eM yX5_yearsLeft (.code yX5_yearsLeft cX5_yearsLeft 4 (some .int)) 1 21 args h n r mc ms
abbrev mX5_triesPerson : eMI := (cX5_triesPerson, 4, (some .boolean), RX5, "triesPerson", 2, 43, [], none)
abbrev kX5_triesPerson (args : List Value) (h : eH) (n : Nat) (r : eRes) (mc ms : Nat) : Prop := eM yX5_triesPerson (.code yX5_triesPerson cX5_triesPerson 4 (some .boolean)) 2 43 args h n r mc ms
abbrev mX5_triesSitting : eMI := (cX5_triesSitting, 3, (some .boolean), RX5, "triesSitting", 3, 72, [], none)
abbrev kX5_triesSitting (args : List Value) (h : eH) (n : Nat) (r : eRes) (mc ms : Nat) : Prop := eM yX5_triesSitting (.code yX5_triesSitting cX5_triesSitting 3 (some .boolean)) 3 72 args h n r mc ms
abbrev mX5_triesGiving : eMI := (cX5_triesGiving, 5, (some .boolean), RX5, "triesGiving", 3, 74, [], none)
abbrev kX5_triesGiving (args : List Value) (h : eH) (n : Nat) (r : eRes) (mc ms : Nat) : Prop := eM yX5_triesGiving (.code yX5_triesGiving cX5_triesGiving 5 (some .boolean)) 3 74 args h n r mc ms
abbrev mX5_triesSetting : eMI := (cX5_triesSetting, 3, (some .boolean), RX5, "triesSetting", 1, 22, [], none)
abbrev kX5_triesSetting (args : List Value) (h : eH) (n : Nat) (r : eRes) (mc ms : Nat) : Prop := eM yX5_triesSetting (.code yX5_triesSetting cX5_triesSetting 3 (some .boolean)) 1 22 args h n r mc ms
abbrev mX5_obeys : eMI := (cX5_obeys, 3, (some .boolean), RX5, "obeys", 5, 120, [], none)
abbrev kX5_obeys (args : List Value) (h : eH) (n : Nat) (r : eRes) (mc ms : Nat) : Prop := eM yX5_obeys (.code yX5_obeys cX5_obeys 3 (some .boolean)) 5 120 args h n r mc ms
abbrev mX6_beyond : eMI := (cX6_beyond, 4, (some .long), RX6, "beyond", 0, 0, [], none)
abbrev kX6_beyond (args : List Value) (h : eH) (n : Nat) (r : eRes) (mc ms : Nat) : Prop := eM yX6_beyond (.code yX6_beyond cX6_beyond 4 (some .long)) 0 0 args h n r mc ms
abbrev mX6_group : eMI := (cX6_group, 7, (some .int), RX6, "group", 0, 0, [], none)
abbrev kX6_group (args : List Value) (h : eH) (n : Nat) (r : eRes) (mc ms : Nat) : Prop := eM yX6_group (.code yX6_group cX6_group 7 (some .int)) 0 0 args h n r mc ms
abbrev mX6_succeeds : eMI := (cX6_succeeds, 7, (some .boolean), RX6, "succeeds", 5, 120, [], none)
abbrev kX6_succeeds (args : List Value) (h : eH) (n : Nat) (r : eRes) (mc ms : Nat) : Prop := eM yX6_succeeds (.code yX6_succeeds cX6_succeeds 7 (some .boolean)) 5 120 args h n r mc ms
abbrev mX6_hasNames : eMI := (cX6_hasNames, 3, (some .boolean), RX6, "hasNames", 1, 23, [], none)
abbrev kX6_hasNames (args : List Value) (h : eH) (n : Nat) (r : eRes) (mc ms : Nat) : Prop := eM yX6_hasNames (.code yX6_hasNames cX6_hasNames 3 (some .boolean)) 1 23 args h n r mc ms
abbrev mX6_means : eMI := (cX6_means, 4, (some .boolean), RX6, "means", 4, 95, [], none)
abbrev kX6_means (args : List Value) (h : eH) (n : Nat) (r : eRes) (mc ms : Nat) : Prop := eM yX6_means (.code yX6_means cX6_means 4 (some .boolean)) 4 95 args h n r mc ms
abbrev mX6_isInState : eMI := (cX6_isInState, 3, (some .boolean), RX6, "isInState", 1, 21, [], none)
abbrev kX6_isInState (args : List Value) (h : eH) (n : Nat) (r : eRes) (mc ms : Nat) : Prop := eM yX6_isInState (.code yX6_isInState cX6_isInState 3 (some .boolean)) 1 21 args h n r mc ms
abbrev mX7_takeTurn : eMI := (cX7_takeTurn, 3, none, RX7, "takeTurn", 5, 120, [], none)
abbrev kX7_takeTurn (args : List Value) (h : eH) (n : Nat) (r : eRes) (mc ms : Nat) : Prop := eM yX7_takeTurn (.code yX7_takeTurn cX7_takeTurn 3 none) 5 120 args h n r mc ms
abbrev mX8_init : eMI := (cX8_init, 2, none, RX8, "<init>", 3, 65, [], none)
abbrev kX8_init (args : List Value) (h : eH) (n : Nat) (r : eRes) (mc ms : Nat) : Prop := eM yX8_init (.code yX8_init cX8_init 2 none) 3 65 args h n r mc ms
abbrev mX8_forgetAll : eMI := (cX8_forgetAll, 2, none, RX8, "forgetAll", 0, 0, [], none)
abbrev kX8_forgetAll (args : List Value) (h : eH) (n : Nat) (r : eRes) (mc ms : Nat) : Prop := eM yX8_forgetAll (.code yX8_forgetAll cX8_forgetAll 2 none) 0 0 args h n r mc ms
abbrev mX9_init : eMI := (cX9_init, 1, none, RX9, "<init>", 1, 24, [], none)
abbrev kX9_init (args : List Value) (h : eH) (n : Nat) (r : eRes) (mc ms : Nat) : Prop := eM yX9_init (.code yX9_init cX9_init 1 none) 1 24 args h n r mc ms
abbrev mX9_put : eMI := (cX9_put, 2, none, RX9, "put", 0, 0, [], none)
abbrev kX9_put (args : List Value) (h : eH) (n : Nat) (r : eRes) (mc ms : Nat) : Prop := eM yX9_put (.code yX9_put cX9_put 2 none) 0 0 args h n r mc ms
abbrev mX9_firstError : eMI := (cX9_firstError, 2, (some .int), RX9, "firstError", 4, 86, [], none)
abbrev kX9_firstError (args : List Value) (h : eH) (n : Nat) (r : eRes) (mc ms : Nat) : Prop := eM yX9_firstError (.code yX9_firstError cX9_firstError 2 (some .int)) 4 86 args h n r mc ms
abbrev mX9_readHead : eMI := (cX9_readHead, 1, (some .boolean), RX9, "readHead", 2, 41, [], none)
abbrev kX9_readHead (args : List Value) (h : eH) (n : Nat) (r : eRes) (mc ms : Nat) : Prop := eM yX9_readHead (.code yX9_readHead cX9_readHead 1 (some .boolean)) 2 41 args h n r mc ms
abbrev mX9_readCommand : eMI := (cX9_readCommand, 1, (some .boolean), RX9, "readCommand", 3, 66, [], none)
abbrev kX9_readCommand (args : List Value) (h : eH) (n : Nat) (r : eRes) (mc ms : Nat) : Prop := eM yX9_readCommand (.code yX9_readCommand cX9_readCommand 1 (some .boolean)) 3 66 args h n r mc ms
abbrev mX9_here : eMI := (cX9_here, 1, (some .int), RX9, "here", 0, 0, [], none)
abbrev kX9_here (args : List Value) (h : eH) (n : Nat) (r : eRes) (mc ms : Nat) : Prop := eM yX9_here (.code yX9_here cX9_here 1 (some .int)) 0 0 args h n r mc ms
abbrev mX9_reads : eMI := (cX9_reads, 2, (some .boolean), RX9, "reads", 1, 20, [], none)
abbrev kX9_reads (args : List Value) (h : eH) (n : Nat) (r : eRes) (mc ms : Nat) : Prop := eM yX9_reads (.code yX9_reads cX9_reads 2 (some .boolean)) 1 20 args h n r mc ms
abbrev mX9_readsDigit : eMI := (cX9_readsDigit, 4, (some .boolean), RX9, "readsDigit", 2, 43, [], none)
abbrev kX9_readsDigit (args : List Value) (h : eH) (n : Nat) (r : eRes) (mc ms : Nat) : Prop := eM yX9_readsDigit (.code yX9_readsDigit cX9_readsDigit 4 (some .boolean)) 2 43 args h n r mc ms
abbrev mX9_readsPair : eMI := (cX9_readsPair, 4, (some .boolean), RX9, "readsPair", 2, 43, [], none)
abbrev kX9_readsPair (args : List Value) (h : eH) (n : Nat) (r : eRes) (mc ms : Nat) : Prop := eM yX9_readsPair (.code yX9_readsPair cX9_readsPair 4 (some .boolean)) 2 43 args h n r mc ms
abbrev mX9_takeDigit : eMI := (cX9_takeDigit, 4, (some .int), RX9, "takeDigit", 1, 20, [], none)
abbrev kX9_takeDigit (args : List Value) (h : eH) (n : Nat) (r : eRes) (mc ms : Nat) : Prop := eM yX9_takeDigit (.code yX9_takeDigit cX9_takeDigit 4 (some .int)) 1 20 args h n r mc ms
abbrev mX9_readsLetters : eMI := (cX9_readsLetters, 4, (some .boolean), RX9, "readsLetters", 2, 41, [], none)
abbrev kX9_readsLetters (args : List Value) (h : eH) (n : Nat) (r : eRes) (mc ms : Nat) : Prop := eM yX9_readsLetters (.code yX9_readsLetters cX9_readsLetters 4 (some .boolean)) 2 41 args h n r mc ms
abbrev mX9_tells : eMI := (cX9_tells, 2, (some .boolean), RX9, "tells", 0, 0, [], none)
abbrev kX9_tells (args : List Value) (h : eH) (n : Nat) (r : eRes) (mc ms : Nat) : Prop := eM yX9_tells (.code yX9_tells cX9_tells 2 (some .boolean)) 0 0 args h n r mc ms
abbrev mJ9_max_7cf53 : eMI := (cJ9_max_7cf53, 2, (some .int), RJ9, "max", 0, 0, [], none)
abbrev kJ9_max_7cf53 (args : List Value) (h : eH) (n : Nat) (r : eRes) (mc ms : Nat) : Prop := eM yJ9_max_7cf53 (.code yJ9_max_7cf53 cJ9_max_7cf53 2 (some .int)) 0 0 args h n r mc ms
abbrev mJ9_min_7cf53 : eMI := (cJ9_min_7cf53, 2, (some .int), RJ9, "min", 0, 0, [], none)
abbrev kJ9_min_7cf53 (args : List Value) (h : eH) (n : Nat) (r : eRes) (mc ms : Nat) : Prop := eM yJ9_min_7cf53 (.code yJ9_min_7cf53 cJ9_min_7cf53 2 (some .int)) 0 0 args h n r mc ms
abbrev mX10_init : eMI := (cX10_init, 1, none, RX10, "<init>", 4, 86, [], none)
abbrev kX10_init (args : List Value) (h : eH) (n : Nat) (r : eRes) (mc ms : Nat) : Prop := eM yX10_init (.code yX10_init cX10_init 1 none) 4 86 args h n r mc ms
abbrev mX10_append : eMI := (cX10_append, 2, (some .int), RX10, "append", 6, 90, [], none)
abbrev kX10_append (args : List Value) (h : eH) (n : Nat) (r : eRes) (mc ms : Nat) : Prop := eM yX10_append (.code yX10_append cX10_append 2 (some .int)) 6 90 args h n r mc ms
abbrev mX10_clearText : eMI := (cX10_clearText, 2, (some .int), RX10, "clearText", 0, 0, [], none)
abbrev kX10_clearText (args : List Value) (h : eH) (n : Nat) (r : eRes) (mc ms : Nat) : Prop := eM yX10_clearText (.code yX10_clearText cX10_clearText 2 (some .int)) 0 0 args h n r mc ms
abbrev mX10_errorPosition : eMI := (cX10_errorPosition, 1, (some .int), RX10, "errorPosition", 5, 107, [], none)
abbrev kX10_errorPosition (args : List Value) (h : eH) (n : Nat) (r : eRes) (mc ms : Nat) : Prop := eM yX10_errorPosition (.code yX10_errorPosition cX10_errorPosition 1 (some .int)) 5 107 args h n r mc ms
abbrev mX10_load : eMI := (cX10_load, 3, (some .int), RX10, "load", 6, 142, [], none)
abbrev kX10_load (args : List Value) (h : eH) (n : Nat) (r : eRes) (mc ms : Nat) : Prop := eM yX10_load (.code yX10_load cX10_load 3 (some .int)) 6 142 args h n r mc ms
abbrev mX10_about : eMI := (cX10_about, 2, (some .int), RX10, "about", 6, 90, [], none)
abbrev kX10_about (args : List Value) (h : eH) (n : Nat) (r : eRes) (mc ms : Nat) : Prop := eM yX10_about (.code yX10_about cX10_about 2 (some .int)) 6 90 args h n r mc ms
abbrev mX10_personOf : eMI := (cX10_personOf, 3, (some .int), RX10, "personOf", 7, 111, [], none)
abbrev kX10_personOf (args : List Value) (h : eH) (n : Nat) (r : eRes) (mc ms : Nat) : Prop := eM yX10_personOf (.code yX10_personOf cX10_personOf 3 (some .int)) 7 111 args h n r mc ms
abbrev mX10_nameOf : eMI := (cX10_nameOf, 3, (some .int), RX10, "nameOf", 7, 111, [], none)
abbrev kX10_nameOf (args : List Value) (h : eH) (n : Nat) (r : eRes) (mc ms : Nat) : Prop := eM yX10_nameOf (.code yX10_nameOf cX10_nameOf 3 (some .int)) 7 111 args h n r mc ms
abbrev mX10_letter : eMI := (cX10_letter, 3, (some .int), RX10, "letter", 7, 111, [], none)
abbrev kX10_letter (args : List Value) (h : eH) (n : Nat) (r : eRes) (mc ms : Nat) : Prop := eM yX10_letter (.code yX10_letter cX10_letter 3 (some .int)) 7 111 args h n r mc ms
abbrev mX10_roll : eMI := (cX10_roll, 2, (some .int), RX10, "roll", 6, 94, [], none)
abbrev kX10_roll (args : List Value) (h : eH) (n : Nat) (r : eRes) (mc ms : Nat) : Prop := eM yX10_roll (.code yX10_roll cX10_roll 2 (some .int)) 6 94 args h n r mc ms
abbrev mX10_meant : eMI := (cX10_meant, 5, (some .int), RX10, "meant", 7, 111, [], none)
abbrev kX10_meant (args : List Value) (h : eH) (n : Nat) (r : eRes) (mc ms : Nat) : Prop := eM yX10_meant (.code yX10_meant cX10_meant 5 (some .int)) 7 111 args h n r mc ms
abbrev mX10_person : eMI := (cX10_person, 4, (some .int), RX10, "person", 7, 123, [], none)
abbrev kX10_person (args : List Value) (h : eH) (n : Nat) (r : eRes) (mc ms : Nat) : Prop := eM yX10_person (.code yX10_person cX10_person 4 (some .int)) 7 123 args h n r mc ms
abbrev mX10_sit : eMI := (cX10_sit, 4, (some .int), RX10, "sit", 7, 123, [], none)
abbrev kX10_sit (args : List Value) (h : eH) (n : Nat) (r : eRes) (mc ms : Nat) : Prop := eM yX10_sit (.code yX10_sit cX10_sit 4 (some .int)) 7 123 args h n r mc ms
abbrev mX10_give : eMI := (cX10_give, 6, (some .int), RX10, "give", 7, 123, [], none)
abbrev kX10_give (args : List Value) (h : eH) (n : Nat) (r : eRes) (mc ms : Nat) : Prop := eM yX10_give (.code yX10_give cX10_give 6 (some .int)) 7 123 args h n r mc ms
abbrev mX10_call : eMI := (cX10_call, 5, (some .int), RX10, "call", 7, 123, [], none)
abbrev kX10_call (args : List Value) (h : eH) (n : Nat) (r : eRes) (mc ms : Nat) : Prop := eM yX10_call (.code yX10_call cX10_call 5 (some .int)) 7 123 args h n r mc ms
abbrev mX10_years : eMI := (cX10_years, 2, (some .int), RX10, "years", 6, 123, [], none)
abbrev kX10_years (args : List Value) (h : eH) (n : Nat) (r : eRes) (mc ms : Nat) : Prop := eM yX10_years (.code yX10_years cX10_years 2 (some .int)) 6 123 args h n r mc ms
abbrev mX10_set : eMI := (cX10_set, 4, (some .int), RX10, "set", 6, 123, [], none)
abbrev kX10_set (args : List Value) (h : eH) (n : Nat) (r : eRes) (mc ms : Nat) : Prop := eM yX10_set (.code yX10_set cX10_set 4 (some .int)) 6 123 args h n r mc ms
abbrev mX10_undo : eMI := (cX10_undo, 1, (some .int), RX10, "undo", 6, 123, [], none)
abbrev kX10_undo (args : List Value) (h : eH) (n : Nat) (r : eRes) (mc ms : Nat) : Prop := eM yX10_undo (.code yX10_undo cX10_undo 1 (some .int)) 6 123 args h n r mc ms
abbrev mX10_why : eMI := (cX10_why, 5, (some .int), RX10, "why", 7, 111, [], none)
abbrev kX10_why (args : List Value) (h : eH) (n : Nat) (r : eRes) (mc ms : Nat) : Prop := eM yX10_why (.code yX10_why cX10_why 5 (some .int)) 7 111 args h n r mc ms
abbrev mX10_endsIn : eMI := (cX10_endsIn, 2, (some .int), RX10, "endsIn", 7, 111, [], none)
abbrev kX10_endsIn (args : List Value) (h : eH) (n : Nat) (r : eRes) (mc ms : Nat) : Prop := eM yX10_endsIn (.code yX10_endsIn cX10_endsIn 2 (some .int)) 7 111 args h n r mc ms
abbrev mX10_bestName : eMI := (cX10_bestName, 4, (some .int), RX10, "bestName", 7, 121, [], none)
abbrev kX10_bestName (args : List Value) (h : eH) (n : Nat) (r : eRes) (mc ms : Nat) : Prop := eM yX10_bestName (.code yX10_bestName cX10_bestName 4 (some .int)) 7 121 args h n r mc ms
abbrev mX10_bestGiver : eMI := (cX10_bestGiver, 3, (some .int), RX10, "bestGiver", 2, 47, [], none)
abbrev kX10_bestGiver (args : List Value) (h : eH) (n : Nat) (r : eRes) (mc ms : Nat) : Prop := eM yX10_bestGiver (.code yX10_bestGiver cX10_bestGiver 3 (some .int)) 2 47 args h n r mc ms
abbrev mX10_mixed : eMI := (cX10_mixed, 3, (some .int), RX10, "mixed", 0, 0, [], none)
abbrev kX10_mixed (args : List Value) (h : eH) (n : Nat) (r : eRes) (mc ms : Nat) : Prop := eM yX10_mixed (.code yX10_mixed cX10_mixed 3 (some .int)) 0 0 args h n r mc ms
abbrev mX10_runScript : eMI := (cX10_runScript, 5, (some .int), RX10, "runScript", 6, 146, [], none)
abbrev kX10_runScript (args : List Value) (h : eH) (n : Nat) (r : eRes) (mc ms : Nat) : Prop := eM yX10_runScript (.code yX10_runScript cX10_runScript 5 (some .int)) 6 146 args h n r mc ms
abbrev mX10_simulate : eMI := (cX10_simulate, 7, (some .int), RX10, "simulate", 6, 142, [], none)
abbrev kX10_simulate (args : List Value) (h : eH) (n : Nat) (r : eRes) (mc ms : Nat) : Prop := eM yX10_simulate (.code yX10_simulate cX10_simulate 7 (some .int)) 6 142 args h n r mc ms
abbrev mX10_save : eMI := (cX10_save, 2, (some .int), RX10, "save", 7, 110, [], none)
abbrev kX10_save (args : List Value) (h : eH) (n : Nat) (r : eRes) (mc ms : Nat) : Prop := eM yX10_save (.code yX10_save cX10_save 2 (some .int)) 7 110 args h n r mc ms
abbrev mX10_restore : eMI := (cX10_restore, 2, (some .int), RX10, "restore", 7, 110, [], none)
abbrev kX10_restore (args : List Value) (h : eH) (n : Nat) (r : eRes) (mc ms : Nat) : Prop := eM yX10_restore (.code yX10_restore cX10_restore 2 (some .int)) 7 110 args h n r mc ms
abbrev mX10_requirePerson : eMI := (cX10_requirePerson, 2, none, RX10, "requirePerson", 6, 90, [], none)
abbrev kX10_requirePerson (args : List Value) (h : eH) (n : Nat) (r : eRes) (mc ms : Nat) : Prop := eM yX10_requirePerson (.code yX10_requirePerson cX10_requirePerson 2 none) 6 90 args h n r mc ms
abbrev mX10_requireName : eMI := (cX10_requireName, 2, none, RX10, "requireName", 6, 90, [], none)
abbrev kX10_requireName (args : List Value) (h : eH) (n : Nat) (r : eRes) (mc ms : Nat) : Prop := eM yX10_requireName (.code yX10_requireName cX10_requireName 2 none) 6 90 args h n r mc ms
abbrev mX10_requireBench : eMI := (cX10_requireBench, 1, none, RX10, "requireBench", 6, 90, [], none)
abbrev kX10_requireBench (args : List Value) (h : eH) (n : Nat) (r : eRes) (mc ms : Nat) : Prop := eM yX10_requireBench (.code yX10_requireBench cX10_requireBench 1 none) 6 90 args h n r mc ms
abbrev mX10_requireCode : eMI := (cX10_requireCode, 2, none, RX10, "requireCode", 6, 90, [], none)
abbrev kX10_requireCode (args : List Value) (h : eH) (n : Nat) (r : eRes) (mc ms : Nat) : Prop := eM yX10_requireCode (.code yX10_requireCode cX10_requireCode 2 none) 6 90 args h n r mc ms
abbrev mX10_requireSlot : eMI := (cX10_requireSlot, 1, none, RX10, "requireSlot", 6, 90, [], none)
abbrev kX10_requireSlot (args : List Value) (h : eH) (n : Nat) (r : eRes) (mc ms : Nat) : Prop := eM yX10_requireSlot (.code yX10_requireSlot cX10_requireSlot 1 none) 6 90 args h n r mc ms
abbrev mX10_isBench : eMI := (cX10_isBench, 1, (some .boolean), RX10, "isBench", 0, 0, [], none)
abbrev kX10_isBench (args : List Value) (h : eH) (n : Nat) (r : eRes) (mc ms : Nat) : Prop := eM yX10_isBench (.code yX10_isBench cX10_isBench 1 (some .boolean)) 0 0 args h n r mc ms
abbrev mX10_isFamily : eMI := (cX10_isFamily, 1, (some .boolean), RX10, "isFamily", 0, 0, [], none)
abbrev kX10_isFamily (args : List Value) (h : eH) (n : Nat) (r : eRes) (mc ms : Nat) : Prop := eM yX10_isFamily (.code yX10_isFamily cX10_isFamily 1 (some .boolean)) 0 0 args h n r mc ms
abbrev mX10_isAgeToCome : eMI := (cX10_isAgeToCome, 1, (some .boolean), RX10, "isAgeToCome", 0, 0, [], none)
abbrev kX10_isAgeToCome (args : List Value) (h : eH) (n : Nat) (r : eRes) (mc ms : Nat) : Prop := eM yX10_isAgeToCome (.code yX10_isAgeToCome cX10_isAgeToCome 1 (some .boolean)) 0 0 args h n r mc ms
abbrev mX10_isYearsAtOnce : eMI := (cX10_isYearsAtOnce, 1, (some .boolean), RX10, "isYearsAtOnce", 0, 0, [], none)
abbrev kX10_isYearsAtOnce (args : List Value) (h : eH) (n : Nat) (r : eRes) (mc ms : Nat) : Prop := eM yX10_isYearsAtOnce (.code yX10_isYearsAtOnce cX10_isYearsAtOnce 1 (some .boolean)) 0 0 args h n r mc ms
abbrev mX10_isSettingWith : eMI := (cX10_isSettingWith, 3, (some .boolean), RX10, "isSettingWith", 0, 0, [], none)
abbrev kX10_isSettingWith (args : List Value) (h : eH) (n : Nat) (r : eRes) (mc ms : Nat) : Prop := eM yX10_isSettingWith (.code yX10_isSettingWith cX10_isSettingWith 3 (some .boolean)) 0 0 args h n r mc ms
abbrev mL_draw : eMI := (cL_draw, 2, (some .int), RL, "draw", 0, 0, [], none)
abbrev kL_draw (args : List Value) (h : eH) (n : Nat) (r : eRes) (mc ms : Nat) : Prop := eM yL_draw (.code yL_draw cL_draw 2 (some .int)) 0 0 args h n r mc ms
abbrev mL_in : eMI := (cL_in, 6, (some .boolean), RL, "in", 0, 0, [], none)
abbrev kL_in (args : List Value) (h : eH) (n : Nat) (r : eRes) (mc ms : Nat) : Prop := eM yL_in (.code yL_in cL_in 6 (some .boolean)) 0 0 args h n r mc ms
abbrev mL_append : eMI := (cL_append, 3, (some .long), RL, "append", 7, 111, tableOf [(0, 6, 7, 15), (0, 6, 12, 19)], none)
abbrev kL_append (args : List Value) (h : eH) (n : Nat) (r : eRes) (mc ms : Nat) : Prop := eM yL_append (.codeWith yL_append cL_append 3 (some .long) [(0, 6, 7, 15), (0, 6, 12, 19)]) 7 111 args h n r mc ms
abbrev mL_load : eMI := (cL_load, 2, (some .long), RL, "load", 7, 164, tableOf [(0, 5, 6, 19)], none)
abbrev kL_load (args : List Value) (h : eH) (n : Nat) (r : eRes) (mc ms : Nat) : Prop := eM yL_load (.codeWith yL_load cL_load 2 (some .long) [(0, 5, 6, 19)]) 7 164 args h n r mc ms
abbrev mL_about : eMI := (cL_about, 3, (some .long), RL, "about", 7, 111, tableOf [(0, 6, 7, 15)], none)
abbrev kL_about (args : List Value) (h : eH) (n : Nat) (r : eRes) (mc ms : Nat) : Prop := eM yL_about (.codeWith yL_about cL_about 3 (some .long) [(0, 6, 7, 15)]) 7 111 args h n r mc ms
abbrev mL_personOf : eMI := (cL_personOf, 4, (some .long), RL, "personOf", 8, 133, tableOf [(0, 7, 8, 34), (0, 7, 13, 15)], none)
abbrev kL_personOf (args : List Value) (h : eH) (n : Nat) (r : eRes) (mc ms : Nat) : Prop := eM yL_personOf (.codeWith yL_personOf cL_personOf 4 (some .long) [(0, 7, 8, 34), (0, 7, 13, 15)]) 8 133 args h n r mc ms
abbrev mL_nameOf : eMI := (cL_nameOf, 4, (some .long), RL, "nameOf", 8, 133, tableOf [(0, 7, 8, 34), (0, 7, 13, 15)], none)
abbrev kL_nameOf (args : List Value) (h : eH) (n : Nat) (r : eRes) (mc ms : Nat) : Prop := eM yL_nameOf (.codeWith yL_nameOf cL_nameOf 4 (some .long) [(0, 7, 8, 34), (0, 7, 13, 15)]) 8 133 args h n r mc ms
abbrev mL_letter : eMI := (cL_letter, 4, (some .long), RL, "letter", 8, 133, tableOf [(0, 7, 8, 34)], none)
abbrev kL_letter (args : List Value) (h : eH) (n : Nat) (r : eRes) (mc ms : Nat) : Prop := eM yL_letter (.codeWith yL_letter cL_letter 4 (some .long) [(0, 7, 8, 34)]) 8 133 args h n r mc ms
abbrev mL_roll : eMI := (cL_roll, 3, (some .long), RL, "roll", 7, 115, tableOf [(0, 6, 7, 15)], none)
abbrev kL_roll (args : List Value) (h : eH) (n : Nat) (r : eRes) (mc ms : Nat) : Prop := eM yL_roll (.codeWith yL_roll cL_roll 3 (some .long) [(0, 6, 7, 15)]) 7 115 args h n r mc ms
abbrev mL_meant : eMI := (cL_meant, 6, (some .long), RL, "meant", 8, 135, tableOf [(0, 10, 11, 34), (0, 10, 17, 15)], none)
abbrev kL_meant (args : List Value) (h : eH) (n : Nat) (r : eRes) (mc ms : Nat) : Prop := eM yL_meant (.codeWith yL_meant cL_meant 6 (some .long) [(0, 10, 11, 34), (0, 10, 17, 15)]) 8 135 args h n r mc ms
abbrev mL_person : eMI := (cL_person, 5, (some .long), RL, "person", 8, 146, tableOf [(0, 8, 9, 34), (0, 8, 15, 15), (0, 8, 21, 19)], none)
abbrev kL_person (args : List Value) (h : eH) (n : Nat) (r : eRes) (mc ms : Nat) : Prop := eM yL_person (.codeWith yL_person cL_person 5 (some .long) [(0, 8, 9, 34), (0, 8, 15, 15), (0, 8, 21, 19)]) 8 146 args h n r mc ms
abbrev mL_sit : eMI := (cL_sit, 4, (some .long), RL, "sit", 8, 146, tableOf [(0, 7, 8, 34), (0, 7, 13, 19)], none)
abbrev kL_sit (args : List Value) (h : eH) (n : Nat) (r : eRes) (mc ms : Nat) : Prop := eM yL_sit (.codeWith yL_sit cL_sit 4 (some .long) [(0, 7, 8, 34), (0, 7, 13, 19)]) 8 146 args h n r mc ms
abbrev mL_give : eMI := (cL_give, 6, (some .long), RL, "give", 8, 148, tableOf [(0, 10, 11, 34), (0, 10, 17, 15)], none)
abbrev kL_give (args : List Value) (h : eH) (n : Nat) (r : eRes) (mc ms : Nat) : Prop := eM yL_give (.codeWith yL_give cL_give 6 (some .long) [(0, 10, 11, 34), (0, 10, 17, 15)]) 8 148 args h n r mc ms
abbrev mL_call : eMI := (cL_call, 5, (some .long), RL, "call", 8, 147, tableOf [(0, 8, 9, 34), (0, 8, 15, 15)], none)
abbrev kL_call (args : List Value) (h : eH) (n : Nat) (r : eRes) (mc ms : Nat) : Prop := eM yL_call (.codeWith yL_call cL_call 5 (some .long) [(0, 8, 9, 34), (0, 8, 15, 15)]) 8 147 args h n r mc ms
abbrev mL_years : eMI := (cL_years, 3, (some .long), RL, "years", 7, 144, tableOf [(0, 6, 7, 15), (0, 6, 12, 19)], none)
abbrev kL_years (args : List Value) (h : eH) (n : Nat) (r : eRes) (mc ms : Nat) : Prop := eM yL_years (.codeWith yL_years cL_years 3 (some .long) [(0, 6, 7, 15), (0, 6, 12, 19)]) 7 144 args h n r mc ms
abbrev mL_set : eMI := (cL_set, 4, (some .long), RL, "set", 7, 146, tableOf [(0, 7, 8, 15)], none)
abbrev kL_set (args : List Value) (h : eH) (n : Nat) (r : eRes) (mc ms : Nat) : Prop := eM yL_set (.codeWith yL_set cL_set 4 (some .long) [(0, 7, 8, 15)]) 7 146 args h n r mc ms
abbrev mL_undo : eMI := (cL_undo, 2, (some .long), RL, "undo", 7, 143, tableOf [(0, 5, 6, 19)], none)
abbrev kL_undo (args : List Value) (h : eH) (n : Nat) (r : eRes) (mc ms : Nat) : Prop := eM yL_undo (.codeWith yL_undo cL_undo 2 (some .long) [(0, 5, 6, 19)]) 7 143 args h n r mc ms
abbrev mL_why : eMI := (cL_why, 6, (some .long), RL, "why", 8, 135, tableOf [(0, 10, 11, 34), (0, 10, 17, 15)], none)
abbrev kL_why (args : List Value) (h : eH) (n : Nat) (r : eRes) (mc ms : Nat) : Prop := eM yL_why (.codeWith yL_why cL_why 6 (some .long) [(0, 10, 11, 34), (0, 10, 17, 15)]) 8 135 args h n r mc ms
abbrev mL_endsIn : eMI := (cL_endsIn, 3, (some .long), RL, "endsIn", 8, 132, tableOf [(0, 6, 7, 34)], none)
abbrev kL_endsIn (args : List Value) (h : eH) (n : Nat) (r : eRes) (mc ms : Nat) : Prop := eM yL_endsIn (.codeWith yL_endsIn cL_endsIn 3 (some .long) [(0, 6, 7, 34)]) 8 132 args h n r mc ms
abbrev mL_bestName : eMI := (cL_bestName, 5, (some .long), RL, "bestName", 8, 144, tableOf [(0, 8, 9, 34), (0, 8, 15, 15)], none)
abbrev kL_bestName (args : List Value) (h : eH) (n : Nat) (r : eRes) (mc ms : Nat) : Prop := eM yL_bestName (.codeWith yL_bestName cL_bestName 5 (some .long) [(0, 8, 9, 34), (0, 8, 15, 15)]) 8 144 args h n r mc ms
abbrev mL_script : eMI := (cL_script, 5, (some .long), RL, "script", 7, 170, tableOf [(0, 7, 8, 15)], none)
abbrev kL_script (args : List Value) (h : eH) (n : Nat) (r : eRes) (mc ms : Nat) : Prop := eM yL_script (.codeWith yL_script cL_script 5 (some .long) [(0, 7, 8, 15)]) 7 170 args h n r mc ms
abbrev mL_simulate : eMI := (cL_simulate, 5, (some .long), RL, "simulate", 7, 168, tableOf [(0, 7, 8, 15)], none)
abbrev kL_simulate (args : List Value) (h : eH) (n : Nat) (r : eRes) (mc ms : Nat) : Prop := eM yL_simulate (.codeWith yL_simulate cL_simulate 5 (some .long) [(0, 7, 8, 15)]) 7 168 args h n r mc ms
abbrev mL_save : eMI := (cL_save, 3, (some .long), RL, "save", 8, 131, tableOf [(0, 6, 7, 34)], none)
abbrev kL_save (args : List Value) (h : eH) (n : Nat) (r : eRes) (mc ms : Nat) : Prop := eM yL_save (.codeWith yL_save cL_save 3 (some .long) [(0, 6, 7, 34)]) 8 131 args h n r mc ms
abbrev mL_restore : eMI := (cL_restore, 3, (some .long), RL, "restore", 8, 131, tableOf [(0, 6, 7, 34), (0, 6, 12, 19)], none)
abbrev kL_restore (args : List Value) (h : eH) (n : Nat) (r : eRes) (mc ms : Nat) : Prop := eM yL_restore (.codeWith yL_restore cL_restore 3 (some .long) [(0, 6, 7, 34), (0, 6, 12, 19)]) 8 131 args h n r mc ms
abbrev mL_now : eMI := (cL_now, 5, (some .long), RL, "now", 9, 156, [], none)
abbrev kL_now (args : List Value) (h : eH) (n : Nat) (r : eRes) (mc ms : Nat) : Prop := eM yL_now (.code yL_now cL_now 5 (some .long)) 9 156 args h n r mc ms
abbrev mL_errors : eMI := (cL_errors, 6, (some .boolean), RL, "errors", 10, 194, [], none)
abbrev kL_errors (args : List Value) (h : eH) (n : Nat) (r : eRes) (mc ms : Nat) : Prop := eM yL_errors (.code yL_errors cL_errors 6 (some .boolean)) 10 194 args h n r mc ms
abbrev mL_kept : eMI := (cL_kept, 24, (some .boolean), RL, "kept", 9, 160, [], none)
abbrev kL_kept (args : List Value) (h : eH) (n : Nat) (r : eRes) (mc ms : Nat) : Prop := eM yL_kept (.code yL_kept cL_kept 24 (some .boolean)) 9 160 args h n r mc ms
abbrev mL_follows : eMI := (cL_follows, 17, (some .boolean), RL, "follows", 10, 192, [], none)
abbrev kL_follows (args : List Value) (h : eH) (n : Nat) (r : eRes) (mc ms : Nat) : Prop := eM yL_follows (.code yL_follows cL_follows 17 (some .boolean)) 10 192 args h n r mc ms
abbrev mL_alike : eMI := (cL_alike, 3, (some .boolean), RL, "alike", 10, 194, [], none)
abbrev kL_alike (args : List Value) (h : eH) (n : Nat) (r : eRes) (mc ms : Nat) : Prop := eM yL_alike (.code yL_alike cL_alike 3 (some .boolean)) 10 194 args h n r mc ms
abbrev mL_says : eMI := (cL_says, 5, (some .boolean), RL, "says", 8, 133, [], none)
abbrev kL_says (args : List Value) (h : eH) (n : Nat) (r : eRes) (mc ms : Nat) : Prop := eM yL_says (.code yL_says cL_says 5 (some .boolean)) 8 133 args h n r mc ms
abbrev mL_told : eMI := (cL_told, 5, (some .boolean), RL, "told", 9, 157, [], none)
abbrev kL_told (args : List Value) (h : eH) (n : Nat) (r : eRes) (mc ms : Nat) : Prop := eM yL_told (.code yL_told cL_told 5 (some .boolean)) 9 157 args h n r mc ms
abbrev mL_act : eMI := (cL_act, 4, (some .long), RL, "act", 9, 173, [], none)
abbrev kL_act (args : List Value) (h : eH) (n : Nat) (r : eRes) (mc ms : Nat) : Prop := eM yL_act (.code yL_act cL_act 4 (some .long)) 9 173 args h n r mc ms
theorem pn_X0 : plainName RX0 = true := by decide +kernel
theorem pn_X1 : plainName RX1 = true := by decide +kernel
theorem pn_X2 : plainName RX2 = true := by decide +kernel
theorem pn_X3 : plainName RX3 = true := by decide +kernel
theorem pn_X4 : plainName RX4 = true := by decide +kernel
theorem pn_X5 : plainName RX5 = true := by decide +kernel
theorem pn_X6 : plainName RX6 = true := by decide +kernel
theorem pn_X7 : plainName RX7 = true := by decide +kernel
theorem pn_X8 : plainName RX8 = true := by decide +kernel
theorem pn_X9 : plainName RX9 = true := by decide +kernel
theorem pn_X10 : plainName RX10 = true := by decide +kernel
theorem pn_X11 : plainName RX11 = true := by decide +kernel
theorem pn_L : plainName RL = true := by decide +kernel
set_option maxRecDepth 20000 in
theorem th_X10_51 : ∀ w ∈ vx_atS RX10 51 "java/lang/IllegalArgumentException" ["java/lang/RuntimeException", "java/lang/Exception"], w ∈ eW ∨ w ∈ eX := by
  intro w hw
  have h := List.all_eq_true.mp (show (vx_atS RX10 51 "java/lang/IllegalArgumentException" ["java/lang/RuntimeException", "java/lang/Exception"]).all (fun w => (decide (w ∈ tables_1) || decide (w ∈ k2_sels lw_privs)) && (goodWord w || eWarm w)) = true by decide +kernel) w hw
  rw [Bool.and_eq_true, Bool.or_eq_true, Bool.or_eq_true, decide_eq_true_eq, decide_eq_true_eq] at h
  have hm : w ∈ lw_tbl := h.1.elim (fun g => List.mem_append_right _ g) (fun g => List.mem_append_left _ g)
  exact h.2.imp (fun g => List.mem_filter.mpr ⟨hm, g⟩) (fun g => List.mem_filter.mpr ⟨hm, g⟩)
theorem tg_X10_47_51 : ∀ w ∈ Cond.classLink RX10 47 "java/lang/IllegalArgumentException" :: Cond.initialized "java/lang/IllegalArgumentException" :: vx_atS RX10 51 "java/lang/IllegalArgumentException" ["java/lang/RuntimeException", "java/lang/Exception"], vx_ot w = true := List.all_eq_true.mp (by decide +kernel)
set_option maxRecDepth 20000 in
theorem th_X10_62 : ∀ w ∈ vx_atS RX10 62 "java/lang/IllegalStateException" ["java/lang/RuntimeException", "java/lang/Exception"], w ∈ eW ∨ w ∈ eX := by
  intro w hw
  have h := List.all_eq_true.mp (show (vx_atS RX10 62 "java/lang/IllegalStateException" ["java/lang/RuntimeException", "java/lang/Exception"]).all (fun w => (decide (w ∈ tables_1) || decide (w ∈ k2_sels lw_privs)) && (goodWord w || eWarm w)) = true by decide +kernel) w hw
  rw [Bool.and_eq_true, Bool.or_eq_true, Bool.or_eq_true, decide_eq_true_eq, decide_eq_true_eq] at h
  have hm : w ∈ lw_tbl := h.1.elim (fun g => List.mem_append_right _ g) (fun g => List.mem_append_left _ g)
  exact h.2.imp (fun g => List.mem_filter.mpr ⟨hm, g⟩) (fun g => List.mem_filter.mpr ⟨hm, g⟩)
theorem tg_X10_58_62 : ∀ w ∈ Cond.classLink RX10 58 "java/lang/IllegalStateException" :: Cond.initialized "java/lang/IllegalStateException" :: vx_atS RX10 62 "java/lang/IllegalStateException" ["java/lang/RuntimeException", "java/lang/Exception"], vx_ot w = true := List.all_eq_true.mp (by decide +kernel)
set_option maxRecDepth 20000 in
theorem th_X10_199 : ∀ w ∈ vx_atS RX10 199 "java/lang/IndexOutOfBoundsException" ["java/lang/RuntimeException", "java/lang/Exception"], w ∈ eW ∨ w ∈ eX := by
  intro w hw
  have h := List.all_eq_true.mp (show (vx_atS RX10 199 "java/lang/IndexOutOfBoundsException" ["java/lang/RuntimeException", "java/lang/Exception"]).all (fun w => (decide (w ∈ tables_1) || decide (w ∈ k2_sels lw_privs)) && (goodWord w || eWarm w)) = true by decide +kernel) w hw
  rw [Bool.and_eq_true, Bool.or_eq_true, Bool.or_eq_true, decide_eq_true_eq, decide_eq_true_eq] at h
  have hm : w ∈ lw_tbl := h.1.elim (fun g => List.mem_append_right _ g) (fun g => List.mem_append_left _ g)
  exact h.2.imp (fun g => List.mem_filter.mpr ⟨hm, g⟩) (fun g => List.mem_filter.mpr ⟨hm, g⟩)
theorem tg_X10_195_199 : ∀ w ∈ Cond.classLink RX10 195 "java/lang/IndexOutOfBoundsException" :: Cond.initialized "java/lang/IndexOutOfBoundsException" :: vx_atS RX10 199 "java/lang/IndexOutOfBoundsException" ["java/lang/RuntimeException", "java/lang/Exception"], vx_ot w = true := List.all_eq_true.mp (by decide +kernel)
end
