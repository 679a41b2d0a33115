section LRules
variable {M : eMI} {pc : Nat} {lv : List (Nat × Value)} {st : List Value} {w : eH × Nat × Nat × Nat} {r : eRes} {mc ms : Nat}
theorem ev_ishr {x y : Int32} (d : decode M.1 pc = .ok (.ishr, 1)) (k : eV M (pc + 1) lv (.int (x >>> (y &&& 31)) :: st) w r mc ms) : eV M pc lv (.int y :: .int x :: st) w r mc ms := fun l D cy B p e s m args below meth c H locs arr K hl => lv_ishr K.2.1 K.2.2.1 d (k l D cy B p e s m args below meth c H locs arr K hl)
theorem ev_lc_eq {x y : Int64} {off : Int} {tgt : Nat} (d : decode M.1 pc = .ok (.lcmp, 1)) (d2 : decode M.1 (pc + 1) = .ok (.ifCond .eq off, 3)) (ht : ((pc + 1 : Nat) : Int) + off = (tgt : Int)) (kt : x = y → eV M tgt lv st w r mc ms) (kf : ¬ x = y → eV M (pc + 4) lv st w r mc ms) : eV M pc lv (.long y :: .long x :: st) w r mc ms :=
  ev_lcmp d (ev_if_eq d2 ht (fun q => kt ((lg_cmp_eq x y).mp q)) (fun q => kf (fun z => q ((lg_cmp_eq x y).mpr z))))
theorem ev_lc_ne {x y : Int64} {off : Int} {tgt : Nat} (d : decode M.1 pc = .ok (.lcmp, 1)) (d2 : decode M.1 (pc + 1) = .ok (.ifCond .ne off, 3)) (ht : ((pc + 1 : Nat) : Int) + off = (tgt : Int)) (kt : ¬ x = y → eV M tgt lv st w r mc ms) (kf : x = y → eV M (pc + 4) lv st w r mc ms) : eV M pc lv (.long y :: .long x :: st) w r mc ms :=
  ev_lcmp d (ev_if_ne d2 ht (fun q => kt (fun z => q ((lg_cmp_eq x y).mpr z))) (fun q => kf ((lg_cmp_eq x y).mp q)))
theorem ev_lc_lt {x y : Int64} {off : Int} {tgt : Nat} (d : decode M.1 pc = .ok (.lcmp, 1)) (d2 : decode M.1 (pc + 1) = .ok (.ifCond .lt off, 3)) (ht : ((pc + 1 : Nat) : Int) + off = (tgt : Int)) (kt : x < y → eV M tgt lv st w r mc ms) (kf : ¬ x < y → eV M (pc + 4) lv st w r mc ms) : eV M pc lv (.long y :: .long x :: st) w r mc ms :=
  ev_lcmp d (ev_if_lt d2 ht (fun q => kt ((lg_cmp_lt x y).mp q)) (fun q => kf (fun z => q ((lg_cmp_lt x y).mpr z))))
theorem ev_lc_ge {x y : Int64} {off : Int} {tgt : Nat} (d : decode M.1 pc = .ok (.lcmp, 1)) (d2 : decode M.1 (pc + 1) = .ok (.ifCond .ge off, 3)) (ht : ((pc + 1 : Nat) : Int) + off = (tgt : Int)) (kt : y ≤ x → eV M tgt lv st w r mc ms) (kf : ¬ y ≤ x → eV M (pc + 4) lv st w r mc ms) : eV M pc lv (.long y :: .long x :: st) w r mc ms :=
  ev_lcmp d (ev_if_ge d2 ht (fun q => kt ((lg_cmp_ge x y).mp q)) (fun q => kf (fun z => q ((lg_cmp_ge x y).mpr z))))
theorem ev_lc_gt {x y : Int64} {off : Int} {tgt : Nat} (d : decode M.1 pc = .ok (.lcmp, 1)) (d2 : decode M.1 (pc + 1) = .ok (.ifCond .gt off, 3)) (ht : ((pc + 1 : Nat) : Int) + off = (tgt : Int)) (kt : y < x → eV M tgt lv st w r mc ms) (kf : ¬ y < x → eV M (pc + 4) lv st w r mc ms) : eV M pc lv (.long y :: .long x :: st) w r mc ms :=
  ev_lcmp d (ev_if_gt d2 ht (fun q => kt ((lg_cmp_gt x y).mp q)) (fun q => kf (fun z => q ((lg_cmp_gt x y).mpr z))))
theorem ev_lc_le {x y : Int64} {off : Int} {tgt : Nat} (d : decode M.1 pc = .ok (.lcmp, 1)) (d2 : decode M.1 (pc + 1) = .ok (.ifCond .le off, 3)) (ht : ((pc + 1 : Nat) : Int) + off = (tgt : Int)) (kt : x ≤ y → eV M tgt lv st w r mc ms) (kf : ¬ x ≤ y → eV M (pc + 4) lv st w r mc ms) : eV M pc lv (.long y :: .long x :: st) w r mc ms :=
  ev_lcmp d (ev_if_le d2 ht (fun q => kt ((lg_cmp_le x y).mp q)) (fun q => kf (fun z => q ((lg_cmp_le x y).mpr z))))
theorem ev_lcN_eq {a b : Nat} {off : Int} {tgt : Nat} (d : decode M.1 pc = .ok (.lcmp, 1)) (d2 : decode M.1 (pc + 1) = .ok (.ifCond .eq off, 3)) (ht : ((pc + 1 : Nat) : Int) + off = (tgt : Int)) (ha : a < 2 ^ 63) (hb : b < 2 ^ 63) (kt : a = b → eV M tgt lv st w r mc ms) (kf : ¬ a = b → eV M (pc + 4) lv st w r mc ms) : eV M pc lv (.long (lN b) :: .long (lN a) :: st) w r mc ms :=
  ev_lc_eq d d2 ht (fun q => kt ((pk_lEQ ha hb).mp q)) (fun q => kf (fun z => q ((pk_lEQ ha hb).mpr z)))
theorem ev_lcN_ne {a b : Nat} {off : Int} {tgt : Nat} (d : decode M.1 pc = .ok (.lcmp, 1)) (d2 : decode M.1 (pc + 1) = .ok (.ifCond .ne off, 3)) (ht : ((pc + 1 : Nat) : Int) + off = (tgt : Int)) (ha : a < 2 ^ 63) (hb : b < 2 ^ 63) (kt : ¬ a = b → eV M tgt lv st w r mc ms) (kf : a = b → eV M (pc + 4) lv st w r mc ms) : eV M pc lv (.long (lN b) :: .long (lN a) :: st) w r mc ms :=
  ev_lc_ne d d2 ht (fun q => kt (fun z => q ((pk_lEQ ha hb).mpr z))) (fun q => kf ((pk_lEQ ha hb).mp q))
theorem ev_lcN_lt {a b : Nat} {off : Int} {tgt : Nat} (d : decode M.1 pc = .ok (.lcmp, 1)) (d2 : decode M.1 (pc + 1) = .ok (.ifCond .lt off, 3)) (ht : ((pc + 1 : Nat) : Int) + off = (tgt : Int)) (ha : a < 2 ^ 63) (hb : b < 2 ^ 63) (kt : a < b → eV M tgt lv st w r mc ms) (kf : b ≤ a → eV M (pc + 4) lv st w r mc ms) : eV M pc lv (.long (lN b) :: .long (lN a) :: st) w r mc ms :=
  ev_lc_lt d d2 ht (fun q => kt ((pk_lLT ha hb).mp q)) (fun q => kf (Nat.not_lt.mp (fun z => q ((pk_lLT ha hb).mpr z))))
theorem ev_lcN_ge {a b : Nat} {off : Int} {tgt : Nat} (d : decode M.1 pc = .ok (.lcmp, 1)) (d2 : decode M.1 (pc + 1) = .ok (.ifCond .ge off, 3)) (ht : ((pc + 1 : Nat) : Int) + off = (tgt : Int)) (ha : a < 2 ^ 63) (hb : b < 2 ^ 63) (kt : b ≤ a → eV M tgt lv st w r mc ms) (kf : a < b → eV M (pc + 4) lv st w r mc ms) : eV M pc lv (.long (lN b) :: .long (lN a) :: st) w r mc ms :=
  ev_lc_ge d d2 ht (fun q => kt ((pk_lLE hb ha).mp q)) (fun q => kf (Nat.not_le.mp (fun z => q ((pk_lLE hb ha).mpr z))))
theorem ev_lcN_gt {a b : Nat} {off : Int} {tgt : Nat} (d : decode M.1 pc = .ok (.lcmp, 1)) (d2 : decode M.1 (pc + 1) = .ok (.ifCond .gt off, 3)) (ht : ((pc + 1 : Nat) : Int) + off = (tgt : Int)) (ha : a < 2 ^ 63) (hb : b < 2 ^ 63) (kt : b < a → eV M tgt lv st w r mc ms) (kf : a ≤ b → eV M (pc + 4) lv st w r mc ms) : eV M pc lv (.long (lN b) :: .long (lN a) :: st) w r mc ms :=
  ev_lc_gt d d2 ht (fun q => kt ((pk_lLT hb ha).mp q)) (fun q => kf (Nat.not_lt.mp (fun z => q ((pk_lLT hb ha).mpr z))))
theorem ev_lcN_le {a b : Nat} {off : Int} {tgt : Nat} (d : decode M.1 pc = .ok (.lcmp, 1)) (d2 : decode M.1 (pc + 1) = .ok (.ifCond .le off, 3)) (ht : ((pc + 1 : Nat) : Int) + off = (tgt : Int)) (ha : a < 2 ^ 63) (hb : b < 2 ^ 63) (kt : a ≤ b → eV M tgt lv st w r mc ms) (kf : b < a → eV M (pc + 4) lv st w r mc ms) : eV M pc lv (.long (lN b) :: .long (lN a) :: st) w r mc ms :=
  ev_lc_le d d2 ht (fun q => kt ((pk_lLE ha hb).mp q)) (fun q => kf (Nat.not_le.mp (fun z => q ((pk_lLE ha hb).mpr z))))
theorem ev_lcS_ne {x y : Int64} {off : Int} {tgt : Nat} (d : decode M.1 pc = .ok (.lcmp, 1)) (d2 : decode M.1 (pc + 1) = .ok (.ifCond .ne off, 3)) (ht : ((pc + 1 : Nat) : Int) + off = (tgt : Int)) (h : x = y) (k : eV M (pc + 4) lv st w r mc ms) : eV M pc lv (.long y :: .long x :: st) w r mc ms := ev_lc_ne d d2 ht (fun q => absurd h q) (fun _ => k)
theorem ev_icS_ne {x y : Int32} {off : Int} {tgt : Nat} (d : decode M.1 pc = .ok (.if_icmp .ne off, 3)) (ht : (pc : Int) + off = (tgt : Int)) (h : x = y) (k : eV M (pc + 3) lv st w r mc ms) : eV M pc lv (.int y :: .int x :: st) w r mc ms := ev_icmp_ne d ht (fun q => absurd h q) (fun _ => k)
theorem eRn {P : Nat → eH → Prop} {h : eH} {nn : Option Nat} (k : ∀ n1 : Nat, P n1 h) : ∀ (n1 : Nat) (g : eH), (∀ z, nn = some z → n1 = z) → (fun x => x = h) g → P n1 g := fun n1 g _ e => e ▸ k n1
theorem ev_callSN {h : eH} {h1 : eH → Prop} {n c0 s0 mc1 ms1 idx : Nat} {y : MethodName} {bytes : ByteArray} {maxL fr1 lo1 : Nat} {ret : Option FieldType} {As rest : List Value} {v : Value} {nn : Option Nat} (d : decode M.1 pc = .ok (.invokestatic idx, 3)) (hm : eM y (.code y bytes maxL ret) fr1 lo1 As h n (.inl (some v), h1, nn) mc1 ms1)
    (hk : eLS M.own idx y (.code y bytes maxL ret) As.length) (hroom : fr1 + 1 ≤ M.fr ∧ 8 + (maxL + 11) + lo1 ≤ M.lo) (hst : st = As.reverse ++ rest) (hw : (rest.map fun v => v.category).sum ≤ 8) (hb : c0 + mc1 ≤ mc ∧ s0 + ms1 ≤ ms)
    (k : ∀ (n1 : Nat) (g : eH), (∀ z, nn = some z → n1 = z) → h1 g → eV M (pc + 3) lv (v :: rest) (g, n1, c0 + mc1, s0 + ms1) r mc ms) : eV M pc lv st (h, n, c0, s0) r mc ms := by
  intro l D cy B p e s m args below meth c H locs arr K hl T hT X
  have hrun := eRunS (e := e) (below := below) K hl hm hk hroom hst hw hb d
  rcases hrun T hT X with ⟨v9, st₀, t, T', L, h0, X', hL, e1, e2, ⟨⟨v8, hv, ho⟩, ⟨g, hg, hR⟩, hn, hF⟩, st9⟩ | ⟨q, st₀, t, T', L, E, ce, h0, X', hL, e1, e2, ⟨hv, -⟩, -⟩
  · cases hv
    cases ho
    obtain ⟨t2, a1, b1⟩ := k t.heap.size g (fun z hz => hn z hz) hg l D cy B p e s m args below meth c T'.heap (locs ++ L) arr (K.back h0 e1 hL hF rfl hR) hl T' rfl X'
    exact ⟨t2, st9 t2 a1, b1⟩
  · cases hv
/-- as ev_callVi, the heap's size behind it unknown -/
theorem ev_callVn {h : eH} {h1 : eH → Prop} {n c0 s0 mc1 ms1 idx b ci : Nat} {q : vw_C} {fs : List Value} {y : MethodName} {bytes : ByteArray} {maxL fr1 lo1 : Nat} {ret : Option FieldType} {As rest : List Value} {v : Value} {nn : Option Nat} (d : decode M.1 pc = .ok (.invokevirtual idx, 3)) (hm : eM y (.code y bytes maxL ret) fr1 lo1 (.ref b :: As) h n (.inl (some v), h1, nn) mc1 ms1)
    (hq : vwCl[ci]? = some q) (hk : eLV M.own idx q.1 y (.code y bytes maxL ret) As.length) (ho : h b = some (.inr (ci, fs))) (hroom : fr1 + 1 ≤ M.fr ∧ 8 + (maxL + 11) + lo1 ≤ M.lo) (hst : st = As.reverse ++ .ref b :: rest) (hw : (rest.map fun v => v.category).sum ≤ 8) (hb : c0 + mc1 ≤ mc ∧ s0 + ms1 ≤ ms)
    (k : ∀ (n1 : Nat) (g : eH), (∀ z, nn = some z → n1 = z) → h1 g → eV M (pc + 3) lv (v :: rest) (g, n1, c0 + mc1, s0 + ms1) r mc ms) : eV M pc lv st (h, n, c0, s0) r mc ms := by
  intro l D cy B p e s m args below meth c H locs arr K hl T hT X
  have hrun := eRunV (e := e) (below := below) K hl hm hq hk ho hroom hst hw hb d
  rcases hrun T hT X with ⟨v9, st₀, t, T', L, h0, X', hL, e1, e2, ⟨⟨v8, hv, ho⟩, ⟨g, hg, hR⟩, hn, hF⟩, st9⟩ | ⟨q, st₀, t, T', L, E, ce, h0, X', hL, e1, e2, ⟨hv, -⟩, -⟩
  · cases hv
    cases ho
    obtain ⟨t2, a1, b1⟩ := k t.heap.size g (fun z hz => hn z hz) hg l D cy B p e s m args below meth c T'.heap (locs ++ L) arr (K.back h0 e1 hL hF rfl hR) hl T' rfl X'
    exact ⟨t2, st9 t2 a1, b1⟩
  · cases hv
/-! a method that is handed the script -/
def ePcS (D : va_G) (cy : Nat → ClassId) (B : Nat) (args : List Value) (h : eH) (n a L : Nat) (xs : Nat → Int32) : Array Value → State → Prop :=
  va_Pc args (fun U => eC D cy U ∧ eZ B U U.heap ∧ B ≤ U.heap.size ∧ U.heap.size = n ∧ eR D cy B h U.heap ∧ va_X a L xs U U.heap ∧ a < U.heap.size ∧ a < B)
def eMS (y : MethodName) (wd : Cond) (fr lo : Nat) (args : List Value) (h : eH) (n a L : Nat) (xs : Nat → Int32) (r : eRes) (mc ms : Nat) : Prop :=
  ∀ (l : Launch) (D : va_G) (cy : Nat → ClassId) (B : Nat), l.flags = flags0 →
    vx_Met l y (wd :: eW) ({ frames := fr, cells := mc, slots := ms, locals := lo }) (ePcS D cy B args h n a L xs) (eQc D cy B r) (eXc D cy B r) mc ms (fun q => B ≤ q)
theorem eMS.of {y : MethodName} {cc : ByteArray} {nL : Nat} {ret : Option FieldType} {fr lo : Nat} {args : List Value} {h : eH} {n a L : Nat} {xs : Nat → Int32} {r : eRes} {mc ms : Nat} (own mn : String) (lv : List (Nat × Value)) (hy : plainName y.cls = true) (hown : y.cls = own) (hmn : y.name = mn) (hlen : (lg_sl args).length ≤ nL) (he : lv_args 0 args = eff lv)
    (k : eV (cc, nL, ret, own, mn, fr, lo, [], some (a, L, xs)) 0 lv [] (h, n, 0, 0) r mc ms) : eMS y (.code y cc nL ret) fr lo args h n a L xs r mc ms := by
  subst hown
  subst hmn
  intro l D cy B hf
  refine vx_ofW hy rfl ?_
  intro p e s m args' below meth c s₁ Bd hml htb hv
  obtain ⟨rfl, q2, q3, q4, q5, q6, q7, q8, q9⟩ := hv
  have hts := atoms_spec (ws := Cond.code y cc nL ret :: eW) Bd.pre
  have hl := lv_entry args (n := nL) hlen
  rw [lg_entry_eq]
  rw [he] at hl
  exact k l D cy B p e s m args.toArray below meth c s.heap [] _ ⟨hf, Bd.exec, Bd.bytes, hml, Bd.returns, Bd.notSynchronized, List.eq_nil_iff_forall_not_mem.mpr htb, (name_of_methodNamed Bd.named Bd.method).1, findClass_of_methodNamed Bd.named, fun x hx => hts x (List.mem_cons_of_mem _ hx), q2, q3, q4, va_S.rf, q5, q6, fun q h9 => by cases h9; exact ⟨q7, q8, q9⟩⟩ hl
theorem ePcS_blind {D : va_G} {cy : Nat → ClassId} {B : Nat} {args : List Value} {h : eH} {n a L : Nat} {xs : Nat → Int32} : FrameBlind (ePcS D cy B args h n a L xs) := by
  intro a' U g mk ⟨q1, q2, q3, q4, q5, q6, q7, q8⟩
  exact ⟨q1, eC.same (u := U) (U := U.calling g mk a') rfl q2, ⟨vx_Zq.moved (u := U) (U := U.calling g mk a') (Vm.Alike.refl U.vm) q3.1, vx_Zq.moved (u := U) (U := U.calling g mk a') (Vm.Alike.refl U.vm) q3.2⟩, q4, q5, q6, va_X.moved (u := U) (U := U.calling g mk a') (Vm.Alike.refl U.vm) q7, q8⟩
theorem eK.preS {l : Launch} {D : va_G} {cy : Nat → ClassId} {B : Nat} {p : Program} {s : State} {m : MethodId} {args : Array Value} {meth : Method} {c : Code} {H : Heap} {locs : List Loc} {h : eH} {n c0 s0 a L : Nat} {xs : Nat → Int32} (K : eK M (h, n, c0, s0) l D cy B p s m args meth c H locs) (hs : M.sc = some (a, L, xs)) (As : List Value) :
    PreS s H (ePcS D cy B As h n a L xs) As := by
  obtain ⟨k1, k2, k3, k4, k5, k6, k7, k8, k9, k10, k11, k12, k13, k14, k15, k16, k17⟩ := K
  obtain ⟨hX, hbl, hbB⟩ := k17 _ hs
  refine ⟨ePcS_blind, fun U hU hW => ⟨rfl, k11.warm hW, ?_, ?_, ?_, ?_, ?_, ?_, hbB⟩⟩
  · rw [hU]; exact k12.warm hW.alike k14
  · rw [hU]; exact Nat.le_trans k13 k14.1
  · rw [hU]; exact k15
  · rw [hU]; exact k16
  · rw [hU]; exact va_X.moved hW.alike (hX.kept (k14.2.1 a hbl (Nat.not_le.mpr hbB)))
  · rw [hU]; exact Nat.lt_of_lt_of_le hbl k14.1
theorem ev_callSS {h : eH} {h1 : eH → Prop} {n c0 s0 mc1 ms1 idx a L : Nat} {xs : Nat → Int32} {y : MethodName} {bytes : ByteArray} {maxL fr1 lo1 : Nat} {ret : Option FieldType} {As rest : List Value} {v : Value} {nn : Option Nat} (d : decode M.1 pc = .ok (.invokestatic idx, 3)) (hs : M.sc = some (a, L, xs)) (hm : eMS y (.code y bytes maxL ret) fr1 lo1 As h n a L xs (.inl (some v), h1, nn) mc1 ms1)
    (hk : eLS M.own idx y (.code y bytes maxL ret) As.length) (hroom : fr1 + 1 ≤ M.fr ∧ 8 + (maxL + 11) + lo1 ≤ M.lo) (hst : st = As.reverse ++ rest) (hw : (rest.map fun v => v.category).sum ≤ 8) (hb : c0 + mc1 ≤ mc ∧ s0 + ms1 ≤ ms)
    (k : ∀ (n1 : Nat) (g : eH), (∀ z, nn = some z → n1 = z) → h1 g → eV M (pc + 3) lv (v :: rest) (g, n1, c0 + mc1, s0 + ms1) r mc ms) : eV M pc lv st (h, n, c0, s0) r mc ms := by
  intro l D cy B p e s m args below meth c H locs arr K hl T hT X
  obtain ⟨k1, k2, k3, k4, k5, k6, k7, k8, k9, k10, k11, k12, k13, k14, k15, k16, k17⟩ := id K
  obtain ⟨g1, g2, g3, g5, g7, g8, g9⟩ := hk
  have hrun := vx_runS (As := As) (rest := rest) (p := p) (e := e) (R := { frames := M.fr, cells := mc, slots := ms, locals := M.lo }) (below := below) (meth := meth) (H := H) (locs := locs) (cells := c0) (slots := s0) (g := F0 m pc arr st) ⟨k2, k3, k4, k9, k10⟩ (hm l D cy B k1)
    (va_cwS As.length k10 (eGood _ g5 [.methodLink M.own idx y, .static y, .initialized y.cls] (by
      intro w hw9
      simp only [List.mem_cons, List.not_mem_nil, or_false] at hw9
      rcases hw9 with rfl | rfl | rfl <;> assumption)) rfl rfl rfl ⟨g7, g8, g9⟩ hroom)
    (K.preS hs As) rfl rfl hl.1 hst (by show 2 * 0 + _ ≤ 8; omega) d hb
  rcases hrun T hT X with ⟨v9, st₀, t, T', L', h0, X', hL, e1, e2, ⟨⟨v8, hv, ho⟩, ⟨g, hg, hR⟩, hn, hF⟩, st9⟩ | ⟨q, st₀, t, T', L', E, ce, h0, X', hL, e1, e2, ⟨hv, -⟩, -⟩
  · cases hv
    cases ho
    obtain ⟨t2, a1, b1⟩ := k t.heap.size g (fun z hz => hn z hz) hg l D cy B p e s m args below meth c T'.heap (locs ++ L') arr (K.back h0 e1 hL hF rfl hR) hl T' rfl X'
    exact ⟨t2, st9 t2 a1, b1⟩
  · cases hv
theorem ev_sldN {b L i : Nat} {xs : Nat → Int32} (d : decode M.1 pc = .ok (.iaload, 1)) (hs : M.sc = some (b, L, xs)) (hi : i < L) (hL : L < 2 ^ 31) (k : eV M (pc + 1) lv (.int (xs i) :: st) w r mc ms) : eV M pc lv (.int (nI i) :: .ref b :: st) w r mc ms := by
  have e : (nI i).toNatClampNeg = i := by
    have q := nI_toInt (n := i) (by omega)
    show (nI i).toInt.toNat = i
    omega
  refine ev_sld d hs ?_ ?_
  · unfold vp_in
    rw [e]
    refine not_or.mpr ⟨fun q => ?_, by omega⟩
    have q := Int32.lt_iff_toInt_lt.mp q
    rw [nI_toInt (by omega)] at q
    have z : (0 : Int32).toInt = 0 := by decide
    omega
  · rw [e]
    exact k
end LRules
/-- an int without its sign is a natural -/
theorem draw_and (x : Int32) : ∃ k : Nat, k < 2 ^ 31 ∧ x &&& 2147483647 = nI k := by
  have h : 0 ≤ (x &&& 2147483647).toInt ∧ (x &&& 2147483647).toInt < (2 ^ 31 : Nat) := by
    refine ⟨?_, Int32.toInt_lt _⟩
    have e : (x &&& 2147483647).toBitVec.msb = false := by
      show (x.toBitVec &&& (2147483647 : Int32).toBitVec).msb = false
      rw [BitVec.msb_and, show (2147483647 : Int32).toBitVec.msb = false by decide, Bool.and_false]
    have q := BitVec.toInt_eq_toNat_of_msb e
    show 0 ≤ (x &&& 2147483647).toBitVec.toInt
    rw [q]
    exact Int.natCast_nonneg _
  obtain ⟨k, h1, h2, -⟩ := zN h
  exact ⟨k, h1, h2⟩
