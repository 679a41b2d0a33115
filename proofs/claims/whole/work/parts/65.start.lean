theorem ev_newJ {M : eMI} {pc : Nat} {lv : List (Nat × Value)} {st : List Value} {r : eRes} {mc ms n0 : Nat} {h : eH} {n c0 s0 : Nat} (d : decode M.1 pc = .ok (.newarray .long, 2)) (hn : n0 < 67108864) (hc : c0 + 1 ≤ mc) (hs : s0 + n0 ≤ ms)
    (k : eV M (pc + 2) lv (.ref n :: st) (eU h n (.inl (4, n0, .inr (.inl fun _ => 0))), n + 1, c0 + 1, s0 + n0) r mc ms) : eV M pc lv (.int (nI n0) :: st) (h, n, c0, s0) r mc ms :=
  ev_newarray (t := 4) (n0 := n0) (ty := .long) (x := (n0, .inr (.inl fun _ => 0))) d rfl wa_long (fun _ => rfl) (fun _ _ h => h) (fun _ => rfl) (nI_pos (by omega)) (nI_clamp (by omega)) (by show n0 * 8 ≤ _; omega) hc hs k
theorem eInv_new : eInv regNew 0 (fun _ => regNew) (fun _ => 0) (fun _ => regNew) (fun _ _ _ => 0) 0 := ⟨⟨eIv_new, sGd_new⟩, fun j hj => absurd hj (Nat.not_lt_zero j), fun i _ hu => absurd rfl hu⟩
set_option maxHeartbeats 1000000 in
theorem law_all {mn : String} {tb : List ExceptionTableEntry} {a b L : Nat} {xs : Nat → Int32} {r : eRes} (hL : L ≤ 2560) (h1 : r.1 = .inl (some (.int 1))) (h2 : ∀ g, r.2.1 g) (h3 : r.2.2 = none) : eV (mLw mn tb a L xs) 0 [(0, .ref a)] [] ((fun _ => none), b, 0, 0) r 601024 7293034 := by
  refine ev_new (ci := 7) (fs := [.null, .null, .null, .null, .null, .null]) dL_law_0 rfl wu_X10 tyX10_ok wk_L_8 wt_X10 wi_X10 (fun j hj => by
    have hj : j < 6 := hj
    rcases (by omega : j = 0 ∨ j = 1 ∨ j = 2 ∨ j = 3 ∨ j = 4 ∨ j = 5) with rfl | rfl | rfl | rfl | rfl | rfl <;> rfl) (Nat.le_of_ble_eq_true rfl) (Nat.le_of_ble_eq_true rfl) ?_
  refine ev_dup dL_law_3 rfl ?_
  refine ev_callI dL_law_4 (c_X10_init (eU_s _ _ _)) lk_L_88 ⟨Nat.le_of_ble_eq_true rfl, Nat.le_of_ble_eq_true rfl⟩ rfl (Nat.le_of_ble_eq_true rfl) ⟨Nat.le_of_ble_eq_true rfl, Nat.le_of_ble_eq_true rfl⟩ (fun g hg => ?_)
  obtain ⟨hO, -⟩ := hg
  refine ev_astore_n dL_law_7 rfl (Nat.le_of_ble_eq_true rfl) ?_
  refine ev_new (ci := 8) (fs := [.int (nI 0), .null, .null, .null, .null, .int (nI 0), .null, .null, .null, .null, .int (nI 0), .int (nI 0), .int (nI 0), .int (nI 0), .int (nI 0)]) dL_law_8 rfl wu_X11 tyX11_ok wk_L_89 wt_X11 wi_X11 (fun j hj => by
    have hj : j < 15 := hj
    rcases (by omega : j = 0 ∨ j = 1 ∨ j = 2 ∨ j = 3 ∨ j = 4 ∨ j = 5 ∨ j = 6 ∨ j = 7 ∨ j = 8 ∨ j = 9 ∨ j = 10 ∨ j = 11 ∨ j = 12 ∨ j = 13 ∨ j = 14) with rfl | rfl | rfl | rfl | rfl | rfl | rfl | rfl | rfl | rfl | rfl | rfl | rfl | rfl | rfl <;> rfl) (Nat.le_of_ble_eq_true rfl) (Nat.le_of_ble_eq_true rfl) ?_
  refine ev_dup dL_law_11 rfl ?_
  refine ev_callI dL_law_12 (c_X11_init (eU_s _ _ _)) lk_L_91 ⟨Nat.le_of_ble_eq_true rfl, Nat.le_of_ble_eq_true rfl⟩ rfl (Nat.le_of_ble_eq_true rfl) ⟨Nat.le_of_ble_eq_true rfl, Nat.le_of_ble_eq_true rfl⟩ (fun g2 hg2 => ?_)
  obtain ⟨hM, fr2⟩ := hg2
  have hO2 := hO.fr (g := g2) (fun q h1 h2 => (fr2 q (by omega)).trans (eU_n _ _ (by omega)))
  refine ev_astore_n dL_law_15 rfl (Nat.le_of_ble_eq_true rfl) ?_
  refine ev_iconst (v := nI 1) dL_law_16 rfl ?_
  refine ev_newJ dL_law_17 (Nat.le_of_ble_eq_true rfl) (Nat.le_of_ble_eq_true rfl) (Nat.le_of_ble_eq_true rfl) ?_
  refine ev_astore_n dL_law_19 rfl (Nat.le_of_ble_eq_true rfl) ?_
  refine ev_iconst (v := nI 0) dL_law_20 rfl ?_
  refine ev_istore dL_law_21 (Nat.le_of_ble_eq_true rfl) ?_
  refine eV.sub (lv' := lvL a b (5 * 0)) (lvL_in rfl rfl rfl rfl rfl) rfl ?_
  refine law_loop hL h1 h2 h3 513 0 _ _ _ _ rfl (by omega) ?_ (Nat.le_of_ble_eq_true rfl) (Nat.le_of_ble_eq_true rfl)
  exact ⟨regNew, _, _, _, _, _, _, _, hO2.fr (fun q h1 h2 => eU_n _ _ (by omega)), ⟨0, hM.fr (fun q h1 h2 => eU_n _ _ (by omega))⟩, ⟨_, eU_s _ _ _⟩, eInv_new⟩
theorem same_forget {s s' : State} {L : List Loc} {c n : Nat} (h : s.sameButNew s' L c n) (hL : ∀ q ∈ L, s.heap.size ≤ q.base) : s.sameButNew s' [] c n := by
  obtain ⟨h1, h2, h3, h4, h5, h6⟩ := h
  exact ⟨h1, h2, h3, h4, h5, fun a c hc => by
    obtain ⟨c', g1, g2, g3, g4⟩ := h6 a c hc
    exact ⟨c', g1, g2, g3, fun i _ => g4 i (fun hm => absurd (hL _ hm) (Nat.not_le.mpr (Array.getElem?_eq_some_iff.mp hc).1))⟩⟩
theorem eX_on {w : Cond} (h : eWarm w = true) : w.onTables = true := by
  cases w <;> first
    | rfl
    | (simp [eWarm] at h)
theorem arr_of {ty : FieldType} {s : State} {A : Array Value} (h : (Cond.arrayClass ty).before A s = true) (ho : ∀ C, ty ≠ .object C) (hr : ∀ cA, s.vm.findClass ("[" ++ ty.toString) = some cA → va_RA s cA ty) : ∃ cA, ArrOfT s cA ty ∧ va_RA s cA ty := by
  obtain ⟨c, k, comp, h1, h2, h3⟩ := Cond.arrayClass_spec h
  exact ⟨c, fun N z => ⟨(fun k h => by cases h), k, h2, comp, h3⟩, hr _ h1⟩
theorem arr_obj {C : String} {s : State} {A : Array Value} (h : (Cond.arrayOver (.object C)).before A s = true) : ∃ cA, ArrOfT s cA (.object C) ∧ va_RA s cA (.object C) := by
  obtain ⟨comp, c, k, h1, -, h2, h3, h4⟩ := Cond.arrayOver_spec h
  exact ⟨c, fun N z => ⟨(fun k h => by cases h), k, h2, comp, h3⟩, k, comp, h2, h3, h1, h4⟩
