theorem same_forget {s s' : State} {L : List Loc} {c n : Nat} (h : s.sameButNew s' L c n) (hL : ∀ q ∈ L, s.heap.size ≤ q.base) : s.sameButNew s' [] c n := by
  obtain ⟨h1, h2, h3, h4, h5, h6⟩ := h
  exact ⟨h1, h2, h3, h4, h5, fun a c hc => by
    obtain ⟨c', g1, g2, g3, g4⟩ := h6 a c hc
    exact ⟨c', g1, g2, g3, fun i _ => g4 i (fun hm => absurd (hL _ hm) (Nat.not_le.mpr (Array.getElem?_eq_some_iff.mp hc).1))⟩⟩
theorem eX_on {w : Cond} (h : eWarm w = true) : w.onTables = true := by
  cases w <;> first
    | rfl
    | (simp [eWarm] at h)
theorem arr_of {ty : FieldType} {s : State} {A : Array Value} (h : (Cond.arrayClass ty).before A s = true) (ho : ∀ C, ty ≠ .object C) (hr : ∀ cA, s.vm.findClass ("[" ++ ty.toString) = some cA → va_RA s cA ty) : ∃ cA, ArrOfT s cA ty ∧ va_RA s cA ty := by
  obtain ⟨c, k, comp, h1, h2, h3⟩ := Cond.arrayClass_spec h
  exact ⟨c, fun N z => ⟨(fun k h => by cases h), k, h2, comp, h3⟩, hr _ h1⟩
theorem arr_obj {C : String} {s : State} {A : Array Value} (h : (Cond.arrayOver (.object C)).before A s = true) : ∃ cA, ArrOfT s cA (.object C) ∧ va_RA s cA (.object C) := by
  obtain ⟨comp, c, k, h1, -, h2, h3, h4⟩ := Cond.arrayOver_spec h
  exact ⟨c, fun N z => ⟨(fun k h => by cases h), k, h2, comp, h3⟩, k, comp, h2, h3, h1, h4⟩
theorem eK_cls {s : State} {A : Array Value} (hE : ∀ w ∈ eW, w.before A s = true) : ∀ (c : Nat) (q : vw_C), vwCl[c]? = some q → ∃ (cC : ClassId) (iS : Nat → Nat), u_Kn s q.1 q.2.1 q.2.2 cC iS := by
  intro c q hq
  match c, hq with
  | 0, hq => cases hq; exact u_known hE wu_X1 (hE _ wt_X1)
  | 1, hq => cases hq; exact u_known hE wu_X2 (hE _ wt_X2)
  | 2, hq => cases hq; exact u_known hE wu_X3 (hE _ wt_X3)
  | 3, hq => cases hq; exact u_known hE wu_X4 (hE _ wt_X4)
  | 4, hq => cases hq; exact u_known hE wu_X5 (hE _ wt_X5)
  | 5, hq => cases hq; exact u_known hE wu_X8 (hE _ wt_X8)
  | 6, hq => cases hq; exact u_known hE wu_X9 (hE _ wt_X9)
  | 7, hq => cases hq; exact u_known hE wu_X10 (hE _ wt_X10)
  | c + 8, hq => simp [vwCl] at hq
theorem eK_dec {s : State} {A : Array Value} (hE : ∀ w ∈ eW, w.before A s = true) : ∃ D : va_G, ∀ (c : Nat) (q : vw_C), vwCl[c]? = some q → u_Kn s q.1 q.2.1 q.2.2 (D.1 c) (D.2 c) := by
  have h : ∀ k : Nat, ∃ p : ClassId × (Nat → Nat), ∀ q : vw_C, vwCl[k]? = some q → u_Kn s q.1 q.2.1 q.2.2 p.1 p.2 := by
    intro k
    cases e : vwCl[k]? with
    | none => exact ⟨((0 : Nat), fun _ => 0), fun q hq => nomatch hq⟩
    | some q =>
      obtain ⟨cC, iS, h⟩ := eK_cls hE k q e
      exact ⟨(cC, iS), fun q' hq' => by cases hq'; exact h⟩
  exact ⟨(fun k => (Classical.choose (h k)).1, fun k => (Classical.choose (h k)).2), fun k q hq => Classical.choose_spec (h k) q hq⟩
theorem eC_start {s : State} {A : Array Value} (hts : ∀ w ∈ lw_tbl, w.before A s = true) (hgv : (Jvm.Cond.and given_1 narrow_1).before A s = true) : ∃ (D : va_G) (cy : Nat → ClassId), eC D cy s := by
  have hE : ∀ w ∈ eW, w.before A s = true := fun w hw => hts w (List.mem_filter.mp hw).1
  have hg := flat_of_before _ hgv
  obtain ⟨D, hD⟩ := eK_dec hE
  obtain ⟨c0, a0⟩ := arr_of (hE _ wa_int) (fun C h => nomatch h) (fun cA h => h)
  obtain ⟨c1, a1⟩ := arr_of (hE _ wa_char) (fun C h => nomatch h) (fun cA h => h)
  obtain ⟨c2, a2⟩ := arr_of (hE _ wa_boolean) (fun C h => nomatch h) (fun cA h => h)
  have hao : (Cond.arrayOver (.object RX5)).before A s = true := hts _ (by decide +kernel)
  obtain ⟨c3, a3⟩ := arr_obj hao
  refine ⟨D, fun k => if k = 0 then c0 else if k = 1 then c1 else if k = 2 then c2 else c3, ⟨hD, ?_⟩, ?_, ?_, ?_, ?_⟩
  · intro k q hq
    match k, hq with
    | 0, hq => cases hq; exact a0
    | 1, hq => cases hq; exact a1
    | 2, hq => cases hq; exact a2
    | 3, hq => cases hq; exact a3
    | k + 4, hq => simp [eTy] at hq
  · intro w hw
    obtain ⟨h1, h2⟩ := List.mem_filter.mp hw
    exact va_Nw.of (eX_on h2) (hts w h1)
  · have hall : ∀ q ∈ eStr, q.1 = "NameBenches" ∧ Cond.stringRef q.1 q.2.1 q.2.2 ∈ lw_tbl := by decide +kernel
    intro q hq
    obtain ⟨e, hm⟩ := hall q hq
    obtain ⟨-, hcl⟩ := hD 7 _ rfl
    have hw := hts _ hm
    obtain ⟨k, cf, i, a, -, -, -, -, -, hev⟩ := Cond.stringRef_spec (by rw [e]; exact hcl.1) hw
    exact ⟨a, vk_R.of (A := A) hw hev⟩
  · have hall : ∀ q ∈ eNc, Cond.not (.castable q.1 q.2) ∈ flatC (Jvm.Cond.and given_1 narrow_1) := by decide +kernel
    exact fun q hq => va_Nc.of (hg _ (hall q hq))
  · exact va_AO.of (A := #[]) hao
theorem eZ_start {s : State} {A : Array Value} (hts : ∀ w ∈ lw_tbl, w.before A s = true) (hgv : (Jvm.Cond.and given_1 narrow_1).before A s = true) : eZ s.heap.size s s.heap := by
  have hg := flat_of_before _ hgv
  refine ⟨vx_Zqof (args := A) (hts _ (by decide +kernel)) (hts _ (by decide +kernel)) (hg _ (by decide +kernel)) (fun a h => Nat.not_le.mpr h), vx_Zqof (args := A) (hts _ (by decide +kernel)) (hts _ (by decide +kernel)) (hg _ (by decide +kernel)) (fun a h => Nat.not_le.mpr h)⟩
