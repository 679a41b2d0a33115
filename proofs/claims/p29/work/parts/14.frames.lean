/-! frames: what a write leaves as it was -/
def eFr (h g : eH) (a b : Nat) : Prop := ∀ q : Nat, (q < a ∨ b ≤ q) → g q = h q
theorem eFr.rf {h : eH} {a b : Nat} : eFr h h a b := fun _ _ => rfl
theorem eFr.trans {h g k : eH} {a b : Nat} (h1 : eFr h g a b) (h2 : eFr g k a b) : eFr h k a b := fun q hq => (h2 q hq).trans (h1 q hq)
theorem eFr.wide {h g : eH} {a b a' b' : Nat} (h1 : eFr h g a b) (ha : a' ≤ a) (hb : b ≤ b') : eFr h g a' b' := fun q hq => h1 q (by omega)
theorem eFr.one {h g : eH} {a b c : Nat} (h1 : ∀ q : Nat, q ≠ c → g q = h q) (ha : a ≤ c) (hb : c < b) : eFr h g a b := fun q hq => h1 q (by omega)
theorem eArr.fr {h g : eH} {a t n m : Nat} {f : Nat → Nat} (hA : eArr h a t n m f) (e : g a = h a) : eArr g a t n m f := by
  obtain ⟨h1, h2, F, h3, h4⟩ := hA
  exact ⟨h1, h2, F, by rw [e]; exact h3, h4⟩
theorem eArr.congr {h : eH} {a t n m : Nat} {f f' : Nat → Nat} (hA : eArr h a t n m f) (e : ∀ j, j < m → f j = f' j) : eArr h a t n m f' := by
  obtain ⟨h1, h2, F, h3, h4⟩ := hA
  exact ⟨h1, h2, F, h3, fun j hj => by rw [h4 j hj, e j hj]⟩
theorem eArr.le {h : eH} {a t n m m' : Nat} {f : Nat → Nat} (hA : eArr h a t n m f) (hm : m' ≤ m) : eArr h a t n m' f := by
  obtain ⟨h1, h2, F, h3, h4⟩ := hA
  exact ⟨by omega, h2, F, h3, fun j hj => h4 j (by omega)⟩
theorem ePp.ob {h : eH} {q : Nat} {σ : St} (hP : ePp h q σ) : h q = some (.inr (3, [.int (nI (σ 0 0)), .ref (q + 1), .ref (q + 2), .ref (q + 3), .ref (q + 4), .ref (q + 5)])) := hP.1
theorem eNm.ob {h : eH} {q : Nat} {σ : St} (hP : eNm h q σ) : h q = some (.inr (1, [.int (nI (σ 0 1)), .ref (q + 1), .ref (q + 2), .ref (q + 3), .ref (q + 4), .ref (q + 5), .ref (q + 6), .ref (q + 7), .ref (q + 8)])) := hP.1
theorem eRg.ob {h : eH} {r : Nat} {σ : St} (hP : eRg h r σ) : h r = some (.inr (4, [.ref (r + 1), .ref (r + 7), .ref (r + 16), .int (nI (σ 0 2)), .int (nI (σ 0 3)), .int (nI (σ 0 4)), .int (nI (σ 0 5))])) := hP.1
theorem eBo.fr {h g : eH} {a : Nat} (hB : eBo h a) (e : g a = h a) : eBo g a := by
  obtain ⟨F, h1, h2⟩ := hB
  exact ⟨F, by rw [e]; exact h1, h2⟩
theorem ePp.fr {h g : eH} {q : Nat} {σ τ : St} (hP : ePp h q σ) (hg : ∀ a : Nat, q ≤ a → a < q + 6 → g a = h a) (h0 : τ 0 0 = σ 0 0) (e : ∀ f, 1 ≤ f → f ≤ 5 → ∀ j, j < σ 0 0 → τ f j = σ f j) : ePp g q τ := by
  obtain ⟨p0, p1, p2, p3, p4, p5⟩ := hP
  refine ⟨by rw [hg q (by omega) (by omega), h0]; exact p0, ?_, ?_, ?_, ?_, ?_⟩ <;> rw [h0]
  · exact (p1.fr (hg _ (by omega) (by omega))).congr fun j hj => (e 1 (by omega) (by omega) j hj).symm
  · exact (p2.fr (hg _ (by omega) (by omega))).congr fun j hj => (e 2 (by omega) (by omega) j hj).symm
  · exact (p3.fr (hg _ (by omega) (by omega))).congr fun j hj => (e 3 (by omega) (by omega) j hj).symm
  · exact (p4.fr (hg _ (by omega) (by omega))).congr fun j hj => (e 4 (by omega) (by omega) j hj).symm
  · exact (p5.fr (hg _ (by omega) (by omega))).congr fun j hj => (e 5 (by omega) (by omega) j hj).symm
theorem eNm.fr {h g : eH} {q : Nat} {σ τ : St} (hN : eNm h q σ) (hg : ∀ a : Nat, q ≤ a → a < q + 9 → g a = h a) (h0 : τ 0 1 = σ 0 1) (e : ∀ f, 6 ≤ f → f ≤ 13 → ∀ j, j < σ 0 1 → τ f j = σ f j) : eNm g q τ := by
  obtain ⟨p0, p1, p2, p3, p4, p5, p6, p7, p8, p9⟩ := hN
  refine ⟨by rw [hg q (by omega) (by omega), h0]; exact p0, ?_, ?_, ?_, ?_, ?_, ?_, ?_, ?_, p9.fr (hg _ (by omega) (by omega))⟩ <;> rw [h0]
  · exact (p1.fr (hg _ (by omega) (by omega))).congr fun j hj => (e 6 (by omega) (by omega) j hj).symm
  · exact (p2.fr (hg _ (by omega) (by omega))).congr fun j hj => (e 7 (by omega) (by omega) j hj).symm
  · exact (p3.fr (hg _ (by omega) (by omega))).congr fun j hj => (e 8 (by omega) (by omega) j hj).symm
  · exact (p4.fr (hg _ (by omega) (by omega))).congr fun j hj => (e 9 (by omega) (by omega) j hj).symm
  · exact (p5.fr (hg _ (by omega) (by omega))).congr fun j hj => (e 10 (by omega) (by omega) j hj).symm
  · exact (p6.fr (hg _ (by omega) (by omega))).congr fun j hj => (e 11 (by omega) (by omega) j hj).symm
  · exact (p7.fr (hg _ (by omega) (by omega))).congr fun j hj => (e 12 (by omega) (by omega) j hj).symm
  · exact (p8.fr (hg _ (by omega) (by omega))).congr fun j hj => (e 13 (by omega) (by omega) j hj).symm
theorem eRg.fr {h g : eH} {r : Nat} {σ : St} (hR : eRg h r σ) (hg : ∀ a : Nat, r ≤ a → a < r + 17 → g a = h a) : eRg g r σ := by
  obtain ⟨p0, p1, p2, p3⟩ := hR
  exact ⟨by rw [hg r (by omega) (by omega)]; exact p0, p1.fr (fun a h1 h2 => hg a (by omega) (by omega)) rfl (fun _ _ _ _ _ => rfl), p2.fr (fun a h1 h2 => hg a (by omega) (by omega)) rfl (fun _ _ _ _ _ => rfl), p3.fr (hg _ (by omega) (by omega))⟩
theorem oI_eq {o : Option Nat} {a : Nat} (ha : a < 2 ^ 31) (hb : ∀ k, o = some k → k < 2 ^ 31) : oI o = nI a ↔ o = some a := by
  cases o with
  | none => exact ⟨fun e => absurd e.symm (nI_neg ha), fun e => nomatch e⟩
  | some k => exact ⟨fun e => congrArg some ((nI_eq (hb k rfl) ha).mp e), fun e => by cases e; rfl⟩
theorem oI_toInt {o : Option Nat} (hb : ∀ k, o = some k → k < 2 ^ 31) : (oI o).toInt = match o with | none => -1 | some k => (k : Int) := by
  cases o with
  | none => show (-1 : Int32).toInt = -1; decide
  | some k => exact nI_toInt (hb k rfl)
section FRules
variable {M : eMI} {pc : Nat} {lv : List (Nat × Value)} {st : List Value} {w : eH × Nat × Nat × Nat} {r : eRes} {mc ms : Nat}
theorem ev_putH {index ci f a : Nat} {fs : List Value} {v : Value} {ty : FieldType} {h : eH} {n c0 s0 : Nat} (d : decode M.1 pc = .ok (.putfield index, 3)) (hf : ePL M.own index ci f ty false) (ho : h a = some (.inr (ci, fs))) (hl0 : f < fs.length) (hn : narrow ty v = v) (hfit : fits ty v = true)
    (k : ∀ g : eH, (∀ q : Nat, q ≠ a → g q = h q) → g a = some (.inr (ci, fs.set f v)) → eV M (pc + 3) lv st (g, n, c0, s0) r mc ms) : eV M pc lv (v :: .ref a :: st) (h, n, c0, s0) r mc ms :=
  ev_putfield d hf ho hl0 hn hfit (k _ (fun q hq => eU_n _ _ hq) (eU_s _ _ _))
theorem ev_iastoreA {a n0 m i v : Nat} {f : Nat → Nat} {h : eH} {n c0 s0 : Nat} (d : decode M.1 pc = .ok (.iastore, 1)) (hA : eArr h a 0 n0 m f) (hi : i < n0)
    (k : ∀ g : eH, (∀ q : Nat, q ≠ a → g q = h q) → (∀ m', (m' ≤ m ∨ (m' = m + 1 ∧ i = m)) → eArr g a 0 n0 m' (fun j => if j = i then v else f j)) → eV M (pc + 1) lv st (g, n, c0, s0) r mc ms) : eV M pc lv (.int (nI v) :: .int (nI i) :: .ref a :: st) (h, n, c0, s0) r mc ms := by
  obtain ⟨h1, h2, F, h3, h4⟩ := hA
  refine ev_iastoreN d h3 hi h2 (k _ (fun q hq => eU_n _ _ hq) (fun m' hm => ⟨by omega, h2, _, eU_s _ _ _, fun j hj => ?_⟩))
  by_cases e : j = i
  · show upd F i (nI v) j = nI (if j = i then v else f j)
    rw [if_pos e, e, pk_us]
  · show upd F i (nI v) j = nI (if j = i then v else f j)
    rw [if_neg e, pk_un e]
    exact h4 j (by omega)
theorem ev_bastoreA {a n0 m i v : Nat} {f : Nat → Nat} {h : eH} {n c0 s0 : Nat} (d : decode M.1 pc = .ok (.bastore, 1)) (hA : eArr h a 2 n0 m f) (hi : i < n0) (hv : v ≤ 1)
    (k : ∀ g : eH, (∀ q : Nat, q ≠ a → g q = h q) → (∀ m', (m' ≤ m ∨ (m' = m + 1 ∧ i = m)) → eArr g a 2 n0 m' (fun j => if j = i then v else f j)) → (eBo h a → eBo g a) → eV M (pc + 1) lv st (g, n, c0, s0) r mc ms) : eV M pc lv (.int (nI v) :: .int (nI i) :: .ref a :: st) (h, n, c0, s0) r mc ms := by
  obtain ⟨h1, h2, F, h3, h4⟩ := hA
  have hz : vp_nar .boolean (nI v) = nI v := by
    rcases (show v = 0 ∨ v = 1 by omega) with rfl | rfl <;> rfl
  refine ev_bastoreN d h3 hi h2 hz (k _ (fun q hq => eU_n _ _ hq) (fun m' hm => ⟨by omega, h2, _, eU_s _ _ _, fun j hj => ?_⟩) (fun hb => ?_))
  rotate_left
  · obtain ⟨F2, e1, e2⟩ := hb
    rw [h3] at e1
    injection e1 with e1; injection e1 with e1; injection e1 with e1 e3; injection e3 with e3 e4; injection e4 with e4
    refine ⟨_, by rw [eU_s, e3], fun j hj => ?_⟩
    by_cases e : j = i
    · rw [e, pk_us]
      rcases (show v = 0 ∨ v = 1 by omega) with rfl | rfl
      · exact Or.inl rfl
      · exact Or.inr rfl
    · rw [pk_un e, e4]
      exact e2 j hj
  by_cases e : j = i
  · show upd F i (nI v) j = nI (if j = i then v else f j)
    rw [if_pos e, e, pk_us]
  · show upd F i (nI v) j = nI (if j = i then v else f j)
    rw [if_neg e, pk_un e]
    exact h4 j (by omega)
theorem ev_copyA {index a0 a1 n0 m m1 : Nat} {t : Nat} {ty : FieldType} {f g1 : Nat → Nat} {h : eH} {n c0 s0 : Nat} (d : decode M.1 pc = .ok (.invokestatic index, 3)) (ha0 : eArr h a0 t n0 m f) (ha1 : eArr h a1 t n0 m1 g1) (ht : ∀ cy : Nat → ClassId, (eTy cy)[t]? = some (cy t, ty)) (hprim : refKind ty = false) (hfit : ∀ x : Int32, fits ty (.int x) = true) (h1 : Cond.methodLink M.own index arraycopyName ∈ eW)
    (hfr : 1 ≤ M.fr) (hlo : (st.map fun v => v.category).sum + (nativeFrameWords "java/lang/System" "arraycopy" 5 + 11) ≤ M.lo)
    (k : ∀ g : eH, (∀ q : Nat, q ≠ a1 → g q = h q) → eArr g a1 t n0 m f → eV M (pc + 3) lv st (g, n, c0, s0) r mc ms) : eV M pc lv (.int (nI n0) :: .int (nI 0) :: .ref a1 :: .int (nI 0) :: .ref a0 :: st) (h, n, c0, s0) r mc ms := by
  obtain ⟨p1, p2, F, p3, p4⟩ := ha0
  obtain ⟨q1, q2, G, q3, q4⟩ := ha1
  exact ev_arraycopy d p3 q3 ht hprim h1 wn_arraycopyName ws_arraycopyName wi_J10 p2 (fun i _ => hfit _) hfr hlo (k _ (fun q hq => eU_n _ _ hq) ⟨p1, p2, F, eU_s _ _ _, p4⟩)
theorem ev_copyB {index a0 a1 n0 m m1 : Nat} {f g1 : Nat → Nat} {h : eH} {n c0 s0 : Nat} (d : decode M.1 pc = .ok (.invokestatic index, 3)) (ha0 : eArr h a0 2 n0 m f) (ha1 : eArr h a1 2 n0 m1 g1) (hb : eBo h a0) (h1 : Cond.methodLink M.own index arraycopyName ∈ eW)
    (hfr : 1 ≤ M.fr) (hlo : (st.map fun v => v.category).sum + (nativeFrameWords "java/lang/System" "arraycopy" 5 + 11) ≤ M.lo)
    (k : ∀ g : eH, (∀ q : Nat, q ≠ a1 → g q = h q) → eArr g a1 2 n0 m f → eBo g a1 → eV M (pc + 3) lv st (g, n, c0, s0) r mc ms) : eV M pc lv (.int (nI n0) :: .int (nI 0) :: .ref a1 :: .int (nI 0) :: .ref a0 :: st) (h, n, c0, s0) r mc ms := by
  obtain ⟨p1, p2, F, p3, p4⟩ := ha0
  obtain ⟨q1, q2, G, q3, q4⟩ := ha1
  obtain ⟨F2, e1, e2⟩ := hb
  rw [p3] at e1
  injection e1 with e1; injection e1 with e1; injection e1 with e1 e3; injection e3 with e3 e4; injection e4 with e4
  subst e4; subst e3
  refine ev_arraycopy d p3 q3 (ty := .boolean) (fun _ => rfl) rfl h1 wn_arraycopyName ws_arraycopyName wi_J10 p2 (fun i hi => ?_) hfr hlo (k _ (fun q hq => eU_n _ _ hq) ⟨p1, p2, F, eU_s _ _ _, p4⟩ ⟨F, eU_s _ _ _, e2⟩)
  rcases e2 i hi with e | e <;> rw [e] <;> rfl
theorem ev_minN {index a b : Nat} (d : decode M.1 pc = .ok (.invokestatic index, 3)) (ha : a < 2 ^ 31) (hb : b < 2 ^ 31) (h1 : Cond.methodLink M.own index yJ9_min_7cf53 ∈ eW) (hfr : 1 ≤ M.fr) (hlo : (st.map fun v => v.category).sum + 13 ≤ M.lo) (hc : w.2.2.1 ≤ mc) (hs : w.2.2.2 ≤ ms)
    (k : eV M (pc + 3) lv (.int (nI (min a b)) :: st) w r mc ms) : eV M pc lv (.int (nI b) :: .int (nI a) :: st) w r mc ms := by
  intro l D cy B p e s m args below meth c H locs arr K hl
  obtain ⟨k1, k2, k3, k4, k5, k6, k7, k8, k9, k10, k11, k12, k13, k14, k15, k16, k17⟩ := id K
  refine va_mmin k2 k3 (by rw [k4]; exact hl.1.symm) k9 (k10 _ h1) (k10 _ ws_yJ9_min_7cf53) (k10 _ wi_J9) (k10 _ wyJ9_min_7cf53) hfr (by omega) hc hs d ?_
  have e9 : (if nI b < nI a then nI b else nI a) = nI (min a b) := by
    by_cases z : b < a
    · rw [if_pos ((nI_ltI (by assumption) (by assumption)).mpr z)]; congr 1; omega
    · rw [if_neg (fun q => z ((nI_ltI (by assumption) (by assumption)).mp q))]; congr 1; omega
  rw [e9]
  exact k l D cy B p e s m args below meth c H locs arr K hl
theorem ev_maxN {index a b : Nat} (d : decode M.1 pc = .ok (.invokestatic index, 3)) (ha : a < 2 ^ 31) (hb : b < 2 ^ 31) (h1 : Cond.methodLink M.own index yJ9_max_7cf53 ∈ eW) (hfr : 1 ≤ M.fr) (hlo : (st.map fun v => v.category).sum + 13 ≤ M.lo) (hc : w.2.2.1 ≤ mc) (hs : w.2.2.2 ≤ ms)
    (k : eV M (pc + 3) lv (.int (nI (max a b)) :: st) w r mc ms) : eV M pc lv (.int (nI b) :: .int (nI a) :: st) w r mc ms := by
  intro l D cy B p e s m args below meth c H locs arr K hl
  obtain ⟨k1, k2, k3, k4, k5, k6, k7, k8, k9, k10, k11, k12, k13, k14, k15, k16, k17⟩ := id K
  refine va_mmax k2 k3 (by rw [k4]; exact hl.1.symm) k9 (k10 _ h1) (k10 _ ws_yJ9_max_7cf53) (k10 _ wi_J9) (k10 _ wyJ9_max_7cf53) hfr (by omega) hc hs d ?_
  have e9 : (if nI a < nI b then nI b else nI a) = nI (max a b) := by
    by_cases z : a < b
    · rw [if_pos ((nI_ltI (by assumption) (by assumption)).mpr z)]; congr 1; omega
    · rw [if_neg (fun q => z ((nI_ltI (by assumption) (by assumption)).mp q))]; congr 1; omega
  rw [e9]
  exact k l D cy B p e s m args below meth c H locs arr K hl
theorem ev_minR {index : Nat} {x y : Int32} (d : decode M.1 pc = .ok (.invokestatic index, 3)) (h1 : Cond.methodLink M.own index yJ9_min_7cf53 ∈ eW) (hfr : 1 ≤ M.fr) (hlo : (st.map fun v => v.category).sum + 13 ≤ M.lo) (hc : w.2.2.1 ≤ mc) (hs : w.2.2.2 ≤ ms)
    (k : eV M (pc + 3) lv (.int (if y < x then y else x) :: st) w r mc ms) : eV M pc lv (.int y :: .int x :: st) w r mc ms := by
  intro l D cy B p e s m args below meth c H locs arr K hl
  obtain ⟨k1, k2, k3, k4, k5, k6, k7, k8, k9, k10, k11, k12, k13, k14, k15, k16, k17⟩ := id K
  exact va_mmin k2 k3 (by rw [k4]; exact hl.1.symm) k9 (k10 _ h1) (k10 _ ws_yJ9_min_7cf53) (k10 _ wi_J9) (k10 _ wyJ9_min_7cf53) hfr (by omega) hc hs d (k l D cy B p e s m args below meth c H locs arr K hl)
theorem ev_maxR {index : Nat} {x y : Int32} (d : decode M.1 pc = .ok (.invokestatic index, 3)) (h1 : Cond.methodLink M.own index yJ9_max_7cf53 ∈ eW) (hfr : 1 ≤ M.fr) (hlo : (st.map fun v => v.category).sum + 13 ≤ M.lo) (hc : w.2.2.1 ≤ mc) (hs : w.2.2.2 ≤ ms)
    (k : eV M (pc + 3) lv (.int (if x < y then y else x) :: st) w r mc ms) : eV M pc lv (.int y :: .int x :: st) w r mc ms := by
  intro l D cy B p e s m args below meth c H locs arr K hl
  obtain ⟨k1, k2, k3, k4, k5, k6, k7, k8, k9, k10, k11, k12, k13, k14, k15, k16, k17⟩ := id K
  exact va_mmax k2 k3 (by rw [k4]; exact hl.1.symm) k9 (k10 _ h1) (k10 _ ws_yJ9_max_7cf53) (k10 _ wi_J9) (k10 _ wyJ9_max_7cf53) hfr (by omega) hc hs d (k l D cy B p e s m args below meth c H locs arr K hl)
theorem ev_icmp_eqON {a : Nat} {o : Option Nat} {off : Int} {tgt : Nat} (d : decode M.1 pc = .ok (.if_icmp .eq off, 3)) (ht : (pc : Int) + off = (tgt : Int)) (ha : a < 2 ^ 31) (hb : ∀ k, o = some k → k < 2 ^ 31) (kt : o = some a → eV M tgt lv st w r mc ms) (kf : o ≠ some a → eV M (pc + 3) lv st w r mc ms) : eV M pc lv (.int (nI a) :: .int (oI o) :: st) w r mc ms :=
  ev_icmp_eq d ht (fun q => kt ((oI_eq ha hb).mp q)) (fun q => kf (fun e => q ((oI_eq ha hb).mpr e)))
end FRules
/-! what the writes do, over a state -/
def sAddP (σ : St) (a f b : Nat) : St := su (su (su (su (su (su σ 1 (σ 0 0) a) 2 (σ 0 0) f) 3 (σ 0 0) b) 4 (σ 0 0) 0) 5 (σ 0 0) 0) 0 0 (σ 0 0 + 1)
def sAddN (σ : St) (g p m c y : Nat) : St := su (su (su (su (su (su (su (su (su σ 6 (σ 0 1) m) 7 (σ 0 1) c) 8 (σ 0 1) g) 9 (σ 0 1) p) 10 (σ 0 1) 0) 11 (σ 0 1) y) 12 (σ 0 1) 0) 13 (σ 0 1) 0) 0 1 (σ 0 1 + 1)
def sUse (σ : St) (k y u : Nat) : St := let τ := su (su σ 10 k (σ 10 k + 1)) 11 k y; if σ 12 k = 0 ∧ u ≤ σ 10 k + 1 then su (su τ 12 k 1) 13 k 1 else τ
def sGrow (σ : St) (m : Nat) : St := fun f j => if f = 1 ∧ j < m then σ 1 j + 1 else σ f j
theorem su_at (σ : St) (f i v : Nat) : su σ f i v f = fun j => if j = i then v else σ f j := by
  funext j
  simp [su]

