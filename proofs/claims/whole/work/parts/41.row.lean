/-! THE MODEL'S ROW: 389 numbers that hold a state -/
def rowF (σ : St) (k : Nat) : Nat := if k < 60 then σ (1 + k % 5) (k / 5) else if k < 380 then σ (6 + (k - 60) % 8) ((k - 60) / 8) else if k < 386 then σ 0 (k - 380) else σ 14 (k - 386)
def eRow (h : eH) (a : Nat) (σ : St) : Prop := eArr h a 0 389 389 (rowF σ)
theorem eRow.fr {h g : eH} {a : Nat} {σ : St} (hA : eRow h a σ) (e : g a = h a) : eRow g a σ := eArr.fr hA e
theorem eRow.to {h : eH} {a : Nat} {σ τ : St} (hA : eRow h a σ) (e : ∀ j, j < 389 → rowF σ j = rowF τ j) : eRow h a τ := eArr.congr hA e
theorem rowF_n (σ : St) {k f : Nat} (hk : k < 40) (hf : f < 8) : rowF σ (60 + 8 * k + f) = σ (6 + f) k := by
  unfold rowF
  rw [if_neg (by omega), if_pos (by omega), show (60 + 8 * k + f - 60) % 8 = f by omega, show (60 + 8 * k + f - 60) / 8 = k by omega]
theorem rowF_p (σ : St) {p f : Nat} (hp : p < 12) (hf : f < 5) : rowF σ (5 * p + f) = σ (1 + f) p := by
  unfold rowF
  rw [if_pos (by omega), show (5 * p + f) % 5 = f by omega, show (5 * p + f) / 5 = p by omega]
theorem rowF_s (σ : St) {w : Nat} (hw : w < 3) : rowF σ (386 + w) = σ 14 w := by
  unfold rowF
  rw [if_neg (by omega), if_neg (by omega), if_neg (by omega), show 386 + w - 386 = w by omega]
theorem rowF_0 (σ : St) {w : Nat} (hw : w < 6) : rowF σ (380 + w) = σ 0 w := by
  unfold rowF
  rw [if_neg (by omega), if_neg (by omega), if_pos (by omega), show 380 + w - 380 = w by omega]
theorem rowF_ext {σ τ : St} (h1 : ∀ p f, p < 12 → 1 ≤ f → f ≤ 5 → σ f p = τ f p) (h2 : ∀ k f, k < 40 → 6 ≤ f → f ≤ 13 → σ f k = τ f k) (h3 : ∀ w, w < 6 → σ 0 w = τ 0 w) (h4 : ∀ w, w < 3 → σ 14 w = τ 14 w) : ∀ j, j < 389 → rowF σ j = rowF τ j := by
  intro j hj
  unfold rowF
  split
  · exact h1 _ _ (by omega) (by omega) (by omega)
  split
  · exact h2 _ _ (by omega) (by omega) (by omega)
  split
  · exact h3 _ (by omega)
  · exact h4 _ (by omega)
theorem rowF_sn {σ : St} {k f v : Nat} (hk : k < 40) (hf : f < 8) : ∀ j, j < 389 → (if j = 60 + 8 * k + f then v else rowF σ j) = rowF (su σ (6 + f) k v) j := by
  intro j hj
  by_cases e : j = 60 + 8 * k + f
  · rw [if_pos e, e, rowF_n _ hk hf, su_same]
  · rw [if_neg e]
    unfold rowF
    split
    · rw [su_f (by omega)]
    split
    · rw [su_ne]; omega
    split
    · rw [su_f (by omega)]
    · rw [su_f (by omega)]
theorem rowF_sp {σ : St} {p f v : Nat} (hp : p < 12) (hf : f < 5) : ∀ j, j < 389 → (if j = 5 * p + f then v else rowF σ j) = rowF (su σ (1 + f) p v) j := by
  intro j hj
  by_cases e : j = 5 * p + f
  · rw [if_pos e, e, rowF_p _ hp hf, su_same]
  · rw [if_neg e]
    unfold rowF
    split
    · rw [su_ne]; omega
    split
    · rw [su_f (by omega)]
    split
    · rw [su_f (by omega)]
    · rw [su_f (by omega)]
theorem rowF_ss {σ : St} {w v : Nat} (hw : w < 3) : ∀ j, j < 389 → (if j = 386 + w then v else rowF σ j) = rowF (su σ 14 w v) j := by
  intro j hj
  by_cases e : j = 386 + w
  · rw [if_pos e, e, rowF_s _ hw, su_same]
  · rw [if_neg e]
    unfold rowF
    split
    · rw [su_f (by omega)]
    split
    · rw [su_f (by omega)]
    split
    · rw [su_f (by omega)]
    · rw [su_ne]; omega
theorem rowF_s0 {σ : St} {w v : Nat} (hw : w < 6) : ∀ j, j < 389 → (if j = 380 + w then v else rowF σ j) = rowF (su σ 0 w v) j := by
  intro j hj
  by_cases e : j = 380 + w
  · rw [if_pos e, e, rowF_0 _ hw, su_same]
  · rw [if_neg e]
    unfold rowF
    split
    · rw [su_f (by omega)]
    split
    · rw [su_f (by omega)]
    split
    · rw [su_ne]; omega
    · rw [su_f (by omega)]
section RowRules
variable {M : eMI} {pc : Nat} {lv : List (Nat × Value)} {st : List Value} {w : eH × Nat × Nat × Nat} {r : eRes} {mc ms : Nat}
theorem ev_rowG {f j i a : Nat} {σ : St} (d : decode M.1 pc = .ok (.iaload, 1)) (hA : eRow w.1 a σ) (hi : i < 389) (e : ∀ τ : St, rowF τ i = τ f j) (k : eV M (pc + 1) lv (.int (nI (σ f j)) :: st) w r mc ms) : eV M pc lv (.int (nI i) :: .ref a :: st) w r mc ms :=
  ev_ialoadA d hA hi (by rw [e σ]; exact k)
theorem ev_rowN {f F k a : Nat} {σ : St} (d : decode M.1 pc = .ok (.iaload, 1)) (hA : eRow w.1 a σ) (hk : k < 40) (hf : f < 8) (e : 6 + f = F) (c : eV M (pc + 1) lv (.int (nI (σ F k)) :: st) w r mc ms) : eV M pc lv (.int (nI (60 + 8 * k + f)) :: .ref a :: st) w r mc ms :=
  ev_ialoadA d hA (by omega) (by rw [rowF_n σ hk hf, e]; exact c)
theorem ev_rowP {f F p a : Nat} {σ : St} (d : decode M.1 pc = .ok (.iaload, 1)) (hA : eRow w.1 a σ) (hp : p < 12) (hf : f < 5) (e : 1 + f = F) (c : eV M (pc + 1) lv (.int (nI (σ F p)) :: st) w r mc ms) : eV M pc lv (.int (nI (5 * p + f)) :: .ref a :: st) w r mc ms :=
  ev_ialoadA d hA (by omega) (by rw [rowF_p σ hp hf, e]; exact c)
theorem ev_rowNV {f k a : Nat} {σ : St} (d : decode M.1 pc = .ok (.iaload, 1)) (hA : eRow w.1 a σ) (hk : k < 40) (hf : f < 8) (c : eV M (pc + 1) lv (.int (nI (σ (6 + f) k)) :: st) w r mc ms) : eV M pc lv (.int (nI (60 + 8 * k + f)) :: .ref a :: st) w r mc ms :=
  ev_rowN d hA hk hf rfl c
theorem ev_rowPV {f p a : Nat} {σ : St} (d : decode M.1 pc = .ok (.iaload, 1)) (hA : eRow w.1 a σ) (hp : p < 12) (hf : f < 5) (c : eV M (pc + 1) lv (.int (nI (σ (1 + f) p)) :: st) w r mc ms) : eV M pc lv (.int (nI (5 * p + f)) :: .ref a :: st) w r mc ms :=
  ev_rowP d hA hp hf rfl c
theorem ev_rowS {v a : Nat} {σ : St} (d : decode M.1 pc = .ok (.iaload, 1)) (hA : eRow w.1 a σ) (hw : v < 3) (c : eV M (pc + 1) lv (.int (nI (σ 14 v)) :: st) w r mc ms) : eV M pc lv (.int (nI (386 + v)) :: .ref a :: st) w r mc ms :=
  ev_ialoadA d hA (by omega) (by rw [rowF_s σ hw]; exact c)
theorem ev_rowsetG {f j i a v : Nat} {σ : St} {h : eH} {n c0 s0 : Nat} (d : decode M.1 pc = .ok (.iastore, 1)) (hA : eRow h a σ) (hi : i < 389) (e : ∀ q, q < 389 → (if q = i then v else rowF σ q) = rowF (su σ f j v) q) (k : ∀ g : eH, (∀ q : Nat, q ≠ a → g q = h q) → eRow g a (su σ f j v) → eV M (pc + 1) lv st (g, n, c0, s0) r mc ms) : eV M pc lv (.int (nI v) :: .int (nI i) :: .ref a :: st) (h, n, c0, s0) r mc ms :=
  ev_iastoreA d hA hi (fun g fr w => k g fr ((w 389 (Or.inl (Nat.le_refl _))).congr e))
theorem ev_rowsetN {f F k a v : Nat} {σ : St} {h : eH} {n c0 s0 : Nat} (d : decode M.1 pc = .ok (.iastore, 1)) (hA : eRow h a σ) (hk : k < 40) (hf : f < 8) (e : 6 + f = F) (c : ∀ g : eH, (∀ q : Nat, q ≠ a → g q = h q) → eRow g a (su σ F k v) → eV M (pc + 1) lv st (g, n, c0, s0) r mc ms) : eV M pc lv (.int (nI v) :: .int (nI (60 + 8 * k + f)) :: .ref a :: st) (h, n, c0, s0) r mc ms := by
  subst e
  exact ev_iastoreA d hA (by omega) (fun g fr w => c g fr ((w 389 (Or.inl (Nat.le_refl _))).congr (rowF_sn hk hf)))
theorem ev_rowsetP {f F p a v : Nat} {σ : St} {h : eH} {n c0 s0 : Nat} (d : decode M.1 pc = .ok (.iastore, 1)) (hA : eRow h a σ) (hp : p < 12) (hf : f < 5) (e : 1 + f = F) (c : ∀ g : eH, (∀ q : Nat, q ≠ a → g q = h q) → eRow g a (su σ F p v) → eV M (pc + 1) lv st (g, n, c0, s0) r mc ms) : eV M pc lv (.int (nI v) :: .int (nI (5 * p + f)) :: .ref a :: st) (h, n, c0, s0) r mc ms := by
  subst e
  exact ev_iastoreA d hA (by omega) (fun g fr w => c g fr ((w 389 (Or.inl (Nat.le_refl _))).congr (rowF_sp hp hf)))
theorem ev_rowsetS {s a v : Nat} {σ : St} {h : eH} {n c0 s0 : Nat} (d : decode M.1 pc = .ok (.iastore, 1)) (hA : eRow h a σ) (hw : s < 3) (c : ∀ g : eH, (∀ q : Nat, q ≠ a → g q = h q) → eRow g a (su σ 14 s v) → eV M (pc + 1) lv st (g, n, c0, s0) r mc ms) : eV M pc lv (.int (nI v) :: .int (nI (386 + s)) :: .ref a :: st) (h, n, c0, s0) r mc ms :=
  ev_iastoreA d hA (by omega) (fun g fr w => c g fr ((w 389 (Or.inl (Nat.le_refl _))).congr (rowF_ss hw)))
end RowRules
theorem rowF_g380 {σ : St} (v : Nat) : ∀ j, j < 389 → (if j = 380 then v else rowF σ j) = rowF (su σ 0 0 v) j := rowF_s0 (w := 0) (by decide)
theorem rowF_g381 {σ : St} (v : Nat) : ∀ j, j < 389 → (if j = 381 then v else rowF σ j) = rowF (su σ 0 1 v) j := rowF_s0 (w := 1) (by decide)
theorem rowF_g382 {σ : St} (v : Nat) : ∀ j, j < 389 → (if j = 382 then v else rowF σ j) = rowF (su σ 0 2 v) j := rowF_s0 (w := 2) (by decide)
theorem rowF_g383 {σ : St} (v : Nat) : ∀ j, j < 389 → (if j = 383 then v else rowF σ j) = rowF (su σ 0 3 v) j := rowF_s0 (w := 3) (by decide)
theorem rowF_g384 {σ : St} (v : Nat) : ∀ j, j < 389 → (if j = 384 then v else rowF σ j) = rowF (su σ 0 4 v) j := rowF_s0 (w := 4) (by decide)
theorem rowF_g385 {σ : St} (v : Nat) : ∀ j, j < 389 → (if j = 385 then v else rowF σ j) = rowF (su σ 0 5 v) j := rowF_s0 (w := 5) (by decide)
theorem i2lZ (x : Int32) : x.toInt64.toInt = x.toInt := Int32.toInt_toInt64 x
theorem zsub1 {c : Nat} (h : c < 2 ^ 31) : (nI c - nI 1).toInt = (c : Int) - 1 := by
  have h1 : (nI c).toInt = (c : Int) := nI_toInt h
  have h2 : (nI 1).toInt = 1 := by decide
  rw [Int32.toInt_sub, h1, h2]
  exact Int.bmod_eq_of_le (by omega) (by omega)
theorem lgZg {x y : Int64} : 0 < (lg_cmp x y).toInt ↔ y.toInt < x.toInt := by
  have h := lg_cmp_gt x y
  rw [Int32.lt_iff_toInt_lt, Int64.lt_iff_toInt_lt] at h
  exact h
theorem bRb {b c : Bool} (h : b = c) : (Sum.inl (some (Value.int (bI b))) : Option Value ⊕ String) = Sum.inl (some (Value.int (bI c))) := by rw [h]
theorem ninZ {x : Int32} {b : Nat} (h : x.toInt = (b : Int)) : x = nI b := by
  apply Int32.toInt_inj.mp
  have hx := x.toInt_lt
  rw [h, nI_toInt (by omega)]
theorem cnt_T {p : Nat → Bool} {f k : Nat} (h : p k = true) (hf : f = cnt p k) : f + 1 = cnt p (k + 1) := by rw [cnt_t h, hf]
theorem cnt_F {p : Nat → Bool} {f k : Nat} (h : p k = false) (hf : f = cnt p k) : f + 0 = cnt p (k + 1) := by rw [cnt_f h, hf]; rfl
set_option maxHeartbeats 4000000 in
set_option maxRecDepth 20000 in
theorem c_X11_in {h : eH} {n : Nat} {x y z : Int64} : kX11_in [.long x, .long y, .long z] h n (.inl (some (.int (bI (decide (y.toInt ≤ x.toInt ∧ x.toInt ≤ z.toInt))))), (· = h), some n) 0 0 := by
  refine eM.of RX11 "in" [(0, .long x), (2, .long y), (4, .long z)] pn_X11 rfl rfl (Nat.le_of_ble_eq_true rfl) rfl ?_
  refine ev_lload_n dX11_in_0 rfl rfl ?_
  refine ev_lload_n dX11_in_1 rfl rfl ?_
  refine ev_lcmp dX11_in_2 ?_
  first | ((with_reducible show eV _ _ _ (Value.int (nI _) :: _) _ _ _ _); refine ev_if_ltN (tgt := 17) dX11_in_3 (by decide) (by first | exact hB _ _ | omega) ?_) | (refine ev_if_ltZ (tgt := 17) dX11_in_3 (by decide) (fun c_3 => ?_) (fun c_3 => ?_))
  · refine ev_iconst (v := nI 0) dX11_in_17 rfl ?_
    exact ev_iret dX11_in_18 rfl (by first | rfl | exact bI_n _) (by first | exact bR0 (decide_eq_false (fun q => by have := lgZ.mp c_3; omega)) | exact bR0 (decide_eq_false (fun q => by have := lgZg.mp c_10; omega)) | exact bR1 (decide_eq_true ⟨by have h1 : ¬ x.toInt < y.toInt := fun q => absurd (lgZ.mpr q) (by omega); omega, by have h1 : ¬ z.toInt < x.toInt := fun q => absurd (lgZg.mpr q) (by omega); omega⟩)) (by rfl) (fun _ e => Option.some.inj e) (Nat.le_of_ble_eq_true rfl) (Nat.le_of_ble_eq_true rfl)
  · refine ev_lload_n dX11_in_6 rfl rfl ?_
    refine ev_lload dX11_in_7 rfl ?_
    refine ev_lcmp dX11_in_9 ?_
    refine ev_if_gtZ (tgt := 17) dX11_in_10 (by decide) (fun c_10 => ?_) (fun c_10 => ?_)
    · refine ev_iconst (v := nI 0) dX11_in_17 rfl ?_
      exact ev_iret dX11_in_18 rfl (by first | rfl | exact bI_n _) (by first | exact bR0 (decide_eq_false (fun q => by have := lgZ.mp c_3; omega)) | exact bR0 (decide_eq_false (fun q => by have := lgZg.mp c_10; omega)) | exact bR1 (decide_eq_true ⟨by have h1 : ¬ x.toInt < y.toInt := fun q => absurd (lgZ.mpr q) (by omega); omega, by have h1 : ¬ z.toInt < x.toInt := fun q => absurd (lgZg.mpr q) (by omega); omega⟩)) (by rfl) (fun _ e => Option.some.inj e) (Nat.le_of_ble_eq_true rfl) (Nat.le_of_ble_eq_true rfl)
    · refine ev_iconst (v := nI 1) dX11_in_13 rfl ?_
      refine ev_goto (tgt := 18) dX11_in_14 (by decide) ?_
      exact ev_iret dX11_in_18 rfl (by first | rfl | exact bI_n _) (by first | exact bR0 (decide_eq_false (fun q => by have := lgZ.mp c_3; omega)) | exact bR0 (decide_eq_false (fun q => by have := lgZg.mp c_10; omega)) | exact bR1 (decide_eq_true ⟨by have h1 : ¬ x.toInt < y.toInt := fun q => absurd (lgZ.mpr q) (by omega); omega, by have h1 : ¬ z.toInt < x.toInt := fun q => absurd (lgZg.mpr q) (by omega); omega⟩)) (by rfl) (fun _ e => Option.some.inj e) (Nat.le_of_ble_eq_true rfl) (Nat.le_of_ble_eq_true rfl)
set_option maxHeartbeats 4000000 in
set_option maxRecDepth 20000 in
theorem c_X11_isPerson {h : eH} {n a : Nat} {σ : St} {z : Int32} (hA : eRow h a σ) (hB : eB σ) : kX11_isPerson [.ref a, .int z] h n (.inl (some (.int (bI (decide (0 ≤ z.toInt ∧ z.toInt < (σ 0 0 : Int)))))), (· = h), some n) 0 0 := by
  refine eM.of RX11 "isPerson" [(0, .ref a), (1, .int z)] pn_X11 rfl rfl (Nat.le_of_ble_eq_true rfl) rfl ?_
  refine ev_iload_n dX11_isPerson_0 rfl rfl ?_
  refine ev_i2l dX11_isPerson_1 rfl ?_
  refine ev_lconst (v := lN 0) dX11_isPerson_2 rfl ?_
  refine ev_aload_n dX11_isPerson_3 rfl rfl ?_
  refine ev_sipush (v := nI 380) dX11_isPerson_4 rfl ?_
  first | refine ev_rowG (f := 0) (j := 0) dX11_isPerson_7 (by assumption) (Nat.le_of_ble_eq_true rfl) (fun _ => rfl) ?_ | refine ev_ialoadA dX11_isPerson_7 (by first | assumption | omega | exact ePp.ob (by assumption) | exact eNm.ob (by assumption) | exact eRg.ob (by assumption) | exact eTx.ob (by assumption) | exact ePa.ob (by assumption)) (by first | assumption | omega | exact ePp.ob (by assumption) | exact eNm.ob (by assumption) | exact eRg.ob (by assumption) | exact eTx.ob (by assumption) | exact ePa.ob (by assumption)) ?_
  refine ev_iconst (v := nI 1) dX11_isPerson_8 rfl ?_
  refine ev_isub dX11_isPerson_9 ?_
  refine ev_i2l dX11_isPerson_10 rfl ?_
  refine ev_callSi dX11_isPerson_11 c_X11_in lk_X11_45 ⟨Nat.le_of_ble_eq_true rfl, Nat.le_of_ble_eq_true rfl⟩ rfl (Nat.le_of_ble_eq_true rfl) ⟨by first | exact Nat.le_of_ble_eq_true rfl | omega, by first | exact Nat.le_of_ble_eq_true rfl | omega⟩ (eRo ?_)
  exact ev_iret dX11_isPerson_14 rfl (by first | rfl | exact bI_n _) (by exact bRb (decide_eq_decide.mpr (by rw [i2lZ, i2lZ, zsub1 (hB 0 0), lN_Z (by decide)]; omega))) (by rfl) (fun _ e => Option.some.inj e) (Nat.le_of_ble_eq_true rfl) (Nat.le_of_ble_eq_true rfl)
set_option maxHeartbeats 4000000 in
set_option maxRecDepth 20000 in
theorem c_X11_isName {h : eH} {n a : Nat} {σ : St} {z : Int32} (hA : eRow h a σ) (hB : eB σ) : kX11_isName [.ref a, .int z] h n (.inl (some (.int (bI (decide (0 ≤ z.toInt ∧ z.toInt < (σ 0 1 : Int)))))), (· = h), some n) 0 0 := by
  refine eM.of RX11 "isName" [(0, .ref a), (1, .int z)] pn_X11 rfl rfl (Nat.le_of_ble_eq_true rfl) rfl ?_
  refine ev_iload_n dX11_isName_0 rfl rfl ?_
  refine ev_i2l dX11_isName_1 rfl ?_
  refine ev_lconst (v := lN 0) dX11_isName_2 rfl ?_
  refine ev_aload_n dX11_isName_3 rfl rfl ?_
  refine ev_sipush (v := nI 381) dX11_isName_4 rfl ?_
  first | refine ev_rowG (f := 0) (j := 1) dX11_isName_7 (by assumption) (Nat.le_of_ble_eq_true rfl) (fun _ => rfl) ?_ | refine ev_ialoadA dX11_isName_7 (by first | assumption | omega | exact ePp.ob (by assumption) | exact eNm.ob (by assumption) | exact eRg.ob (by assumption) | exact eTx.ob (by assumption) | exact ePa.ob (by assumption)) (by first | assumption | omega | exact ePp.ob (by assumption) | exact eNm.ob (by assumption) | exact eRg.ob (by assumption) | exact eTx.ob (by assumption) | exact ePa.ob (by assumption)) ?_
  refine ev_iconst (v := nI 1) dX11_isName_8 rfl ?_
  refine ev_isub dX11_isName_9 ?_
  refine ev_i2l dX11_isName_10 rfl ?_
  refine ev_callSi dX11_isName_11 c_X11_in lk_X11_45 ⟨Nat.le_of_ble_eq_true rfl, Nat.le_of_ble_eq_true rfl⟩ rfl (Nat.le_of_ble_eq_true rfl) ⟨by first | exact Nat.le_of_ble_eq_true rfl | omega, by first | exact Nat.le_of_ble_eq_true rfl | omega⟩ (eRo ?_)
  exact ev_iret dX11_isName_14 rfl (by first | rfl | exact bI_n _) (by exact bRb (decide_eq_decide.mpr (by rw [i2lZ, i2lZ, zsub1 (hB 0 1), lN_Z (by decide)]; omega))) (by rfl) (fun _ e => Option.some.inj e) (Nat.le_of_ble_eq_true rfl) (Nat.le_of_ble_eq_true rfl)
set_option maxHeartbeats 4000000 in
set_option maxRecDepth 20000 in
theorem c_X11_isBench {h : eH} {n : Nat} {z : Int32} : kX11_isBench [.int z] h n (.inl (some (.int (bI (decide (0 ≤ z.toInt ∧ z.toInt < (4 : Nat)))))), (· = h), some n) 0 0 := by
  refine eM.of RX11 "isBench" [(0, .int z)] pn_X11 rfl rfl (Nat.le_of_ble_eq_true rfl) rfl ?_
  refine ev_iload_n dX11_isBench_0 rfl rfl ?_
  refine ev_i2l dX11_isBench_1 rfl ?_
  refine ev_lconst (v := lN 0) dX11_isBench_2 rfl ?_
  refine ev_ldc2 dX11_isBench_3 wq_X11_49 ?_
  refine ev_callSi dX11_isBench_6 c_X11_in lk_X11_45 ⟨Nat.le_of_ble_eq_true rfl, Nat.le_of_ble_eq_true rfl⟩ rfl (Nat.le_of_ble_eq_true rfl) ⟨by first | exact Nat.le_of_ble_eq_true rfl | omega, by first | exact Nat.le_of_ble_eq_true rfl | omega⟩ (eRo ?_)
  exact ev_iret dX11_isBench_9 rfl (by first | rfl | exact bI_n _) (by exact bRb (decide_eq_decide.mpr (by rw [i2lZ, lN_Z (by decide), show (3 : Int64).toInt = 3 by decide]; omega))) (by rfl) (fun _ e => Option.some.inj e) (Nat.le_of_ble_eq_true rfl) (Nat.le_of_ble_eq_true rfl)
set_option maxHeartbeats 4000000 in
set_option maxRecDepth 20000 in
theorem c_X11_codes {h : eH} {n m : Nat} (hm : m ≤ 4) : kX11_codes [.int (nI m)] h n (.inl (some (.int (nI (26 ^ m)))), (· = h), some n) 0 0 := by
  refine eM.of RX11 "codes" [(0, .int (nI m))] pn_X11 rfl rfl (Nat.le_of_ble_eq_true rfl) rfl ?_
  refine ev_iconst (v := nI 1) dX11_codes_0 rfl ?_
  refine ev_istore_n dX11_codes_1 rfl (Nat.le_of_ble_eq_true rfl) ?_
  refine ev_iconst (v := nI 0) dX11_codes_2 rfl ?_
  refine ev_istore_n dX11_codes_3 rfl (Nat.le_of_ble_eq_true rfl) ?_
  have H_4 : ∀ (d_4 : Nat) (i : Nat), d_4 = m - i → (i ≤ m) → eV mX11_codes 4 [(0, .int (nI m)), (1, .int (nI (26 ^ i))), (2, .int (nI i))] [] (h, n, 0, 0) (.inl (some (.int (nI (26 ^ m)))), (· = h), some n) 0 0 := by
    intro d_4
    induction d_4 using Nat.strongRecOn with
    | _ d_4 ih_4 =>
    intro i hd_4 hi
    refine ev_iload_n dX11_codes_4 rfl rfl ?_
    refine ev_iload_n dX11_codes_5 rfl rfl ?_
    first | ((with_reducible show eV _ _ _ (Value.int (nI _) :: Value.int (nI _) :: _) _ _ _ _); refine ev_icmp_geN (tgt := 20) dX11_codes_6 (by decide) (by first | exact hB _ _ | omega) (by first | exact hB _ _ | omega) (fun c_6 => ?_) (fun c_6 => ?_)) | ((with_reducible show eV _ _ _ (Value.int (nI _) :: _) _ _ _ _); refine ev_icmp_geZN (tgt := 20) dX11_codes_6 (by decide) (by first | exact hB _ _ | omega) (fun c_6 => ?_) (fun c_6 => ?_)) | ((with_reducible show eV _ _ _ (_ :: Value.int (nI _) :: _) _ _ _ _); refine ev_icmp_geNZ (tgt := 20) dX11_codes_6 (by decide) (by first | exact hB _ _ | omega) (fun c_6 => ?_) (fun c_6 => ?_)) | (refine ev_icmp_geZZ (tgt := 20) dX11_codes_6 (by decide) (fun c_6 => ?_) (fun c_6 => ?_))
    · refine ev_iload_n dX11_codes_20 rfl rfl ?_
      exact ev_iret dX11_codes_21 rfl rfl (by exact nR (by have e : i = m := (by omega); rw [e])) (by rfl) (fun _ e => by first | exact Option.some.inj e | (have e2 := Option.some.inj e; omega)) (by first | exact Nat.le_of_ble_eq_true rfl | omega) (by first | exact Nat.le_of_ble_eq_true rfl | omega)
    · refine ev_iload_n dX11_codes_9 rfl rfl ?_
      refine ev_bipush (v := nI 26) dX11_codes_10 rfl ?_
      first | refine ev_imulN dX11_codes_12 ?_ | refine ev_imul dX11_codes_12 ?_
      refine ev_istore_n dX11_codes_13 rfl (Nat.le_of_ble_eq_true rfl) ?_
      first | refine ev_iincN dX11_codes_14 rfl (Nat.le_of_ble_eq_true rfl) ?_ | refine ev_iinc dX11_codes_14 rfl rfl (Nat.le_of_ble_eq_true rfl) ?_
      refine ev_goto (tgt := 4) dX11_codes_17 (by decide) ?_
      exact (ih_4 _ (by omega) _  rfl (by first | omega | assumption | rfl)).sub1 ⟨rfl, rfl, rfl, trivial⟩ rfl
  exact (H_4 _ 0 rfl (by first | omega | assumption | rfl)).sub1 ⟨rfl, rfl, rfl, trivial⟩ rfl
set_option maxHeartbeats 4000000 in
set_option maxRecDepth 20000 in
theorem c_X11_isCode {h : eH} {n : Nat} {x y : Int32} : kX11_isCode [.int x, .int y] h n (.inl (some (.int (bI (decide ((1 ≤ x.toInt ∧ x.toInt < (5 : Nat)) ∧ 0 ≤ y.toInt ∧ y.toInt < ((26 ^ x.toInt.toNat : Nat) : Int)))))), (· = h), some n) 0 0 := by
  refine eM.of RX11 "isCode" [(0, .int x), (1, .int y)] pn_X11 rfl rfl (Nat.le_of_ble_eq_true rfl) rfl ?_
  refine ev_iload_n dX11_isCode_0 rfl rfl ?_
  refine ev_i2l dX11_isCode_1 rfl ?_
  refine ev_lconst (v := lN 1) dX11_isCode_2 rfl ?_
  refine ev_ldc2 dX11_isCode_3 wq_X11_51 ?_
  refine ev_callSi dX11_isCode_6 c_X11_in lk_X11_45 ⟨Nat.le_of_ble_eq_true rfl, Nat.le_of_ble_eq_true rfl⟩ rfl (Nat.le_of_ble_eq_true rfl) ⟨by first | exact Nat.le_of_ble_eq_true rfl | omega, by first | exact Nat.le_of_ble_eq_true rfl | omega⟩ (eRo ?_)
  first | ((with_reducible show eV _ _ _ (Value.int (bI _) :: _) _ _ _ _); refine ev_if_eqB (tgt := 32) dX11_isCode_9 (by decide) (fun c_9 => ?_) (fun c_9 => ?_)) | ((with_reducible show eV _ _ _ (Value.int (nI _) :: _) _ _ _ _); refine ev_if_eqN (tgt := 32) dX11_isCode_9 (by decide) (by first | exact hB _ _ | omega) (fun c_9 => ?_) (fun c_9 => ?_)) | (refine ev_if_eqZ (tgt := 32) dX11_isCode_9 (by decide) (fun c_9 => ?_) (fun c_9 => ?_))
  · refine ev_iconst (v := nI 0) dX11_isCode_32 rfl ?_
    exact ev_iret dX11_isCode_33 rfl (by first | rfl | exact bI_n _) (by first | exact bR0 (decide_eq_false (fun q => by have c9 := of_decide_eq_false c_9; rw [i2lZ, lN_Z (by decide), show (4 : Int64).toInt = 4 by decide] at c9; omega)) | exact bR0 (decide_eq_false (fun q => by have c25 := of_decide_eq_false c_25; rw [i2lZ, i2lZ, zsub1 e26, lN_Z (by decide)] at c25; rw [em2] at q; omega)) | exact bR1 (decide_eq_true (by have c25 := of_decide_eq_true c_25; rw [i2lZ, i2lZ, zsub1 e26, lN_Z (by decide)] at c25; rw [em2]; omega))) (by rfl) (fun _ e => Option.some.inj e) (Nat.le_of_ble_eq_true rfl) (Nat.le_of_ble_eq_true rfl)
  · have c9 := of_decide_eq_true c_9
    rw [i2lZ, lN_Z (by decide), show (4 : Int64).toInt = 4 by decide] at c9
    obtain ⟨m, hm, rfl, em⟩ := zN (x := x) (b := 5) (by omega)
    have hm4 : m ≤ 4 := by omega
    have e26 : 26 ^ m < 2 ^ 31 := Nat.lt_of_le_of_lt (Nat.pow_le_pow_right (by decide) hm4) (by decide)
    have em2 : (nI m).toInt.toNat = m := by omega
    refine ev_iload_n dX11_isCode_12 rfl rfl ?_
    refine ev_i2l dX11_isCode_13 rfl ?_
    refine ev_lconst (v := lN 0) dX11_isCode_14 rfl ?_
    refine ev_iload_n dX11_isCode_15 rfl rfl ?_
    refine ev_callSi dX11_isCode_16 (c_X11_codes hm4) lk_X11_53 ⟨Nat.le_of_ble_eq_true rfl, Nat.le_of_ble_eq_true rfl⟩ rfl (Nat.le_of_ble_eq_true rfl) ⟨by first | exact Nat.le_of_ble_eq_true rfl | omega, by first | exact Nat.le_of_ble_eq_true rfl | omega⟩ (eRo ?_)
    refine ev_iconst (v := nI 1) dX11_isCode_19 rfl ?_
    refine ev_isub dX11_isCode_20 ?_
    refine ev_i2l dX11_isCode_21 rfl ?_
    refine ev_callSi dX11_isCode_22 c_X11_in lk_X11_45 ⟨Nat.le_of_ble_eq_true rfl, Nat.le_of_ble_eq_true rfl⟩ rfl (Nat.le_of_ble_eq_true rfl) ⟨by first | exact Nat.le_of_ble_eq_true rfl | omega, by first | exact Nat.le_of_ble_eq_true rfl | omega⟩ (eRo ?_)
    first | ((with_reducible show eV _ _ _ (Value.int (bI _) :: _) _ _ _ _); refine ev_if_eqB (tgt := 32) dX11_isCode_25 (by decide) (fun c_25 => ?_) (fun c_25 => ?_)) | ((with_reducible show eV _ _ _ (Value.int (nI _) :: _) _ _ _ _); refine ev_if_eqN (tgt := 32) dX11_isCode_25 (by decide) (by first | exact hB _ _ | omega) (fun c_25 => ?_) (fun c_25 => ?_)) | (refine ev_if_eqZ (tgt := 32) dX11_isCode_25 (by decide) (fun c_25 => ?_) (fun c_25 => ?_))
    · refine ev_iconst (v := nI 0) dX11_isCode_32 rfl ?_
      exact ev_iret dX11_isCode_33 rfl (by first | rfl | exact bI_n _) (by first | exact bR0 (decide_eq_false (fun q => by have c9 := of_decide_eq_false c_9; rw [i2lZ, lN_Z (by decide), show (4 : Int64).toInt = 4 by decide] at c9; omega)) | exact bR0 (decide_eq_false (fun q => by have c25 := of_decide_eq_false c_25; rw [i2lZ, i2lZ, zsub1 e26, lN_Z (by decide)] at c25; rw [em2] at q; omega)) | exact bR1 (decide_eq_true (by have c25 := of_decide_eq_true c_25; rw [i2lZ, i2lZ, zsub1 e26, lN_Z (by decide)] at c25; rw [em2]; omega))) (by rfl) (fun _ e => Option.some.inj e) (Nat.le_of_ble_eq_true rfl) (Nat.le_of_ble_eq_true rfl)
    · refine ev_iconst (v := nI 1) dX11_isCode_28 rfl ?_
      refine ev_goto (tgt := 33) dX11_isCode_29 (by decide) ?_
      exact ev_iret dX11_isCode_33 rfl (by first | rfl | exact bI_n _) (by first | exact bR0 (decide_eq_false (fun q => by have c9 := of_decide_eq_false c_9; rw [i2lZ, lN_Z (by decide), show (4 : Int64).toInt = 4 by decide] at c9; omega)) | exact bR0 (decide_eq_false (fun q => by have c25 := of_decide_eq_false c_25; rw [i2lZ, i2lZ, zsub1 e26, lN_Z (by decide)] at c25; rw [em2] at q; omega)) | exact bR1 (decide_eq_true (by have c25 := of_decide_eq_true c_25; rw [i2lZ, i2lZ, zsub1 e26, lN_Z (by decide)] at c25; rw [em2]; omega))) (by rfl) (fun _ e => Option.some.inj e) (Nat.le_of_ble_eq_true rfl) (Nat.le_of_ble_eq_true rfl)
set_option maxHeartbeats 4000000 in
set_option maxRecDepth 20000 in
theorem c_X11_isSetting {h : eH} {n : Nat} {x y : Int32} : kX11_isSetting [.int x, .int y] h n (.inl (some (.int (bI (decide ((0 ≤ x.toInt ∧ x.toInt < (3 : Nat)) ∧ (if x.toInt = (2 : Nat) then (0 : Int) else 1) ≤ y.toInt ∧ y.toInt < (10 : Nat)))))), (· = h), some n) 0 0 := by
  refine eM.of RX11 "isSetting" [(0, .int x), (1, .int y)] pn_X11 rfl rfl (Nat.le_of_ble_eq_true rfl) rfl ?_
  refine ev_iload_n dX11_isSetting_0 rfl rfl ?_
  refine ev_i2l dX11_isSetting_1 rfl ?_
  refine ev_lconst (v := lN 0) dX11_isSetting_2 rfl ?_
  refine ev_ldc2 dX11_isSetting_3 wq_X11_57 ?_
  refine ev_callSi dX11_isSetting_6 c_X11_in lk_X11_45 ⟨Nat.le_of_ble_eq_true rfl, Nat.le_of_ble_eq_true rfl⟩ rfl (Nat.le_of_ble_eq_true rfl) ⟨by first | exact Nat.le_of_ble_eq_true rfl | omega, by first | exact Nat.le_of_ble_eq_true rfl | omega⟩ (eRo ?_)
  first | ((with_reducible show eV _ _ _ (Value.int (bI _) :: _) _ _ _ _); refine ev_if_eqB (tgt := 37) dX11_isSetting_9 (by decide) (fun c_9 => ?_) (fun c_9 => ?_)) | ((with_reducible show eV _ _ _ (Value.int (nI _) :: _) _ _ _ _); refine ev_if_eqN (tgt := 37) dX11_isSetting_9 (by decide) (by first | exact hB _ _ | omega) (fun c_9 => ?_) (fun c_9 => ?_)) | (refine ev_if_eqZ (tgt := 37) dX11_isSetting_9 (by decide) (fun c_9 => ?_) (fun c_9 => ?_))
  · refine ev_iconst (v := nI 0) dX11_isSetting_37 rfl ?_
    exact ev_iret dX11_isSetting_38 rfl (by first | rfl | exact bI_n _) (by first | exact bR0 (decide_eq_false (fun q => by have c9 := of_decide_eq_false c_9; rw [i2lZ, lN_Z (by decide), show (2 : Int64).toInt = 2 by decide] at c9; omega)) | exact bR0 (decide_eq_false (fun q => by have c30 := of_decide_eq_false c_30; rw [i2lZ, lN_Z (by decide), show (9 : Int64).toInt = 9 by decide] at c30; split at q <;> omega)) | exact bR1 (decide_eq_true (by have c30 := of_decide_eq_true c_30; have c9 := of_decide_eq_true c_9; rw [i2lZ, lN_Z (by decide), show (9 : Int64).toInt = 9 by decide] at c30; rw [i2lZ, lN_Z (by decide), show (2 : Int64).toInt = 2 by decide] at c9; split <;> omega))) (by rfl) (fun _ e => Option.some.inj e) (Nat.le_of_ble_eq_true rfl) (Nat.le_of_ble_eq_true rfl)
  · refine ev_iload_n dX11_isSetting_12 rfl rfl ?_
    refine ev_i2l dX11_isSetting_13 rfl ?_
    refine ev_iload_n dX11_isSetting_14 rfl rfl ?_
    refine ev_iconst (v := nI 2) dX11_isSetting_15 rfl ?_
    first | ((with_reducible show eV _ _ _ (Value.int (nI _) :: Value.int (nI _) :: _) _ _ _ _); refine ev_icmp_neN (tgt := 23) dX11_isSetting_16 (by decide) (by first | exact hB _ _ | omega) (by first | exact hB _ _ | omega) (fun c_16 => ?_) (fun c_16 => ?_)) | ((with_reducible show eV _ _ _ (Value.int (-1) :: Value.int (oI _) :: _) _ _ _ _); refine ev_icmp_neO (tgt := 23) dX11_isSetting_16 (by decide) (by first | assumption | (intro k9 h9; exact absurd h9 (by simp)) | (intro k9 h9; have := (fst_lt h9).1; omega) | (intro k9 h9; cases h9; omega)) (fun c_16 => ?_) (fun c_16 => ?_)) | ((with_reducible show eV _ _ _ (Value.int (nI _) :: Value.int (oI _) :: _) _ _ _ _); refine ev_icmp_neON (tgt := 23) dX11_isSetting_16 (by decide) (by first | exact hB _ _ | omega) (by first | assumption | (intro k9 h9; exact absurd h9 (by simp)) | (intro k9 h9; have := (fst_lt h9).1; omega) | (intro k9 h9; cases h9; omega)) (fun c_16 => ?_) (fun c_16 => ?_)) | ((with_reducible show eV _ _ _ (Value.int (nI _) :: _) _ _ _ _); refine ev_icmp_neZN (tgt := 23) dX11_isSetting_16 (by decide) (by first | exact hB _ _ | omega) (fun c_16 => ?_) (fun c_16 => ?_)) | ((with_reducible show eV _ _ _ (_ :: Value.int (nI _) :: _) _ _ _ _); refine ev_icmp_neNZ (tgt := 23) dX11_isSetting_16 (by decide) (by first | exact hB _ _ | omega) (fun c_16 => ?_) (fun c_16 => ?_)) | (refine ev_icmp_neZZ (tgt := 23) dX11_isSetting_16 (by decide) (fun c_16 => ?_) (fun c_16 => ?_))
    · refine ev_lconst (v := lN 1) dX11_isSetting_23 rfl ?_
      refine ev_ldc2 dX11_isSetting_24 wq_X11_59 ?_
      refine ev_callSi dX11_isSetting_27 c_X11_in lk_X11_45 ⟨Nat.le_of_ble_eq_true rfl, Nat.le_of_ble_eq_true rfl⟩ rfl (Nat.le_of_ble_eq_true rfl) ⟨by first | exact Nat.le_of_ble_eq_true rfl | omega, by first | exact Nat.le_of_ble_eq_true rfl | omega⟩ (eRo ?_)
      first | ((with_reducible show eV _ _ _ (Value.int (bI _) :: _) _ _ _ _); refine ev_if_eqB (tgt := 37) dX11_isSetting_30 (by decide) (fun c_30 => ?_) (fun c_30 => ?_)) | ((with_reducible show eV _ _ _ (Value.int (nI _) :: _) _ _ _ _); refine ev_if_eqN (tgt := 37) dX11_isSetting_30 (by decide) (by first | exact hB _ _ | omega) (fun c_30 => ?_) (fun c_30 => ?_)) | (refine ev_if_eqZ (tgt := 37) dX11_isSetting_30 (by decide) (fun c_30 => ?_) (fun c_30 => ?_))
      · refine ev_iconst (v := nI 0) dX11_isSetting_37 rfl ?_
        exact ev_iret dX11_isSetting_38 rfl (by first | rfl | exact bI_n _) (by first | exact bR0 (decide_eq_false (fun q => by have c9 := of_decide_eq_false c_9; rw [i2lZ, lN_Z (by decide), show (2 : Int64).toInt = 2 by decide] at c9; omega)) | exact bR0 (decide_eq_false (fun q => by have c30 := of_decide_eq_false c_30; rw [i2lZ, lN_Z (by decide), show (9 : Int64).toInt = 9 by decide] at c30; split at q <;> omega)) | exact bR1 (decide_eq_true (by have c30 := of_decide_eq_true c_30; have c9 := of_decide_eq_true c_9; rw [i2lZ, lN_Z (by decide), show (9 : Int64).toInt = 9 by decide] at c30; rw [i2lZ, lN_Z (by decide), show (2 : Int64).toInt = 2 by decide] at c9; split <;> omega))) (by rfl) (fun _ e => Option.some.inj e) (Nat.le_of_ble_eq_true rfl) (Nat.le_of_ble_eq_true rfl)
      · refine ev_iconst (v := nI 1) dX11_isSetting_33 rfl ?_
        refine ev_goto (tgt := 38) dX11_isSetting_34 (by decide) ?_
        exact ev_iret dX11_isSetting_38 rfl (by first | rfl | exact bI_n _) (by first | exact bR0 (decide_eq_false (fun q => by have c9 := of_decide_eq_false c_9; rw [i2lZ, lN_Z (by decide), show (2 : Int64).toInt = 2 by decide] at c9; omega)) | exact bR0 (decide_eq_false (fun q => by have c30 := of_decide_eq_false c_30; rw [i2lZ, lN_Z (by decide), show (9 : Int64).toInt = 9 by decide] at c30; split at q <;> omega)) | exact bR1 (decide_eq_true (by have c30 := of_decide_eq_true c_30; have c9 := of_decide_eq_true c_9; rw [i2lZ, lN_Z (by decide), show (9 : Int64).toInt = 9 by decide] at c30; rw [i2lZ, lN_Z (by decide), show (2 : Int64).toInt = 2 by decide] at c9; split <;> omega))) (by rfl) (fun _ e => Option.some.inj e) (Nat.le_of_ble_eq_true rfl) (Nat.le_of_ble_eq_true rfl)
    · refine ev_lconst (v := lN 0) dX11_isSetting_19 rfl ?_
      refine ev_goto (tgt := 24) dX11_isSetting_20 (by decide) ?_
      refine ev_ldc2 dX11_isSetting_24 wq_X11_59 ?_
      refine ev_callSi dX11_isSetting_27 c_X11_in lk_X11_45 ⟨Nat.le_of_ble_eq_true rfl, Nat.le_of_ble_eq_true rfl⟩ rfl (Nat.le_of_ble_eq_true rfl) ⟨by first | exact Nat.le_of_ble_eq_true rfl | omega, by first | exact Nat.le_of_ble_eq_true rfl | omega⟩ (eRo ?_)
      first | ((with_reducible show eV _ _ _ (Value.int (bI _) :: _) _ _ _ _); refine ev_if_eqB (tgt := 37) dX11_isSetting_30 (by decide) (fun c_30 => ?_) (fun c_30 => ?_)) | ((with_reducible show eV _ _ _ (Value.int (nI _) :: _) _ _ _ _); refine ev_if_eqN (tgt := 37) dX11_isSetting_30 (by decide) (by first | exact hB _ _ | omega) (fun c_30 => ?_) (fun c_30 => ?_)) | (refine ev_if_eqZ (tgt := 37) dX11_isSetting_30 (by decide) (fun c_30 => ?_) (fun c_30 => ?_))
      · refine ev_iconst (v := nI 0) dX11_isSetting_37 rfl ?_
        exact ev_iret dX11_isSetting_38 rfl (by first | rfl | exact bI_n _) (by first | exact bR0 (decide_eq_false (fun q => by have c9 := of_decide_eq_false c_9; rw [i2lZ, lN_Z (by decide), show (2 : Int64).toInt = 2 by decide] at c9; omega)) | exact bR0 (decide_eq_false (fun q => by have c30 := of_decide_eq_false c_30; rw [i2lZ, lN_Z (by decide), show (9 : Int64).toInt = 9 by decide] at c30; split at q <;> omega)) | exact bR1 (decide_eq_true (by have c30 := of_decide_eq_true c_30; have c9 := of_decide_eq_true c_9; rw [i2lZ, lN_Z (by decide), show (9 : Int64).toInt = 9 by decide] at c30; rw [i2lZ, lN_Z (by decide), show (2 : Int64).toInt = 2 by decide] at c9; split <;> omega))) (by rfl) (fun _ e => Option.some.inj e) (Nat.le_of_ble_eq_true rfl) (Nat.le_of_ble_eq_true rfl)
      · refine ev_iconst (v := nI 1) dX11_isSetting_33 rfl ?_
        refine ev_goto (tgt := 38) dX11_isSetting_34 (by decide) ?_
        exact ev_iret dX11_isSetting_38 rfl (by first | rfl | exact bI_n _) (by first | exact bR0 (decide_eq_false (fun q => by have c9 := of_decide_eq_false c_9; rw [i2lZ, lN_Z (by decide), show (2 : Int64).toInt = 2 by decide] at c9; omega)) | exact bR0 (decide_eq_false (fun q => by have c30 := of_decide_eq_false c_30; rw [i2lZ, lN_Z (by decide), show (9 : Int64).toInt = 9 by decide] at c30; split at q <;> omega)) | exact bR1 (decide_eq_true (by have c30 := of_decide_eq_true c_30; have c9 := of_decide_eq_true c_9; rw [i2lZ, lN_Z (by decide), show (9 : Int64).toInt = 9 by decide] at c30; rw [i2lZ, lN_Z (by decide), show (2 : Int64).toInt = 2 by decide] at c9; split <;> omega))) (by rfl) (fun _ e => Option.some.inj e) (Nat.le_of_ble_eq_true rfl) (Nat.le_of_ble_eq_true rfl)
set_option maxHeartbeats 4000000 in
set_option maxRecDepth 20000 in
theorem c_X11_spot {h : eH} {n k : Nat} : kX11_spot [.int (nI k)] h n (.inl (some (.int (nI (60 + 8 * k)))), (· = h), some n) 0 0 := by
  refine eM.of RX11 "spot" [(0, .int (nI k))] pn_X11 rfl rfl (Nat.le_of_ble_eq_true rfl) rfl ?_
  refine ev_bipush (v := nI 60) dX11_spot_0 rfl ?_
  refine ev_bipush (v := nI 8) dX11_spot_2 rfl ?_
  refine ev_iload_n dX11_spot_4 rfl rfl ?_
  first | refine ev_imulN dX11_spot_5 ?_ | refine ev_imul dX11_spot_5 ?_
  first | refine ev_iaddN dX11_spot_6 ?_ | refine ev_iadd dX11_spot_6 ?_
  exact ev_iret dX11_spot_7 rfl rfl (by rfl) (by rfl) (fun _ e => Option.some.inj e) (Nat.le_of_ble_eq_true rfl) (Nat.le_of_ble_eq_true rfl)
set_option maxHeartbeats 4000000 in
set_option maxRecDepth 20000 in
theorem c_X11_isAlive {h : eH} {n a k : Nat} {σ : St} (hA : eRow h a σ) (hB : eB σ) (hk : k < 40) : kX11_isAlive [.ref a, .int (nI k)] h n (.inl (some (.int (bI (sAlive σ k)))), (· = h), some n) 0 0 := by
  refine eM.of RX11 "isAlive" [(0, .ref a), (1, .int (nI k))] pn_X11 rfl rfl (Nat.le_of_ble_eq_true rfl) rfl ?_
  refine ev_aload_n dX11_isAlive_0 rfl rfl ?_
  refine ev_iload_n dX11_isAlive_1 rfl rfl ?_
  refine ev_callSi dX11_isAlive_2 c_X11_spot lk_X11_61 ⟨Nat.le_of_ble_eq_true rfl, Nat.le_of_ble_eq_true rfl⟩ rfl (Nat.le_of_ble_eq_true rfl) ⟨by first | exact Nat.le_of_ble_eq_true rfl | omega, by first | exact Nat.le_of_ble_eq_true rfl | omega⟩ (eRo ?_)
  refine ev_bipush (v := nI 6) dX11_isAlive_5 rfl ?_
  first | refine ev_iaddN dX11_isAlive_7 ?_ | refine ev_iadd dX11_isAlive_7 ?_
  first | refine ev_rowN (f := 6) (F := 12) dX11_isAlive_8 (by assumption) (by first | assumption | omega | exact ePp.ob (by assumption) | exact eNm.ob (by assumption) | exact eRg.ob (by assumption) | exact eTx.ob (by assumption) | exact ePa.ob (by assumption)) (by decide) rfl ?_ | refine ev_ialoadA dX11_isAlive_8 (by first | assumption | omega | exact ePp.ob (by assumption) | exact eNm.ob (by assumption) | exact eRg.ob (by assumption) | exact eTx.ob (by assumption) | exact ePa.ob (by assumption)) (by first | assumption | omega | exact ePp.ob (by assumption) | exact eNm.ob (by assumption) | exact eRg.ob (by assumption) | exact eTx.ob (by assumption) | exact ePa.ob (by assumption)) ?_
  refine ev_iconst (v := nI 2) dX11_isAlive_9 rfl ?_
  first | ((with_reducible show eV _ _ _ (Value.int (nI _) :: Value.int (nI _) :: _) _ _ _ _); refine ev_icmp_geN (tgt := 17) dX11_isAlive_10 (by decide) (by first | exact hB _ _ | omega) (by first | exact hB _ _ | omega) (fun c_10 => ?_) (fun c_10 => ?_)) | ((with_reducible show eV _ _ _ (Value.int (nI _) :: _) _ _ _ _); refine ev_icmp_geZN (tgt := 17) dX11_isAlive_10 (by decide) (by first | exact hB _ _ | omega) (fun c_10 => ?_) (fun c_10 => ?_)) | ((with_reducible show eV _ _ _ (_ :: Value.int (nI _) :: _) _ _ _ _); refine ev_icmp_geNZ (tgt := 17) dX11_isAlive_10 (by decide) (by first | exact hB _ _ | omega) (fun c_10 => ?_) (fun c_10 => ?_)) | (refine ev_icmp_geZZ (tgt := 17) dX11_isAlive_10 (by decide) (fun c_10 => ?_) (fun c_10 => ?_))
  · refine ev_iconst (v := nI 0) dX11_isAlive_17 rfl ?_
    exact ev_iret dX11_isAlive_18 rfl (by first | rfl | exact bI_n _) (by first | exact bR0 (by simp only [sAlive, Bool.and_eq_true, Bool.and_eq_false_iff, Bool.or_eq_true, Bool.or_eq_false_iff, decide_eq_true_eq, decide_eq_false_iff_not, ne_eq]; omega) | exact bR1 (by simp only [sAlive, Bool.and_eq_true, Bool.and_eq_false_iff, Bool.or_eq_true, Bool.or_eq_false_iff, decide_eq_true_eq, decide_eq_false_iff_not, ne_eq]; omega) | exact bR0 (by simp [sAlive, *]; done) | exact bR1 (by simp [sAlive, *]; done)) (by rfl) (fun _ e => Option.some.inj e) (Nat.le_of_ble_eq_true rfl) (Nat.le_of_ble_eq_true rfl)
  · refine ev_iconst (v := nI 1) dX11_isAlive_13 rfl ?_
    refine ev_goto (tgt := 18) dX11_isAlive_14 (by decide) ?_
    exact ev_iret dX11_isAlive_18 rfl (by first | rfl | exact bI_n _) (by first | exact bR0 (by simp only [sAlive, Bool.and_eq_true, Bool.and_eq_false_iff, Bool.or_eq_true, Bool.or_eq_false_iff, decide_eq_true_eq, decide_eq_false_iff_not, ne_eq]; omega) | exact bR1 (by simp only [sAlive, Bool.and_eq_true, Bool.and_eq_false_iff, Bool.or_eq_true, Bool.or_eq_false_iff, decide_eq_true_eq, decide_eq_false_iff_not, ne_eq]; omega) | exact bR0 (by simp [sAlive, *]; done) | exact bR1 (by simp [sAlive, *]; done)) (by rfl) (fun _ e => Option.some.inj e) (Nat.le_of_ble_eq_true rfl) (Nat.le_of_ble_eq_true rfl)
set_option maxHeartbeats 4000000 in
set_option maxRecDepth 20000 in
theorem c_X11_isCalled {h : eH} {n a k m c : Nat} {σ : St} (hA : eRow h a σ) (hB : eB σ) (hk : k < 40) (hm : m < 2 ^ 31) (hc : c < 2 ^ 31) : kX11_isCalled [.ref a, .int (nI k), .int (nI m), .int (nI c)] h n (.inl (some (.int (bI (sIs σ k m c)))), (· = h), some n) 0 0 := by
  refine eM.of RX11 "isCalled" [(0, .ref a), (1, .int (nI k)), (2, .int (nI m)), (3, .int (nI c))] pn_X11 rfl rfl (Nat.le_of_ble_eq_true rfl) rfl ?_
  refine ev_aload_n dX11_isCalled_0 rfl rfl ?_
  refine ev_iload_n dX11_isCalled_1 rfl rfl ?_
  refine ev_callSi dX11_isCalled_2 (c_X11_isAlive hA hB hk) lk_X11_64 ⟨Nat.le_of_ble_eq_true rfl, Nat.le_of_ble_eq_true rfl⟩ rfl (Nat.le_of_ble_eq_true rfl) ⟨by first | exact Nat.le_of_ble_eq_true rfl | omega, by first | exact Nat.le_of_ble_eq_true rfl | omega⟩ (eRo ?_)
  first | ((with_reducible show eV _ _ _ (Value.int (bI _) :: _) _ _ _ _); refine ev_if_eqB (tgt := 36) dX11_isCalled_5 (by decide) (fun c_5 => ?_) (fun c_5 => ?_)) | ((with_reducible show eV _ _ _ (Value.int (nI _) :: _) _ _ _ _); refine ev_if_eqN (tgt := 36) dX11_isCalled_5 (by decide) (by first | exact hB _ _ | omega) (fun c_5 => ?_) (fun c_5 => ?_)) | (refine ev_if_eqZ (tgt := 36) dX11_isCalled_5 (by decide) (fun c_5 => ?_) (fun c_5 => ?_))
  · refine ev_iconst (v := nI 0) dX11_isCalled_36 rfl ?_
    exact ev_iret dX11_isCalled_37 rfl (by first | rfl | exact bI_n _) (by first | exact bR1 (by simp only [sIs, c_5, decide_eq_true c_17, decide_eq_true c_29]; rfl) | exact bR0 (by first | (simp [sIs, c_29] <;> omega) | (simp [sIs, c_17] <;> omega) | (simp [sIs, c_5] <;> omega))) (by rfl) (fun _ e => Option.some.inj e) (Nat.le_of_ble_eq_true rfl) (Nat.le_of_ble_eq_true rfl)
  · refine ev_aload_n dX11_isCalled_8 rfl rfl ?_
    refine ev_iload_n dX11_isCalled_9 rfl rfl ?_
    refine ev_callSi dX11_isCalled_10 c_X11_spot lk_X11_61 ⟨Nat.le_of_ble_eq_true rfl, Nat.le_of_ble_eq_true rfl⟩ rfl (Nat.le_of_ble_eq_true rfl) ⟨by first | exact Nat.le_of_ble_eq_true rfl | omega, by first | exact Nat.le_of_ble_eq_true rfl | omega⟩ (eRo ?_)
    refine ev_iconst (v := nI 0) dX11_isCalled_13 rfl ?_
    first | refine ev_iaddN dX11_isCalled_14 ?_ | refine ev_iadd dX11_isCalled_14 ?_
    first | refine ev_rowN (f := 0) (F := 6) dX11_isCalled_15 (by assumption) (by first | assumption | omega | exact ePp.ob (by assumption) | exact eNm.ob (by assumption) | exact eRg.ob (by assumption) | exact eTx.ob (by assumption) | exact ePa.ob (by assumption)) (by decide) rfl ?_ | refine ev_rowP (f := 0) (F := 1) dX11_isCalled_15 (by assumption) (by first | assumption | omega | exact ePp.ob (by assumption) | exact eNm.ob (by assumption) | exact eRg.ob (by assumption) | exact eTx.ob (by assumption) | exact ePa.ob (by assumption)) (by decide) rfl ?_ | refine ev_ialoadA dX11_isCalled_15 (by first | assumption | omega | exact ePp.ob (by assumption) | exact eNm.ob (by assumption) | exact eRg.ob (by assumption) | exact eTx.ob (by assumption) | exact ePa.ob (by assumption)) (by first | assumption | omega | exact ePp.ob (by assumption) | exact eNm.ob (by assumption) | exact eRg.ob (by assumption) | exact eTx.ob (by assumption) | exact ePa.ob (by assumption)) ?_
    refine ev_iload_n dX11_isCalled_16 rfl rfl ?_
    first | ((with_reducible show eV _ _ _ (Value.int (nI _) :: Value.int (nI _) :: _) _ _ _ _); refine ev_icmp_neN (tgt := 36) dX11_isCalled_17 (by decide) (by first | exact hB _ _ | omega) (by first | exact hB _ _ | omega) (fun c_17 => ?_) (fun c_17 => ?_)) | ((with_reducible show eV _ _ _ (Value.int (-1) :: Value.int (oI _) :: _) _ _ _ _); refine ev_icmp_neO (tgt := 36) dX11_isCalled_17 (by decide) (by first | assumption | (intro k9 h9; exact absurd h9 (by simp)) | (intro k9 h9; have := (fst_lt h9).1; omega) | (intro k9 h9; cases h9; omega)) (fun c_17 => ?_) (fun c_17 => ?_)) | ((with_reducible show eV _ _ _ (Value.int (nI _) :: Value.int (oI _) :: _) _ _ _ _); refine ev_icmp_neON (tgt := 36) dX11_isCalled_17 (by decide) (by first | exact hB _ _ | omega) (by first | assumption | (intro k9 h9; exact absurd h9 (by simp)) | (intro k9 h9; have := (fst_lt h9).1; omega) | (intro k9 h9; cases h9; omega)) (fun c_17 => ?_) (fun c_17 => ?_)) | ((with_reducible show eV _ _ _ (Value.int (nI _) :: _) _ _ _ _); refine ev_icmp_neZN (tgt := 36) dX11_isCalled_17 (by decide) (by first | exact hB _ _ | omega) (fun c_17 => ?_) (fun c_17 => ?_)) | ((with_reducible show eV _ _ _ (_ :: Value.int (nI _) :: _) _ _ _ _); refine ev_icmp_neNZ (tgt := 36) dX11_isCalled_17 (by decide) (by first | exact hB _ _ | omega) (fun c_17 => ?_) (fun c_17 => ?_)) | (refine ev_icmp_neZZ (tgt := 36) dX11_isCalled_17 (by decide) (fun c_17 => ?_) (fun c_17 => ?_))
    · refine ev_iconst (v := nI 0) dX11_isCalled_36 rfl ?_
      exact ev_iret dX11_isCalled_37 rfl (by first | rfl | exact bI_n _) (by first | exact bR1 (by simp only [sIs, c_5, decide_eq_true c_17, decide_eq_true c_29]; rfl) | exact bR0 (by first | (simp [sIs, c_29] <;> omega) | (simp [sIs, c_17] <;> omega) | (simp [sIs, c_5] <;> omega))) (by rfl) (fun _ e => Option.some.inj e) (Nat.le_of_ble_eq_true rfl) (Nat.le_of_ble_eq_true rfl)
    · refine ev_aload_n dX11_isCalled_20 rfl rfl ?_
      refine ev_iload_n dX11_isCalled_21 rfl rfl ?_
      refine ev_callSi dX11_isCalled_22 c_X11_spot lk_X11_61 ⟨Nat.le_of_ble_eq_true rfl, Nat.le_of_ble_eq_true rfl⟩ rfl (Nat.le_of_ble_eq_true rfl) ⟨by first | exact Nat.le_of_ble_eq_true rfl | omega, by first | exact Nat.le_of_ble_eq_true rfl | omega⟩ (eRo ?_)
      refine ev_iconst (v := nI 1) dX11_isCalled_25 rfl ?_
      first | refine ev_iaddN dX11_isCalled_26 ?_ | refine ev_iadd dX11_isCalled_26 ?_
      first | refine ev_rowN (f := 1) (F := 7) dX11_isCalled_27 (by assumption) (by first | assumption | omega | exact ePp.ob (by assumption) | exact eNm.ob (by assumption) | exact eRg.ob (by assumption) | exact eTx.ob (by assumption) | exact ePa.ob (by assumption)) (by decide) rfl ?_ | refine ev_rowP (f := 1) (F := 2) dX11_isCalled_27 (by assumption) (by first | assumption | omega | exact ePp.ob (by assumption) | exact eNm.ob (by assumption) | exact eRg.ob (by assumption) | exact eTx.ob (by assumption) | exact ePa.ob (by assumption)) (by decide) rfl ?_ | refine ev_ialoadA dX11_isCalled_27 (by first | assumption | omega | exact ePp.ob (by assumption) | exact eNm.ob (by assumption) | exact eRg.ob (by assumption) | exact eTx.ob (by assumption) | exact ePa.ob (by assumption)) (by first | assumption | omega | exact ePp.ob (by assumption) | exact eNm.ob (by assumption) | exact eRg.ob (by assumption) | exact eTx.ob (by assumption) | exact ePa.ob (by assumption)) ?_
      refine ev_iload_n dX11_isCalled_28 rfl rfl ?_
      first | ((with_reducible show eV _ _ _ (Value.int (nI _) :: Value.int (nI _) :: _) _ _ _ _); refine ev_icmp_neN (tgt := 36) dX11_isCalled_29 (by decide) (by first | exact hB _ _ | omega) (by first | exact hB _ _ | omega) (fun c_29 => ?_) (fun c_29 => ?_)) | ((with_reducible show eV _ _ _ (Value.int (-1) :: Value.int (oI _) :: _) _ _ _ _); refine ev_icmp_neO (tgt := 36) dX11_isCalled_29 (by decide) (by first | assumption | (intro k9 h9; exact absurd h9 (by simp)) | (intro k9 h9; have := (fst_lt h9).1; omega) | (intro k9 h9; cases h9; omega)) (fun c_29 => ?_) (fun c_29 => ?_)) | ((with_reducible show eV _ _ _ (Value.int (nI _) :: Value.int (oI _) :: _) _ _ _ _); refine ev_icmp_neON (tgt := 36) dX11_isCalled_29 (by decide) (by first | exact hB _ _ | omega) (by first | assumption | (intro k9 h9; exact absurd h9 (by simp)) | (intro k9 h9; have := (fst_lt h9).1; omega) | (intro k9 h9; cases h9; omega)) (fun c_29 => ?_) (fun c_29 => ?_)) | ((with_reducible show eV _ _ _ (Value.int (nI _) :: _) _ _ _ _); refine ev_icmp_neZN (tgt := 36) dX11_isCalled_29 (by decide) (by first | exact hB _ _ | omega) (fun c_29 => ?_) (fun c_29 => ?_)) | ((with_reducible show eV _ _ _ (_ :: Value.int (nI _) :: _) _ _ _ _); refine ev_icmp_neNZ (tgt := 36) dX11_isCalled_29 (by decide) (by first | exact hB _ _ | omega) (fun c_29 => ?_) (fun c_29 => ?_)) | (refine ev_icmp_neZZ (tgt := 36) dX11_isCalled_29 (by decide) (fun c_29 => ?_) (fun c_29 => ?_))
      · refine ev_iconst (v := nI 0) dX11_isCalled_36 rfl ?_
        exact ev_iret dX11_isCalled_37 rfl (by first | rfl | exact bI_n _) (by first | exact bR1 (by simp only [sIs, c_5, decide_eq_true c_17, decide_eq_true c_29]; rfl) | exact bR0 (by first | (simp [sIs, c_29] <;> omega) | (simp [sIs, c_17] <;> omega) | (simp [sIs, c_5] <;> omega))) (by rfl) (fun _ e => Option.some.inj e) (Nat.le_of_ble_eq_true rfl) (Nat.le_of_ble_eq_true rfl)
      · refine ev_iconst (v := nI 1) dX11_isCalled_32 rfl ?_
        refine ev_goto (tgt := 37) dX11_isCalled_33 (by decide) ?_
        exact ev_iret dX11_isCalled_37 rfl (by first | rfl | exact bI_n _) (by first | exact bR1 (by simp only [sIs, c_5, decide_eq_true c_17, decide_eq_true c_29]; rfl) | exact bR0 (by first | (simp [sIs, c_29] <;> omega) | (simp [sIs, c_17] <;> omega) | (simp [sIs, c_5] <;> omega))) (by rfl) (fun _ e => Option.some.inj e) (Nat.le_of_ble_eq_true rfl) (Nat.le_of_ble_eq_true rfl)
set_option maxHeartbeats 4000000 in
set_option maxRecDepth 20000 in
theorem c_X11_lives {h : eH} {n a p : Nat} {σ : St} (hA : eRow h a σ) (hB : eB σ) (h40 : σ 0 1 ≤ 40) (hp : p < 2 ^ 31) : kX11_lives [.ref a, .int (nI p)] h n (.inl (some (.int (nI (sLives σ p)))), (· = h), some n) 0 0 := by
  refine eM.of RX11 "lives" [(0, .ref a), (1, .int (nI p))] pn_X11 rfl rfl (Nat.le_of_ble_eq_true rfl) rfl ?_
  refine ev_iconst (v := nI 0) dX11_lives_0 rfl ?_
  refine ev_istore_n dX11_lives_1 rfl (Nat.le_of_ble_eq_true rfl) ?_
  refine ev_iconst (v := nI 0) dX11_lives_2 rfl ?_
  refine ev_istore_n dX11_lives_3 rfl (Nat.le_of_ble_eq_true rfl) ?_
  have H_4 : ∀ (d_4 : Nat) (k f : Nat), d_4 = σ 0 1 - k → (k ≤ σ 0 1) → (f = cnt (fun k => decide (σ 9 k = p) && sAlive σ k) k) → eV mX11_lives 4 [(0, .ref a), (1, .int (nI p)), (2, .int (nI f)), (3, .int (nI k))] [] (h, n, 0, 0) (.inl (some (.int (nI (sLives σ p)))), (· = h), some n) 0 0 := by
    intro d_4
    induction d_4 using Nat.strongRecOn with
    | _ d_4 ih_4 =>
    intro k f hd_4 hk hf
    refine ev_iload_n dX11_lives_4 rfl rfl ?_
    refine ev_aload_n dX11_lives_5 rfl rfl ?_
    refine ev_sipush (v := nI 381) dX11_lives_6 rfl ?_
    first | refine ev_rowG (f := 0) (j := 1) dX11_lives_9 (by assumption) (Nat.le_of_ble_eq_true rfl) (fun _ => rfl) ?_ | refine ev_ialoadA dX11_lives_9 (by first | assumption | omega | exact ePp.ob (by assumption) | exact eNm.ob (by assumption) | exact eRg.ob (by assumption) | exact eTx.ob (by assumption) | exact ePa.ob (by assumption)) (by first | assumption | omega | exact ePp.ob (by assumption) | exact eNm.ob (by assumption) | exact eRg.ob (by assumption) | exact eTx.ob (by assumption) | exact ePa.ob (by assumption)) ?_
    first | ((with_reducible show eV _ _ _ (Value.int (nI _) :: Value.int (nI _) :: _) _ _ _ _); refine ev_icmp_geN (tgt := 47) dX11_lives_10 (by decide) (by first | exact hB _ _ | omega) (by first | exact hB _ _ | omega) (fun c_10 => ?_) (fun c_10 => ?_)) | ((with_reducible show eV _ _ _ (Value.int (nI _) :: _) _ _ _ _); refine ev_icmp_geZN (tgt := 47) dX11_lives_10 (by decide) (by first | exact hB _ _ | omega) (fun c_10 => ?_) (fun c_10 => ?_)) | ((with_reducible show eV _ _ _ (_ :: Value.int (nI _) :: _) _ _ _ _); refine ev_icmp_geNZ (tgt := 47) dX11_lives_10 (by decide) (by first | exact hB _ _ | omega) (fun c_10 => ?_) (fun c_10 => ?_)) | (refine ev_icmp_geZZ (tgt := 47) dX11_lives_10 (by decide) (fun c_10 => ?_) (fun c_10 => ?_))
    · refine ev_iload_n dX11_lives_47 rfl rfl ?_
      exact ev_iret dX11_lives_48 rfl rfl (by exact nR (by have e : k = σ 0 1 := (by omega); rw [sLives, hf, ← e])) (by rfl) (fun _ e => by first | exact Option.some.inj e | (have e2 := Option.some.inj e; omega)) (by first | exact Nat.le_of_ble_eq_true rfl | omega) (by first | exact Nat.le_of_ble_eq_true rfl | omega)
    · refine ev_iload_n dX11_lives_13 rfl rfl ?_
      refine ev_aload_n dX11_lives_14 rfl rfl ?_
      refine ev_iload_n dX11_lives_15 rfl rfl ?_
      refine ev_callSi dX11_lives_16 (c_X11_isAlive hA hB (by omega)) lk_X11_64 ⟨Nat.le_of_ble_eq_true rfl, Nat.le_of_ble_eq_true rfl⟩ rfl (Nat.le_of_ble_eq_true rfl) ⟨by first | exact Nat.le_of_ble_eq_true rfl | omega, by first | exact Nat.le_of_ble_eq_true rfl | omega⟩ (eRo ?_)
      first | ((with_reducible show eV _ _ _ (Value.int (bI _) :: _) _ _ _ _); refine ev_if_eqB (tgt := 38) dX11_lives_19 (by decide) (fun c_19 => ?_) (fun c_19 => ?_)) | ((with_reducible show eV _ _ _ (Value.int (nI _) :: _) _ _ _ _); refine ev_if_eqN (tgt := 38) dX11_lives_19 (by decide) (by first | exact hB _ _ | omega) (fun c_19 => ?_) (fun c_19 => ?_)) | (refine ev_if_eqZ (tgt := 38) dX11_lives_19 (by decide) (fun c_19 => ?_) (fun c_19 => ?_))
      · refine ev_iconst (v := nI 0) dX11_lives_38 rfl ?_
        first | refine ev_iaddN dX11_lives_39 ?_ | refine ev_iadd dX11_lives_39 ?_
        refine ev_istore_n dX11_lives_40 rfl (Nat.le_of_ble_eq_true rfl) ?_
        first | refine ev_iincN dX11_lives_41 rfl (Nat.le_of_ble_eq_true rfl) ?_ | refine ev_iinc dX11_lives_41 rfl rfl (Nat.le_of_ble_eq_true rfl) ?_
        refine ev_goto (tgt := 4) dX11_lives_44 (by decide) ?_
        exact (ih_4 _ (by omega) _ _  rfl (by first | omega | assumption | rfl) (by first | exact cnt_T (by simp [c_19, c_31]) hf | exact cnt_F (by first | (simp [c_31] <;> omega) | (simp [c_19] <;> omega)) hf)).sub1 ⟨rfl, rfl, rfl, rfl, trivial⟩ rfl
      · refine ev_aload_n dX11_lives_22 rfl rfl ?_
        refine ev_iload_n dX11_lives_23 rfl rfl ?_
        refine ev_callSi dX11_lives_24 c_X11_spot lk_X11_61 ⟨Nat.le_of_ble_eq_true rfl, Nat.le_of_ble_eq_true rfl⟩ rfl (Nat.le_of_ble_eq_true rfl) ⟨by first | exact Nat.le_of_ble_eq_true rfl | omega, by first | exact Nat.le_of_ble_eq_true rfl | omega⟩ (eRo ?_)
        refine ev_iconst (v := nI 3) dX11_lives_27 rfl ?_
        first | refine ev_iaddN dX11_lives_28 ?_ | refine ev_iadd dX11_lives_28 ?_
        first | refine ev_rowN (f := 3) (F := 9) dX11_lives_29 (by assumption) (by first | assumption | omega | exact ePp.ob (by assumption) | exact eNm.ob (by assumption) | exact eRg.ob (by assumption) | exact eTx.ob (by assumption) | exact ePa.ob (by assumption)) (by decide) rfl ?_ | refine ev_rowP (f := 3) (F := 4) dX11_lives_29 (by assumption) (by first | assumption | omega | exact ePp.ob (by assumption) | exact eNm.ob (by assumption) | exact eRg.ob (by assumption) | exact eTx.ob (by assumption) | exact ePa.ob (by assumption)) (by decide) rfl ?_ | refine ev_ialoadA dX11_lives_29 (by first | assumption | omega | exact ePp.ob (by assumption) | exact eNm.ob (by assumption) | exact eRg.ob (by assumption) | exact eTx.ob (by assumption) | exact ePa.ob (by assumption)) (by first | assumption | omega | exact ePp.ob (by assumption) | exact eNm.ob (by assumption) | exact eRg.ob (by assumption) | exact eTx.ob (by assumption) | exact ePa.ob (by assumption)) ?_
        refine ev_iload_n dX11_lives_30 rfl rfl ?_
        first | ((with_reducible show eV _ _ _ (Value.int (nI _) :: Value.int (nI _) :: _) _ _ _ _); refine ev_icmp_neN (tgt := 38) dX11_lives_31 (by decide) (by first | exact hB _ _ | omega) (by first | exact hB _ _ | omega) (fun c_31 => ?_) (fun c_31 => ?_)) | ((with_reducible show eV _ _ _ (Value.int (-1) :: Value.int (oI _) :: _) _ _ _ _); refine ev_icmp_neO (tgt := 38) dX11_lives_31 (by decide) (by first | assumption | (intro k9 h9; exact absurd h9 (by simp)) | (intro k9 h9; have := (fst_lt h9).1; omega) | (intro k9 h9; cases h9; omega)) (fun c_31 => ?_) (fun c_31 => ?_)) | ((with_reducible show eV _ _ _ (Value.int (nI _) :: Value.int (oI _) :: _) _ _ _ _); refine ev_icmp_neON (tgt := 38) dX11_lives_31 (by decide) (by first | exact hB _ _ | omega) (by first | assumption | (intro k9 h9; exact absurd h9 (by simp)) | (intro k9 h9; have := (fst_lt h9).1; omega) | (intro k9 h9; cases h9; omega)) (fun c_31 => ?_) (fun c_31 => ?_)) | ((with_reducible show eV _ _ _ (Value.int (nI _) :: _) _ _ _ _); refine ev_icmp_neZN (tgt := 38) dX11_lives_31 (by decide) (by first | exact hB _ _ | omega) (fun c_31 => ?_) (fun c_31 => ?_)) | ((with_reducible show eV _ _ _ (_ :: Value.int (nI _) :: _) _ _ _ _); refine ev_icmp_neNZ (tgt := 38) dX11_lives_31 (by decide) (by first | exact hB _ _ | omega) (fun c_31 => ?_) (fun c_31 => ?_)) | (refine ev_icmp_neZZ (tgt := 38) dX11_lives_31 (by decide) (fun c_31 => ?_) (fun c_31 => ?_))
        · refine ev_iconst (v := nI 0) dX11_lives_38 rfl ?_
          first | refine ev_iaddN dX11_lives_39 ?_ | refine ev_iadd dX11_lives_39 ?_
          refine ev_istore_n dX11_lives_40 rfl (Nat.le_of_ble_eq_true rfl) ?_
          first | refine ev_iincN dX11_lives_41 rfl (Nat.le_of_ble_eq_true rfl) ?_ | refine ev_iinc dX11_lives_41 rfl rfl (Nat.le_of_ble_eq_true rfl) ?_
          refine ev_goto (tgt := 4) dX11_lives_44 (by decide) ?_
          exact (ih_4 _ (by omega) _ _  rfl (by first | omega | assumption | rfl) (by first | exact cnt_T (by simp [c_19, c_31]) hf | exact cnt_F (by first | (simp [c_31] <;> omega) | (simp [c_19] <;> omega)) hf)).sub1 ⟨rfl, rfl, rfl, rfl, trivial⟩ rfl
        · refine ev_iconst (v := nI 1) dX11_lives_34 rfl ?_
          refine ev_goto (tgt := 39) dX11_lives_35 (by decide) ?_
          first | refine ev_iaddN dX11_lives_39 ?_ | refine ev_iadd dX11_lives_39 ?_
          refine ev_istore_n dX11_lives_40 rfl (Nat.le_of_ble_eq_true rfl) ?_
          first | refine ev_iincN dX11_lives_41 rfl (Nat.le_of_ble_eq_true rfl) ?_ | refine ev_iinc dX11_lives_41 rfl rfl (Nat.le_of_ble_eq_true rfl) ?_
          refine ev_goto (tgt := 4) dX11_lives_44 (by decide) ?_
          exact (ih_4 _ (by omega) _ _  rfl (by first | omega | assumption | rfl) (by first | exact cnt_T (by simp [c_19, c_31]) hf | exact cnt_F (by first | (simp [c_31] <;> omega) | (simp [c_19] <;> omega)) hf)).sub1 ⟨rfl, rfl, rfl, rfl, trivial⟩ rfl
  exact (H_4 _ 0 0 rfl (by first | omega | assumption | rfl) (by first | omega | assumption | rfl)).sub1 ⟨rfl, rfl, rfl, rfl, trivial⟩ rfl
set_option maxHeartbeats 4000000 in
set_option maxRecDepth 20000 in
theorem c_X11_areBrothers {h : eH} {n a p q : Nat} {σ : St} (hA : eRow h a σ) (hB : eB σ) (hp : p < 12) (hq : q < 12) : kX11_areBrothers [.ref a, .int (nI p), .int (nI q)] h n (.inl (some (.int (bI (sBro σ p q)))), (· = h), some n) 0 0 := by
  refine eM.of RX11 "areBrothers" [(0, .ref a), (1, .int (nI p)), (2, .int (nI q))] pn_X11 rfl rfl (Nat.le_of_ble_eq_true rfl) rfl ?_
  refine ev_iload_n dX11_areBrothers_0 rfl rfl ?_
  refine ev_iload_n dX11_areBrothers_1 rfl rfl ?_
  first | ((with_reducible show eV _ _ _ (Value.int (nI _) :: Value.int (nI _) :: _) _ _ _ _); refine ev_icmp_eqN (tgt := 26) dX11_areBrothers_2 (by decide) (by first | exact hB _ _ | omega) (by first | exact hB _ _ | omega) (fun c_2 => ?_) (fun c_2 => ?_)) | ((with_reducible show eV _ _ _ (Value.int (-1) :: Value.int (oI _) :: _) _ _ _ _); refine ev_icmp_eqO (tgt := 26) dX11_areBrothers_2 (by decide) (by first | assumption | (intro k9 h9; exact absurd h9 (by simp)) | (intro k9 h9; have := (fst_lt h9).1; omega) | (intro k9 h9; cases h9; omega)) (fun c_2 => ?_) (fun c_2 => ?_)) | ((with_reducible show eV _ _ _ (Value.int (oI _) :: Value.int (nI _) :: _) _ _ _ _); refine ev_icmp_eqNO (tgt := 26) dX11_areBrothers_2 (by decide) (by first | exact hB _ _ | omega) (by first | assumption | (intro k9 h9; exact absurd h9 (by simp)) | (intro k9 h9; have := (fst_lt h9).1; omega) | (intro k9 h9; cases h9; omega)) (fun c_2 => ?_) (fun c_2 => ?_)) | ((with_reducible show eV _ _ _ (Value.int (nI _) :: Value.int (oI _) :: _) _ _ _ _); refine ev_icmp_eqON (tgt := 26) dX11_areBrothers_2 (by decide) (by first | exact hB _ _ | omega) (by first | assumption | (intro k9 h9; exact absurd h9 (by simp)) | (intro k9 h9; have := (fst_lt h9).1; omega) | (intro k9 h9; cases h9; omega)) (fun c_2 => ?_) (fun c_2 => ?_)) | ((with_reducible show eV _ _ _ (Value.int (nI _) :: _) _ _ _ _); refine ev_icmp_eqZN (tgt := 26) dX11_areBrothers_2 (by decide) (by first | exact hB _ _ | omega) (fun c_2 => ?_) (fun c_2 => ?_)) | ((with_reducible show eV _ _ _ (_ :: Value.int (nI _) :: _) _ _ _ _); refine ev_icmp_eqNZ (tgt := 26) dX11_areBrothers_2 (by decide) (by first | exact hB _ _ | omega) (fun c_2 => ?_) (fun c_2 => ?_)) | (refine ev_icmp_eqZZ (tgt := 26) dX11_areBrothers_2 (by decide) (fun c_2 => ?_) (fun c_2 => ?_))
  · refine ev_iconst (v := nI 0) dX11_areBrothers_26 rfl ?_
    exact ev_iret dX11_areBrothers_27 rfl (by first | rfl | exact bI_n _) (by first | exact bR1 (by simp [sBro, c_2, c_19] <;> omega) | exact bR0 (by first | (simp [sBro, c_19] <;> omega) | (simp [sBro, c_2] <;> omega))) (by rfl) (fun _ e => Option.some.inj e) (Nat.le_of_ble_eq_true rfl) (Nat.le_of_ble_eq_true rfl)
  · refine ev_aload_n dX11_areBrothers_5 rfl rfl ?_
    refine ev_iconst (v := nI 5) dX11_areBrothers_6 rfl ?_
    refine ev_iload_n dX11_areBrothers_7 rfl rfl ?_
    first | refine ev_imulN dX11_areBrothers_8 ?_ | refine ev_imul dX11_areBrothers_8 ?_
    refine ev_iconst (v := nI 1) dX11_areBrothers_9 rfl ?_
    first | refine ev_iaddN dX11_areBrothers_10 ?_ | refine ev_iadd dX11_areBrothers_10 ?_
    first | refine ev_rowN (f := 1) (F := 7) dX11_areBrothers_11 (by assumption) (by first | assumption | omega | exact ePp.ob (by assumption) | exact eNm.ob (by assumption) | exact eRg.ob (by assumption) | exact eTx.ob (by assumption) | exact ePa.ob (by assumption)) (by decide) rfl ?_ | refine ev_rowP (f := 1) (F := 2) dX11_areBrothers_11 (by assumption) (by first | assumption | omega | exact ePp.ob (by assumption) | exact eNm.ob (by assumption) | exact eRg.ob (by assumption) | exact eTx.ob (by assumption) | exact ePa.ob (by assumption)) (by decide) rfl ?_ | refine ev_ialoadA dX11_areBrothers_11 (by first | assumption | omega | exact ePp.ob (by assumption) | exact eNm.ob (by assumption) | exact eRg.ob (by assumption) | exact eTx.ob (by assumption) | exact ePa.ob (by assumption)) (by first | assumption | omega | exact ePp.ob (by assumption) | exact eNm.ob (by assumption) | exact eRg.ob (by assumption) | exact eTx.ob (by assumption) | exact ePa.ob (by assumption)) ?_
    refine ev_aload_n dX11_areBrothers_12 rfl rfl ?_
    refine ev_iconst (v := nI 5) dX11_areBrothers_13 rfl ?_
    refine ev_iload_n dX11_areBrothers_14 rfl rfl ?_
    first | refine ev_imulN dX11_areBrothers_15 ?_ | refine ev_imul dX11_areBrothers_15 ?_
    refine ev_iconst (v := nI 1) dX11_areBrothers_16 rfl ?_
    first | refine ev_iaddN dX11_areBrothers_17 ?_ | refine ev_iadd dX11_areBrothers_17 ?_
    first | refine ev_rowN (f := 1) (F := 7) dX11_areBrothers_18 (by assumption) (by first | assumption | omega | exact ePp.ob (by assumption) | exact eNm.ob (by assumption) | exact eRg.ob (by assumption) | exact eTx.ob (by assumption) | exact ePa.ob (by assumption)) (by decide) rfl ?_ | refine ev_rowP (f := 1) (F := 2) dX11_areBrothers_18 (by assumption) (by first | assumption | omega | exact ePp.ob (by assumption) | exact eNm.ob (by assumption) | exact eRg.ob (by assumption) | exact eTx.ob (by assumption) | exact ePa.ob (by assumption)) (by decide) rfl ?_ | refine ev_ialoadA dX11_areBrothers_18 (by first | assumption | omega | exact ePp.ob (by assumption) | exact eNm.ob (by assumption) | exact eRg.ob (by assumption) | exact eTx.ob (by assumption) | exact ePa.ob (by assumption)) (by first | assumption | omega | exact ePp.ob (by assumption) | exact eNm.ob (by assumption) | exact eRg.ob (by assumption) | exact eTx.ob (by assumption) | exact ePa.ob (by assumption)) ?_
    first | ((with_reducible show eV _ _ _ (Value.int (nI _) :: Value.int (nI _) :: _) _ _ _ _); refine ev_icmp_neN (tgt := 26) dX11_areBrothers_19 (by decide) (by first | exact hB _ _ | omega) (by first | exact hB _ _ | omega) (fun c_19 => ?_) (fun c_19 => ?_)) | ((with_reducible show eV _ _ _ (Value.int (-1) :: Value.int (oI _) :: _) _ _ _ _); refine ev_icmp_neO (tgt := 26) dX11_areBrothers_19 (by decide) (by first | assumption | (intro k9 h9; exact absurd h9 (by simp)) | (intro k9 h9; have := (fst_lt h9).1; omega) | (intro k9 h9; cases h9; omega)) (fun c_19 => ?_) (fun c_19 => ?_)) | ((with_reducible show eV _ _ _ (Value.int (nI _) :: Value.int (oI _) :: _) _ _ _ _); refine ev_icmp_neON (tgt := 26) dX11_areBrothers_19 (by decide) (by first | exact hB _ _ | omega) (by first | assumption | (intro k9 h9; exact absurd h9 (by simp)) | (intro k9 h9; have := (fst_lt h9).1; omega) | (intro k9 h9; cases h9; omega)) (fun c_19 => ?_) (fun c_19 => ?_)) | ((with_reducible show eV _ _ _ (Value.int (nI _) :: _) _ _ _ _); refine ev_icmp_neZN (tgt := 26) dX11_areBrothers_19 (by decide) (by first | exact hB _ _ | omega) (fun c_19 => ?_) (fun c_19 => ?_)) | ((with_reducible show eV _ _ _ (_ :: Value.int (nI _) :: _) _ _ _ _); refine ev_icmp_neNZ (tgt := 26) dX11_areBrothers_19 (by decide) (by first | exact hB _ _ | omega) (fun c_19 => ?_) (fun c_19 => ?_)) | (refine ev_icmp_neZZ (tgt := 26) dX11_areBrothers_19 (by decide) (fun c_19 => ?_) (fun c_19 => ?_))
    · refine ev_iconst (v := nI 0) dX11_areBrothers_26 rfl ?_
      exact ev_iret dX11_areBrothers_27 rfl (by first | rfl | exact bI_n _) (by first | exact bR1 (by simp [sBro, c_2, c_19] <;> omega) | exact bR0 (by first | (simp [sBro, c_19] <;> omega) | (simp [sBro, c_2] <;> omega))) (by rfl) (fun _ e => Option.some.inj e) (Nat.le_of_ble_eq_true rfl) (Nat.le_of_ble_eq_true rfl)
    · refine ev_iconst (v := nI 1) dX11_areBrothers_22 rfl ?_
      refine ev_goto (tgt := 27) dX11_areBrothers_23 (by decide) ?_
      exact ev_iret dX11_areBrothers_27 rfl (by first | rfl | exact bI_n _) (by first | exact bR1 (by simp [sBro, c_2, c_19] <;> omega) | exact bR0 (by first | (simp [sBro, c_19] <;> omega) | (simp [sBro, c_2] <;> omega))) (by rfl) (fun _ e => Option.some.inj e) (Nat.le_of_ble_eq_true rfl) (Nat.le_of_ble_eq_true rfl)
set_option maxHeartbeats 4000000 in
set_option maxRecDepth 20000 in
theorem c_X11_benchOf {h : eH} {n a p : Nat} {σ : St} (hA : eRow h a σ) (hp : p < 12) : kX11_benchOf [.ref a, .int (nI p)] h n (.inl (some (.int (nI (σ 3 p)))), (· = h), some n) 0 0 := by
  refine eM.of RX11 "benchOf" [(0, .ref a), (1, .int (nI p))] pn_X11 rfl rfl (Nat.le_of_ble_eq_true rfl) rfl ?_
  refine ev_aload_n dX11_benchOf_0 rfl rfl ?_
  refine ev_iconst (v := nI 5) dX11_benchOf_1 rfl ?_
  refine ev_iload_n dX11_benchOf_2 rfl rfl ?_
  first | refine ev_imulN dX11_benchOf_3 ?_ | refine ev_imul dX11_benchOf_3 ?_
  refine ev_iconst (v := nI 2) dX11_benchOf_4 rfl ?_
  first | refine ev_iaddN dX11_benchOf_5 ?_ | refine ev_iadd dX11_benchOf_5 ?_
  first | refine ev_rowN (f := 2) (F := 8) dX11_benchOf_6 (by assumption) (by first | assumption | omega | exact ePp.ob (by assumption) | exact eNm.ob (by assumption) | exact eRg.ob (by assumption) | exact eTx.ob (by assumption) | exact ePa.ob (by assumption)) (by decide) rfl ?_ | refine ev_rowP (f := 2) (F := 3) dX11_benchOf_6 (by assumption) (by first | assumption | omega | exact ePp.ob (by assumption) | exact eNm.ob (by assumption) | exact eRg.ob (by assumption) | exact eTx.ob (by assumption) | exact ePa.ob (by assumption)) (by decide) rfl ?_ | refine ev_ialoadA dX11_benchOf_6 (by first | assumption | omega | exact ePp.ob (by assumption) | exact eNm.ob (by assumption) | exact eRg.ob (by assumption) | exact eTx.ob (by assumption) | exact ePa.ob (by assumption)) (by first | assumption | omega | exact ePp.ob (by assumption) | exact eNm.ob (by assumption) | exact eRg.ob (by assumption) | exact eTx.ob (by assumption) | exact ePa.ob (by assumption)) ?_
  exact ev_iret dX11_benchOf_7 rfl rfl (by rfl) (by rfl) (fun _ e => Option.some.inj e) (Nat.le_of_ble_eq_true rfl) (Nat.le_of_ble_eq_true rfl)
set_option maxHeartbeats 4000000 in
set_option maxRecDepth 20000 in
theorem c_X11_nameOn {h : eH} {n a b m c : Nat} {ex : Option Nat} {σ : St} (hA : eRow h a σ) (hK : eOK σ) (hb : b < 2 ^ 31) (hex : ∀ k, ex = some k → k < 2 ^ 31) (hm : m < 2 ^ 31) (hc : c < 2 ^ 31) : kX11_nameOn [.ref a, .int (nI b), .int (oI ex), .int (nI m), .int (nI c)] h n (.inl (some (.int (oI (sNameOn σ b ex m c)))), (· = h), some n) 0 0 := by
  refine eM.of RX11 "nameOn" [(0, .ref a), (1, .int (nI b)), (2, .int (oI ex)), (3, .int (nI m)), (4, .int (nI c))] pn_X11 rfl rfl (Nat.le_of_ble_eq_true rfl) rfl ?_
  have hB : eB σ := hK.1
  have h12 := hK.2.1
  have h40 := hK.2.2.1
  refine ev_iconst (v := nI 0) dX11_nameOn_0 rfl ?_
  refine ev_istore dX11_nameOn_1 (Nat.le_of_ble_eq_true rfl) ?_
  have H_3 : ∀ (d_3 : Nat) (k : Nat), d_3 = σ 0 1 - k → (k ≤ σ 0 1) → (fst (fun k => decide (some (σ 9 k) ≠ ex) && (decide (σ 3 (σ 9 k) = b) && sIs σ k m c)) k = none) → eV mX11_nameOn 3 [(0, .ref a), (1, .int (nI b)), (2, .int (oI ex)), (3, .int (nI m)), (4, .int (nI c)), (5, .int (nI k))] [] (h, n, 0, 0) (.inl (some (.int (oI (sNameOn σ b ex m c)))), (· = h), some n) 0 0 := by
    intro d_3
    induction d_3 using Nat.strongRecOn with
    | _ d_3 ih_3 =>
    intro k hd_3 hk hf
    refine ev_iload dX11_nameOn_3 rfl ?_
    refine ev_aload_n dX11_nameOn_5 rfl rfl ?_
    refine ev_sipush (v := nI 381) dX11_nameOn_6 rfl ?_
    first | refine ev_rowG (f := 0) (j := 1) dX11_nameOn_9 (by assumption) (Nat.le_of_ble_eq_true rfl) (fun _ => rfl) ?_ | refine ev_ialoadA dX11_nameOn_9 (by first | assumption | omega | exact ePp.ob (by assumption) | exact eNm.ob (by assumption) | exact eRg.ob (by assumption) | exact eTx.ob (by assumption) | exact ePa.ob (by assumption)) (by first | assumption | omega | exact ePp.ob (by assumption) | exact eNm.ob (by assumption) | exact eRg.ob (by assumption) | exact eTx.ob (by assumption) | exact ePa.ob (by assumption)) ?_
    first | ((with_reducible show eV _ _ _ (Value.int (nI _) :: Value.int (nI _) :: _) _ _ _ _); refine ev_icmp_geN (tgt := 61) dX11_nameOn_10 (by decide) (by first | exact hB _ _ | omega) (by first | exact hB _ _ | omega) (fun c_10 => ?_) (fun c_10 => ?_)) | ((with_reducible show eV _ _ _ (Value.int (nI _) :: _) _ _ _ _); refine ev_icmp_geZN (tgt := 61) dX11_nameOn_10 (by decide) (by first | exact hB _ _ | omega) (fun c_10 => ?_) (fun c_10 => ?_)) | ((with_reducible show eV _ _ _ (_ :: Value.int (nI _) :: _) _ _ _ _); refine ev_icmp_geNZ (tgt := 61) dX11_nameOn_10 (by decide) (by first | exact hB _ _ | omega) (fun c_10 => ?_) (fun c_10 => ?_)) | (refine ev_icmp_geZZ (tgt := 61) dX11_nameOn_10 (by decide) (fun c_10 => ?_) (fun c_10 => ?_))
    · refine ev_iconst (v := -1) dX11_nameOn_61 (by decide) ?_
      exact ev_iret dX11_nameOn_62 rfl rfl (by exact oRn (by have e : k = σ 0 1 := (by omega); rw [sNameOn, ← e]; exact hf)) (by rfl) (fun _ e => by first | exact Option.some.inj e | (have e2 := Option.some.inj e; omega)) (by first | exact Nat.le_of_ble_eq_true rfl | omega) (by first | exact Nat.le_of_ble_eq_true rfl | omega)
    · have h9 := (hK.2.2.2.1 k (by omega)).1
      refine ev_aload_n dX11_nameOn_13 rfl rfl ?_
      refine ev_iload dX11_nameOn_14 rfl ?_
      refine ev_callSi dX11_nameOn_16 c_X11_spot lk_X11_61 ⟨Nat.le_of_ble_eq_true rfl, Nat.le_of_ble_eq_true rfl⟩ rfl (Nat.le_of_ble_eq_true rfl) ⟨by first | exact Nat.le_of_ble_eq_true rfl | omega, by first | exact Nat.le_of_ble_eq_true rfl | omega⟩ (eRo ?_)
      refine ev_iconst (v := nI 3) dX11_nameOn_19 rfl ?_
      first | refine ev_iaddN dX11_nameOn_20 ?_ | refine ev_iadd dX11_nameOn_20 ?_
      first | refine ev_rowN (f := 3) (F := 9) dX11_nameOn_21 (by assumption) (by first | assumption | omega | exact ePp.ob (by assumption) | exact eNm.ob (by assumption) | exact eRg.ob (by assumption) | exact eTx.ob (by assumption) | exact ePa.ob (by assumption)) (by decide) rfl ?_ | refine ev_rowP (f := 3) (F := 4) dX11_nameOn_21 (by assumption) (by first | assumption | omega | exact ePp.ob (by assumption) | exact eNm.ob (by assumption) | exact eRg.ob (by assumption) | exact eTx.ob (by assumption) | exact ePa.ob (by assumption)) (by decide) rfl ?_ | refine ev_ialoadA dX11_nameOn_21 (by first | assumption | omega | exact ePp.ob (by assumption) | exact eNm.ob (by assumption) | exact eRg.ob (by assumption) | exact eTx.ob (by assumption) | exact ePa.ob (by assumption)) (by first | assumption | omega | exact ePp.ob (by assumption) | exact eNm.ob (by assumption) | exact eRg.ob (by assumption) | exact eTx.ob (by assumption) | exact ePa.ob (by assumption)) ?_
      refine ev_istore dX11_nameOn_22 (Nat.le_of_ble_eq_true rfl) ?_
      refine ev_aload_n dX11_nameOn_24 rfl rfl ?_
      refine ev_iload dX11_nameOn_25 rfl ?_
      refine ev_iload_n dX11_nameOn_27 rfl rfl ?_
      refine ev_iload dX11_nameOn_28 rfl ?_
      refine ev_callSi dX11_nameOn_30 (c_X11_isCalled hA hB (by omega) hm hc) lk_X11_68 ⟨Nat.le_of_ble_eq_true rfl, Nat.le_of_ble_eq_true rfl⟩ rfl (Nat.le_of_ble_eq_true rfl) ⟨by first | exact Nat.le_of_ble_eq_true rfl | omega, by first | exact Nat.le_of_ble_eq_true rfl | omega⟩ (eRo ?_)
      first | ((with_reducible show eV _ _ _ (Value.int (bI _) :: _) _ _ _ _); refine ev_if_eqB (tgt := 55) dX11_nameOn_33 (by decide) (fun c_33 => ?_) (fun c_33 => ?_)) | ((with_reducible show eV _ _ _ (Value.int (nI _) :: _) _ _ _ _); refine ev_if_eqN (tgt := 55) dX11_nameOn_33 (by decide) (by first | exact hB _ _ | omega) (fun c_33 => ?_) (fun c_33 => ?_)) | (refine ev_if_eqZ (tgt := 55) dX11_nameOn_33 (by decide) (fun c_33 => ?_) (fun c_33 => ?_))
      · first | refine ev_iincN dX11_nameOn_55 rfl (Nat.le_of_ble_eq_true rfl) ?_ | refine ev_iinc dX11_nameOn_55 rfl rfl (Nat.le_of_ble_eq_true rfl) ?_
        refine ev_goto (tgt := 3) dX11_nameOn_58 (by decide) ?_
        exact (ih_3 _ (by omega) _  rfl (by first | omega | assumption | rfl) (by exact fst_s hf (by first | (simp [c_49] <;> omega) | (simp [c_43] <;> omega) | (simp [c_33] <;> omega)))).sub1 ⟨rfl, rfl, rfl, rfl, rfl, rfl, trivial⟩ rfl
      · refine ev_aload_n dX11_nameOn_36 rfl rfl ?_
        refine ev_iload dX11_nameOn_37 rfl ?_
        refine ev_callSi dX11_nameOn_39 (c_X11_benchOf hA (by omega)) lk_X11_72 ⟨Nat.le_of_ble_eq_true rfl, Nat.le_of_ble_eq_true rfl⟩ rfl (Nat.le_of_ble_eq_true rfl) ⟨by first | exact Nat.le_of_ble_eq_true rfl | omega, by first | exact Nat.le_of_ble_eq_true rfl | omega⟩ (eRo ?_)
        refine ev_iload_n dX11_nameOn_42 rfl rfl ?_
        first | ((with_reducible show eV _ _ _ (Value.int (nI _) :: Value.int (nI _) :: _) _ _ _ _); refine ev_icmp_neN (tgt := 55) dX11_nameOn_43 (by decide) (by first | exact hB _ _ | omega) (by first | exact hB _ _ | omega) (fun c_43 => ?_) (fun c_43 => ?_)) | ((with_reducible show eV _ _ _ (Value.int (-1) :: Value.int (oI _) :: _) _ _ _ _); refine ev_icmp_neO (tgt := 55) dX11_nameOn_43 (by decide) (by exact hex) (fun c_43 => ?_) (fun c_43 => ?_)) | ((with_reducible show eV _ _ _ (Value.int (nI _) :: Value.int (oI _) :: _) _ _ _ _); refine ev_icmp_neON (tgt := 55) dX11_nameOn_43 (by decide) (by first | exact hB _ _ | omega) (by exact hex) (fun c_43 => ?_) (fun c_43 => ?_)) | ((with_reducible show eV _ _ _ (Value.int (nI _) :: _) _ _ _ _); refine ev_icmp_neZN (tgt := 55) dX11_nameOn_43 (by decide) (by first | exact hB _ _ | omega) (fun c_43 => ?_) (fun c_43 => ?_)) | ((with_reducible show eV _ _ _ (_ :: Value.int (nI _) :: _) _ _ _ _); refine ev_icmp_neNZ (tgt := 55) dX11_nameOn_43 (by decide) (by first | exact hB _ _ | omega) (fun c_43 => ?_) (fun c_43 => ?_)) | (refine ev_icmp_neZZ (tgt := 55) dX11_nameOn_43 (by decide) (fun c_43 => ?_) (fun c_43 => ?_))
        · first | refine ev_iincN dX11_nameOn_55 rfl (Nat.le_of_ble_eq_true rfl) ?_ | refine ev_iinc dX11_nameOn_55 rfl rfl (Nat.le_of_ble_eq_true rfl) ?_
          refine ev_goto (tgt := 3) dX11_nameOn_58 (by decide) ?_
          exact (ih_3 _ (by omega) _  rfl (by first | omega | assumption | rfl) (by exact fst_s hf (by first | (simp [c_49] <;> omega) | (simp [c_43] <;> omega) | (simp [c_33] <;> omega)))).sub1 ⟨rfl, rfl, rfl, rfl, rfl, rfl, trivial⟩ rfl
        · refine ev_iload dX11_nameOn_46 rfl ?_
          refine ev_iload_n dX11_nameOn_48 rfl rfl ?_
          first | ((with_reducible show eV _ _ _ (Value.int (nI _) :: Value.int (nI _) :: _) _ _ _ _); refine ev_icmp_eqN (tgt := 55) dX11_nameOn_49 (by decide) (by first | exact hB _ _ | omega) (by first | exact hB _ _ | omega) (fun c_49 => ?_) (fun c_49 => ?_)) | ((with_reducible show eV _ _ _ (Value.int (-1) :: Value.int (oI _) :: _) _ _ _ _); refine ev_icmp_eqO (tgt := 55) dX11_nameOn_49 (by decide) (by exact hex) (fun c_49 => ?_) (fun c_49 => ?_)) | ((with_reducible show eV _ _ _ (Value.int (oI _) :: Value.int (nI _) :: _) _ _ _ _); refine ev_icmp_eqNO (tgt := 55) dX11_nameOn_49 (by decide) (by first | exact hB _ _ | omega) (by exact hex) (fun c_49 => ?_) (fun c_49 => ?_)) | ((with_reducible show eV _ _ _ (Value.int (nI _) :: Value.int (oI _) :: _) _ _ _ _); refine ev_icmp_eqON (tgt := 55) dX11_nameOn_49 (by decide) (by first | exact hB _ _ | omega) (by exact hex) (fun c_49 => ?_) (fun c_49 => ?_)) | ((with_reducible show eV _ _ _ (Value.int (nI _) :: _) _ _ _ _); refine ev_icmp_eqZN (tgt := 55) dX11_nameOn_49 (by decide) (by first | exact hB _ _ | omega) (fun c_49 => ?_) (fun c_49 => ?_)) | ((with_reducible show eV _ _ _ (_ :: Value.int (nI _) :: _) _ _ _ _); refine ev_icmp_eqNZ (tgt := 55) dX11_nameOn_49 (by decide) (by first | exact hB _ _ | omega) (fun c_49 => ?_) (fun c_49 => ?_)) | (refine ev_icmp_eqZZ (tgt := 55) dX11_nameOn_49 (by decide) (fun c_49 => ?_) (fun c_49 => ?_))
          · first | refine ev_iincN dX11_nameOn_55 rfl (Nat.le_of_ble_eq_true rfl) ?_ | refine ev_iinc dX11_nameOn_55 rfl rfl (Nat.le_of_ble_eq_true rfl) ?_
            refine ev_goto (tgt := 3) dX11_nameOn_58 (by decide) ?_
            exact (ih_3 _ (by omega) _  rfl (by first | omega | assumption | rfl) (by exact fst_s hf (by first | (simp [c_49] <;> omega) | (simp [c_43] <;> omega) | (simp [c_33] <;> omega)))).sub1 ⟨rfl, rfl, rfl, rfl, rfl, rfl, trivial⟩ rfl
          · refine ev_iload dX11_nameOn_52 rfl ?_
            exact ev_iret dX11_nameOn_54 rfl rfl (by exact oRx (fst_up hf (by simp [c_33, c_43, c_49] <;> omega) (by omega))) (by rfl) (fun _ e => by first | exact Option.some.inj e | (have e2 := Option.some.inj e; omega)) (by first | exact Nat.le_of_ble_eq_true rfl | omega) (by first | exact Nat.le_of_ble_eq_true rfl | omega)
  exact (H_3 _ 0 rfl (by first | omega | assumption | rfl) (by first | omega | assumption | rfl)).sub1 ⟨rfl, rfl, rfl, rfl, rfl, rfl, trivial⟩ rfl
theorem sWhy_r1 {σ : St} {g p m c : Nat} (h : g = p) : sWhy σ g p m c = 1 := by unfold sWhy; rw [show sWhyAny σ g p = 1 from if_pos h]; rfl
theorem sWhy_r2 {σ : St} {g p m c : Nat} (h : g ≠ p) (h2 : sBro σ g p = false) (h3 : σ 3 g ≠ σ 3 p) : sWhy σ g p m c = 2 := by
  have e : sWhyAny σ g p = 2 := by unfold sWhyAny; rw [if_neg h, if_pos ⟨h2, h3⟩]
  unfold sWhy; rw [e]; rfl
theorem sWhy_r3 {σ : St} {g p m c : Nat} (h : g ≠ p) (h2 : sBro σ g p = true ∨ σ 3 g = σ 3 p) (h3 : 3 ≤ sLives σ p) : sWhy σ g p m c = 3 := by
  have e : sWhyAny σ g p = 3 := by unfold sWhyAny; rw [if_neg h, if_neg (fun q => by rcases h2 with z | z; rw [z] at q; exact absurd q.1 (by decide); exact q.2 z), if_pos h3]
  unfold sWhy; rw [e]; rfl
theorem sWhyAny_0 {σ : St} {g p : Nat} (h : g ≠ p) (h2 : sBro σ g p = true ∨ σ 3 g = σ 3 p) (h3 : sLives σ p < 3) : sWhyAny σ g p = 0 := by
  unfold sWhyAny; rw [if_neg h, if_neg (fun q => by rcases h2 with z | z; rw [z] at q; exact absurd q.1 (by decide); exact q.2 z), if_neg (by omega)]
theorem sWhy_r4 {σ : St} {g p m c : Nat} (h : sWhyAny σ g p = 0) (h2 : sNameOn σ (σ 3 p) none m c ≠ none) : sWhy σ g p m c = 4 := by
  unfold sWhy; rw [if_neg (by omega), if_pos (Option.isSome_iff_ne_none.mpr h2)]
theorem sWhy_r5 {σ : St} {g p m c : Nat} (h : sWhyAny σ g p = 0) (h2 : sNameOn σ (σ 3 p) none m c = none) : sWhy σ g p m c = if 40 ≤ σ 0 1 then 5 else 0 := by
  unfold sWhy; rw [if_neg (by omega), if_neg (by rw [h2]; decide)]
set_option maxHeartbeats 4000000 in
set_option maxRecDepth 20000 in
theorem c_X11_whyNot {h : eH} {n a g p m c : Nat} {σ : St} (hA : eRow h a σ) (hK : eOK σ) (hg : g < 12) (hp : p < 12) (hm : m < 2 ^ 31) (hc : c < 2 ^ 31) : kX11_whyNot [.ref a, .int (nI g), .int (nI p), .int (nI m), .int (nI c)] h n (.inl (some (.int (nI (sWhy σ g p m c)))), (· = h), some n) 0 0 := by
  refine eM.of RX11 "whyNot" [(0, .ref a), (1, .int (nI g)), (2, .int (nI p)), (3, .int (nI m)), (4, .int (nI c))] pn_X11 rfl rfl (Nat.le_of_ble_eq_true rfl) rfl ?_
  have hB : eB σ := hK.1
  have h40 := hK.2.2.1
  have hlv := hK.lives
  refine ev_iload_n dX11_whyNot_0 rfl rfl ?_
  refine ev_iload_n dX11_whyNot_1 rfl rfl ?_
  first | ((with_reducible show eV _ _ _ (Value.int (nI _) :: Value.int (nI _) :: _) _ _ _ _); refine ev_icmp_neN (tgt := 7) dX11_whyNot_2 (by decide) (by first | exact hB _ _ | omega | exact Nat.lt_of_le_of_lt (hlv _) (by decide)) (by first | exact hB _ _ | omega | exact Nat.lt_of_le_of_lt (hlv _) (by decide)) (fun c_2 => ?_) (fun c_2 => ?_)) | ((with_reducible show eV _ _ _ (Value.int (-1) :: Value.int (oI _) :: _) _ _ _ _); refine ev_icmp_neO (tgt := 7) dX11_whyNot_2 (by decide) (by (intro k9 h9; have := (fst_lt h9).1; omega)) (fun c_2 => ?_) (fun c_2 => ?_)) | ((with_reducible show eV _ _ _ (Value.int (nI _) :: Value.int (oI _) :: _) _ _ _ _); refine ev_icmp_neON (tgt := 7) dX11_whyNot_2 (by decide) (by first | exact hB _ _ | omega | exact Nat.lt_of_le_of_lt (hlv _) (by decide)) (by (intro k9 h9; have := (fst_lt h9).1; omega)) (fun c_2 => ?_) (fun c_2 => ?_)) | ((with_reducible show eV _ _ _ (Value.int (nI _) :: _) _ _ _ _); refine ev_icmp_neZN (tgt := 7) dX11_whyNot_2 (by decide) (by first | exact hB _ _ | omega | exact Nat.lt_of_le_of_lt (hlv _) (by decide)) (fun c_2 => ?_) (fun c_2 => ?_)) | ((with_reducible show eV _ _ _ (_ :: Value.int (nI _) :: _) _ _ _ _); refine ev_icmp_neNZ (tgt := 7) dX11_whyNot_2 (by decide) (by first | exact hB _ _ | omega | exact Nat.lt_of_le_of_lt (hlv _) (by decide)) (fun c_2 => ?_) (fun c_2 => ?_)) | (refine ev_icmp_neZZ (tgt := 7) dX11_whyNot_2 (by decide) (fun c_2 => ?_) (fun c_2 => ?_))
  · refine ev_aload_n dX11_whyNot_7 rfl rfl ?_
    refine ev_iload_n dX11_whyNot_8 rfl rfl ?_
    refine ev_iload_n dX11_whyNot_9 rfl rfl ?_
    refine ev_callSi dX11_whyNot_10 (c_X11_areBrothers hA hB hg hp) lk_X11_76 ⟨Nat.le_of_ble_eq_true rfl, Nat.le_of_ble_eq_true rfl⟩ rfl (Nat.le_of_ble_eq_true rfl) ⟨by first | exact Nat.le_of_ble_eq_true rfl | omega, by first | exact Nat.le_of_ble_eq_true rfl | omega⟩ (eRo ?_)
    first | ((with_reducible show eV _ _ _ (Value.int (bI _) :: _) _ _ _ _); refine ev_if_neB (tgt := 31) dX11_whyNot_13 (by decide) (fun c_13 => ?_) (fun c_13 => ?_)) | ((with_reducible show eV _ _ _ (Value.int (nI _) :: _) _ _ _ _); refine ev_if_neN (tgt := 31) dX11_whyNot_13 (by decide) (by first | exact hB _ _ | omega | exact Nat.lt_of_le_of_lt (hlv _) (by decide)) (fun c_13 => ?_) (fun c_13 => ?_)) | (refine ev_if_neZ (tgt := 31) dX11_whyNot_13 (by decide) (fun c_13 => ?_) (fun c_13 => ?_))
    · have hor : sBro σ g p = true ∨ σ 3 g = σ 3 p := by first | exact Or.inl c_13 | exact Or.inr c_26
      refine ev_aload_n dX11_whyNot_31 rfl rfl ?_
      refine ev_iload_n dX11_whyNot_32 rfl rfl ?_
      refine ev_callSi dX11_whyNot_33 (c_X11_lives hA hB h40 (by omega)) lk_X11_80 ⟨Nat.le_of_ble_eq_true rfl, Nat.le_of_ble_eq_true rfl⟩ rfl (Nat.le_of_ble_eq_true rfl) ⟨by first | exact Nat.le_of_ble_eq_true rfl | omega, by first | exact Nat.le_of_ble_eq_true rfl | omega⟩ (eRo ?_)
      refine ev_iconst (v := nI 3) dX11_whyNot_36 rfl ?_
      first | ((with_reducible show eV _ _ _ (Value.int (nI _) :: Value.int (nI _) :: _) _ _ _ _); refine ev_icmp_ltN (tgt := 42) dX11_whyNot_37 (by decide) (by first | exact hB _ _ | omega | exact Nat.lt_of_le_of_lt (hlv _) (by decide)) (by first | exact hB _ _ | omega | exact Nat.lt_of_le_of_lt (hlv _) (by decide)) (fun c_37 => ?_) (fun c_37 => ?_)) | ((with_reducible show eV _ _ _ (Value.int (nI _) :: _) _ _ _ _); refine ev_icmp_ltZN (tgt := 42) dX11_whyNot_37 (by decide) (by first | exact hB _ _ | omega | exact Nat.lt_of_le_of_lt (hlv _) (by decide)) (fun c_37 => ?_) (fun c_37 => ?_)) | ((with_reducible show eV _ _ _ (_ :: Value.int (nI _) :: _) _ _ _ _); refine ev_icmp_ltNZ (tgt := 42) dX11_whyNot_37 (by decide) (by first | exact hB _ _ | omega | exact Nat.lt_of_le_of_lt (hlv _) (by decide)) (fun c_37 => ?_) (fun c_37 => ?_)) | (refine ev_icmp_ltZZ (tgt := 42) dX11_whyNot_37 (by decide) (fun c_37 => ?_) (fun c_37 => ?_))
      · refine ev_aload_n dX11_whyNot_42 rfl rfl ?_
        refine ev_aload_n dX11_whyNot_43 rfl rfl ?_
        refine ev_iload_n dX11_whyNot_44 rfl rfl ?_
        refine ev_callSi dX11_whyNot_45 (c_X11_benchOf hA hp) lk_X11_72 ⟨Nat.le_of_ble_eq_true rfl, Nat.le_of_ble_eq_true rfl⟩ rfl (Nat.le_of_ble_eq_true rfl) ⟨by first | exact Nat.le_of_ble_eq_true rfl | omega, by first | exact Nat.le_of_ble_eq_true rfl | omega⟩ (eRo ?_)
        refine ev_iconst (v := -1) dX11_whyNot_48 (by decide) ?_
        refine ev_iload_n dX11_whyNot_49 rfl rfl ?_
        refine ev_iload dX11_whyNot_50 rfl ?_
        refine ev_callSi dX11_whyNot_52 (c_X11_nameOn (ex := none) hA hK (hB _ _) (fun _ h9 => nomatch h9) hm hc) lk_X11_83 ⟨Nat.le_of_ble_eq_true rfl, Nat.le_of_ble_eq_true rfl⟩ rfl (Nat.le_of_ble_eq_true rfl) ⟨by first | exact Nat.le_of_ble_eq_true rfl | omega, by first | exact Nat.le_of_ble_eq_true rfl | omega⟩ (eRo ?_)
        refine ev_iconst (v := -1) dX11_whyNot_55 (by decide) ?_
        first | ((with_reducible show eV _ _ _ (Value.int (nI _) :: Value.int (nI _) :: _) _ _ _ _); refine ev_icmp_eqN (tgt := 63) dX11_whyNot_56 (by decide) (by first | exact hB _ _ | omega | exact Nat.lt_of_le_of_lt (hlv _) (by decide)) (by first | exact hB _ _ | omega | exact Nat.lt_of_le_of_lt (hlv _) (by decide)) (fun c_56 => ?_) (fun c_56 => ?_)) | ((with_reducible show eV _ _ _ (Value.int (-1) :: Value.int (oI _) :: _) _ _ _ _); refine ev_icmp_eqO (tgt := 63) dX11_whyNot_56 (by decide) (by (intro k9 h9; have := (fst_lt h9).1; omega)) (fun c_56 => ?_) (fun c_56 => ?_)) | ((with_reducible show eV _ _ _ (Value.int (oI _) :: Value.int (nI _) :: _) _ _ _ _); refine ev_icmp_eqNO (tgt := 63) dX11_whyNot_56 (by decide) (by first | exact hB _ _ | omega | exact Nat.lt_of_le_of_lt (hlv _) (by decide)) (by (intro k9 h9; have := (fst_lt h9).1; omega)) (fun c_56 => ?_) (fun c_56 => ?_)) | ((with_reducible show eV _ _ _ (Value.int (nI _) :: Value.int (oI _) :: _) _ _ _ _); refine ev_icmp_eqON (tgt := 63) dX11_whyNot_56 (by decide) (by first | exact hB _ _ | omega | exact Nat.lt_of_le_of_lt (hlv _) (by decide)) (by (intro k9 h9; have := (fst_lt h9).1; omega)) (fun c_56 => ?_) (fun c_56 => ?_)) | ((with_reducible show eV _ _ _ (Value.int (nI _) :: _) _ _ _ _); refine ev_icmp_eqZN (tgt := 63) dX11_whyNot_56 (by decide) (by first | exact hB _ _ | omega | exact Nat.lt_of_le_of_lt (hlv _) (by decide)) (fun c_56 => ?_) (fun c_56 => ?_)) | ((with_reducible show eV _ _ _ (_ :: Value.int (nI _) :: _) _ _ _ _); refine ev_icmp_eqNZ (tgt := 63) dX11_whyNot_56 (by decide) (by first | exact hB _ _ | omega | exact Nat.lt_of_le_of_lt (hlv _) (by decide)) (fun c_56 => ?_) (fun c_56 => ?_)) | (refine ev_icmp_eqZZ (tgt := 63) dX11_whyNot_56 (by decide) (fun c_56 => ?_) (fun c_56 => ?_))
        · refine ev_aload_n dX11_whyNot_63 rfl rfl ?_
          refine ev_sipush (v := nI 381) dX11_whyNot_64 rfl ?_
          first | refine ev_rowG (f := 0) (j := 1) dX11_whyNot_67 (by assumption) (Nat.le_of_ble_eq_true rfl) (fun _ => rfl) ?_ | refine ev_ialoadA dX11_whyNot_67 (by first | assumption | omega | exact ePp.ob (by assumption) | exact eNm.ob (by assumption) | exact eRg.ob (by assumption) | exact eTx.ob (by assumption) | exact ePa.ob (by assumption)) (by first | assumption | omega | exact ePp.ob (by assumption) | exact eNm.ob (by assumption) | exact eRg.ob (by assumption) | exact eTx.ob (by assumption) | exact ePa.ob (by assumption)) ?_
          refine ev_bipush (v := nI 40) dX11_whyNot_68 rfl ?_
          first | ((with_reducible show eV _ _ _ (Value.int (nI _) :: Value.int (nI _) :: _) _ _ _ _); refine ev_icmp_neN (tgt := 77) dX11_whyNot_70 (by decide) (by first | exact hB _ _ | omega | exact Nat.lt_of_le_of_lt (hlv _) (by decide)) (by first | exact hB _ _ | omega | exact Nat.lt_of_le_of_lt (hlv _) (by decide)) (fun c_70 => ?_) (fun c_70 => ?_)) | ((with_reducible show eV _ _ _ (Value.int (-1) :: Value.int (oI _) :: _) _ _ _ _); refine ev_icmp_neO (tgt := 77) dX11_whyNot_70 (by decide) (by (intro k9 h9; have := (fst_lt h9).1; omega)) (fun c_70 => ?_) (fun c_70 => ?_)) | ((with_reducible show eV _ _ _ (Value.int (nI _) :: Value.int (oI _) :: _) _ _ _ _); refine ev_icmp_neON (tgt := 77) dX11_whyNot_70 (by decide) (by first | exact hB _ _ | omega | exact Nat.lt_of_le_of_lt (hlv _) (by decide)) (by (intro k9 h9; have := (fst_lt h9).1; omega)) (fun c_70 => ?_) (fun c_70 => ?_)) | ((with_reducible show eV _ _ _ (Value.int (nI _) :: _) _ _ _ _); refine ev_icmp_neZN (tgt := 77) dX11_whyNot_70 (by decide) (by first | exact hB _ _ | omega | exact Nat.lt_of_le_of_lt (hlv _) (by decide)) (fun c_70 => ?_) (fun c_70 => ?_)) | ((with_reducible show eV _ _ _ (_ :: Value.int (nI _) :: _) _ _ _ _); refine ev_icmp_neNZ (tgt := 77) dX11_whyNot_70 (by decide) (by first | exact hB _ _ | omega | exact Nat.lt_of_le_of_lt (hlv _) (by decide)) (fun c_70 => ?_) (fun c_70 => ?_)) | (refine ev_icmp_neZZ (tgt := 77) dX11_whyNot_70 (by decide) (fun c_70 => ?_) (fun c_70 => ?_))
          · refine ev_iconst (v := nI 0) dX11_whyNot_77 rfl ?_
            exact ev_iret dX11_whyNot_78 rfl rfl (by first | exact nR (sWhy_r4 (sWhyAny_0 c_2 hor c_37) c_56) | exact nR ((sWhy_r5 (sWhyAny_0 c_2 hor c_37) c_56).trans (if_pos (by omega))) | exact nR ((sWhy_r5 (sWhyAny_0 c_2 hor c_37) c_56).trans (if_neg (by omega)))) (by rfl) (fun _ e => Option.some.inj e) (Nat.le_of_ble_eq_true rfl) (Nat.le_of_ble_eq_true rfl)
          · refine ev_iconst (v := nI 5) dX11_whyNot_73 rfl ?_
            refine ev_goto (tgt := 78) dX11_whyNot_74 (by decide) ?_
            exact ev_iret dX11_whyNot_78 rfl rfl (by first | exact nR (sWhy_r4 (sWhyAny_0 c_2 hor c_37) c_56) | exact nR ((sWhy_r5 (sWhyAny_0 c_2 hor c_37) c_56).trans (if_pos (by omega))) | exact nR ((sWhy_r5 (sWhyAny_0 c_2 hor c_37) c_56).trans (if_neg (by omega)))) (by rfl) (fun _ e => Option.some.inj e) (Nat.le_of_ble_eq_true rfl) (Nat.le_of_ble_eq_true rfl)
        · refine ev_iconst (v := nI 4) dX11_whyNot_59 rfl ?_
          refine ev_goto (tgt := 78) dX11_whyNot_60 (by decide) ?_
          exact ev_iret dX11_whyNot_78 rfl rfl (by first | exact nR (sWhy_r4 (sWhyAny_0 c_2 hor c_37) c_56) | exact nR ((sWhy_r5 (sWhyAny_0 c_2 hor c_37) c_56).trans (if_pos (by omega))) | exact nR ((sWhy_r5 (sWhyAny_0 c_2 hor c_37) c_56).trans (if_neg (by omega)))) (by rfl) (fun _ e => Option.some.inj e) (Nat.le_of_ble_eq_true rfl) (Nat.le_of_ble_eq_true rfl)
      · refine ev_iconst (v := nI 3) dX11_whyNot_40 rfl ?_
        exact ev_iret dX11_whyNot_41 rfl rfl (by exact nR (sWhy_r3 c_2 hor c_37)) (by rfl) (fun _ e => Option.some.inj e) (Nat.le_of_ble_eq_true rfl) (Nat.le_of_ble_eq_true rfl)
    · refine ev_aload_n dX11_whyNot_16 rfl rfl ?_
      refine ev_iload_n dX11_whyNot_17 rfl rfl ?_
      refine ev_callSi dX11_whyNot_18 (c_X11_benchOf hA hg) lk_X11_72 ⟨Nat.le_of_ble_eq_true rfl, Nat.le_of_ble_eq_true rfl⟩ rfl (Nat.le_of_ble_eq_true rfl) ⟨by first | exact Nat.le_of_ble_eq_true rfl | omega, by first | exact Nat.le_of_ble_eq_true rfl | omega⟩ (eRo ?_)
      refine ev_aload_n dX11_whyNot_21 rfl rfl ?_
      refine ev_iload_n dX11_whyNot_22 rfl rfl ?_
      refine ev_callSi dX11_whyNot_23 (c_X11_benchOf hA hp) lk_X11_72 ⟨Nat.le_of_ble_eq_true rfl, Nat.le_of_ble_eq_true rfl⟩ rfl (Nat.le_of_ble_eq_true rfl) ⟨by first | exact Nat.le_of_ble_eq_true rfl | omega, by first | exact Nat.le_of_ble_eq_true rfl | omega⟩ (eRo ?_)
      first | ((with_reducible show eV _ _ _ (Value.int (nI _) :: Value.int (nI _) :: _) _ _ _ _); refine ev_icmp_eqN (tgt := 31) dX11_whyNot_26 (by decide) (by first | exact hB _ _ | omega | exact Nat.lt_of_le_of_lt (hlv _) (by decide)) (by first | exact hB _ _ | omega | exact Nat.lt_of_le_of_lt (hlv _) (by decide)) (fun c_26 => ?_) (fun c_26 => ?_)) | ((with_reducible show eV _ _ _ (Value.int (-1) :: Value.int (oI _) :: _) _ _ _ _); refine ev_icmp_eqO (tgt := 31) dX11_whyNot_26 (by decide) (by (intro k9 h9; have := (fst_lt h9).1; omega)) (fun c_26 => ?_) (fun c_26 => ?_)) | ((with_reducible show eV _ _ _ (Value.int (oI _) :: Value.int (nI _) :: _) _ _ _ _); refine ev_icmp_eqNO (tgt := 31) dX11_whyNot_26 (by decide) (by first | exact hB _ _ | omega | exact Nat.lt_of_le_of_lt (hlv _) (by decide)) (by (intro k9 h9; have := (fst_lt h9).1; omega)) (fun c_26 => ?_) (fun c_26 => ?_)) | ((with_reducible show eV _ _ _ (Value.int (nI _) :: Value.int (oI _) :: _) _ _ _ _); refine ev_icmp_eqON (tgt := 31) dX11_whyNot_26 (by decide) (by first | exact hB _ _ | omega | exact Nat.lt_of_le_of_lt (hlv _) (by decide)) (by (intro k9 h9; have := (fst_lt h9).1; omega)) (fun c_26 => ?_) (fun c_26 => ?_)) | ((with_reducible show eV _ _ _ (Value.int (nI _) :: _) _ _ _ _); refine ev_icmp_eqZN (tgt := 31) dX11_whyNot_26 (by decide) (by first | exact hB _ _ | omega | exact Nat.lt_of_le_of_lt (hlv _) (by decide)) (fun c_26 => ?_) (fun c_26 => ?_)) | ((with_reducible show eV _ _ _ (_ :: Value.int (nI _) :: _) _ _ _ _); refine ev_icmp_eqNZ (tgt := 31) dX11_whyNot_26 (by decide) (by first | exact hB _ _ | omega | exact Nat.lt_of_le_of_lt (hlv _) (by decide)) (fun c_26 => ?_) (fun c_26 => ?_)) | (refine ev_icmp_eqZZ (tgt := 31) dX11_whyNot_26 (by decide) (fun c_26 => ?_) (fun c_26 => ?_))
      · have hor : sBro σ g p = true ∨ σ 3 g = σ 3 p := by first | exact Or.inl c_13 | exact Or.inr c_26
        refine ev_aload_n dX11_whyNot_31 rfl rfl ?_
        refine ev_iload_n dX11_whyNot_32 rfl rfl ?_
        refine ev_callSi dX11_whyNot_33 (c_X11_lives hA hB h40 (by omega)) lk_X11_80 ⟨Nat.le_of_ble_eq_true rfl, Nat.le_of_ble_eq_true rfl⟩ rfl (Nat.le_of_ble_eq_true rfl) ⟨by first | exact Nat.le_of_ble_eq_true rfl | omega, by first | exact Nat.le_of_ble_eq_true rfl | omega⟩ (eRo ?_)
        refine ev_iconst (v := nI 3) dX11_whyNot_36 rfl ?_
        first | ((with_reducible show eV _ _ _ (Value.int (nI _) :: Value.int (nI _) :: _) _ _ _ _); refine ev_icmp_ltN (tgt := 42) dX11_whyNot_37 (by decide) (by first | exact hB _ _ | omega | exact Nat.lt_of_le_of_lt (hlv _) (by decide)) (by first | exact hB _ _ | omega | exact Nat.lt_of_le_of_lt (hlv _) (by decide)) (fun c_37 => ?_) (fun c_37 => ?_)) | ((with_reducible show eV _ _ _ (Value.int (nI _) :: _) _ _ _ _); refine ev_icmp_ltZN (tgt := 42) dX11_whyNot_37 (by decide) (by first | exact hB _ _ | omega | exact Nat.lt_of_le_of_lt (hlv _) (by decide)) (fun c_37 => ?_) (fun c_37 => ?_)) | ((with_reducible show eV _ _ _ (_ :: Value.int (nI _) :: _) _ _ _ _); refine ev_icmp_ltNZ (tgt := 42) dX11_whyNot_37 (by decide) (by first | exact hB _ _ | omega | exact Nat.lt_of_le_of_lt (hlv _) (by decide)) (fun c_37 => ?_) (fun c_37 => ?_)) | (refine ev_icmp_ltZZ (tgt := 42) dX11_whyNot_37 (by decide) (fun c_37 => ?_) (fun c_37 => ?_))
        · refine ev_aload_n dX11_whyNot_42 rfl rfl ?_
          refine ev_aload_n dX11_whyNot_43 rfl rfl ?_
          refine ev_iload_n dX11_whyNot_44 rfl rfl ?_
          refine ev_callSi dX11_whyNot_45 (c_X11_benchOf hA hp) lk_X11_72 ⟨Nat.le_of_ble_eq_true rfl, Nat.le_of_ble_eq_true rfl⟩ rfl (Nat.le_of_ble_eq_true rfl) ⟨by first | exact Nat.le_of_ble_eq_true rfl | omega, by first | exact Nat.le_of_ble_eq_true rfl | omega⟩ (eRo ?_)
          refine ev_iconst (v := -1) dX11_whyNot_48 (by decide) ?_
          refine ev_iload_n dX11_whyNot_49 rfl rfl ?_
          refine ev_iload dX11_whyNot_50 rfl ?_
          refine ev_callSi dX11_whyNot_52 (c_X11_nameOn (ex := none) hA hK (hB _ _) (fun _ h9 => nomatch h9) hm hc) lk_X11_83 ⟨Nat.le_of_ble_eq_true rfl, Nat.le_of_ble_eq_true rfl⟩ rfl (Nat.le_of_ble_eq_true rfl) ⟨by first | exact Nat.le_of_ble_eq_true rfl | omega, by first | exact Nat.le_of_ble_eq_true rfl | omega⟩ (eRo ?_)
          refine ev_iconst (v := -1) dX11_whyNot_55 (by decide) ?_
          first | ((with_reducible show eV _ _ _ (Value.int (nI _) :: Value.int (nI _) :: _) _ _ _ _); refine ev_icmp_eqN (tgt := 63) dX11_whyNot_56 (by decide) (by first | exact hB _ _ | omega | exact Nat.lt_of_le_of_lt (hlv _) (by decide)) (by first | exact hB _ _ | omega | exact Nat.lt_of_le_of_lt (hlv _) (by decide)) (fun c_56 => ?_) (fun c_56 => ?_)) | ((with_reducible show eV _ _ _ (Value.int (-1) :: Value.int (oI _) :: _) _ _ _ _); refine ev_icmp_eqO (tgt := 63) dX11_whyNot_56 (by decide) (by (intro k9 h9; have := (fst_lt h9).1; omega)) (fun c_56 => ?_) (fun c_56 => ?_)) | ((with_reducible show eV _ _ _ (Value.int (oI _) :: Value.int (nI _) :: _) _ _ _ _); refine ev_icmp_eqNO (tgt := 63) dX11_whyNot_56 (by decide) (by first | exact hB _ _ | omega | exact Nat.lt_of_le_of_lt (hlv _) (by decide)) (by (intro k9 h9; have := (fst_lt h9).1; omega)) (fun c_56 => ?_) (fun c_56 => ?_)) | ((with_reducible show eV _ _ _ (Value.int (nI _) :: Value.int (oI _) :: _) _ _ _ _); refine ev_icmp_eqON (tgt := 63) dX11_whyNot_56 (by decide) (by first | exact hB _ _ | omega | exact Nat.lt_of_le_of_lt (hlv _) (by decide)) (by (intro k9 h9; have := (fst_lt h9).1; omega)) (fun c_56 => ?_) (fun c_56 => ?_)) | ((with_reducible show eV _ _ _ (Value.int (nI _) :: _) _ _ _ _); refine ev_icmp_eqZN (tgt := 63) dX11_whyNot_56 (by decide) (by first | exact hB _ _ | omega | exact Nat.lt_of_le_of_lt (hlv _) (by decide)) (fun c_56 => ?_) (fun c_56 => ?_)) | ((with_reducible show eV _ _ _ (_ :: Value.int (nI _) :: _) _ _ _ _); refine ev_icmp_eqNZ (tgt := 63) dX11_whyNot_56 (by decide) (by first | exact hB _ _ | omega | exact Nat.lt_of_le_of_lt (hlv _) (by decide)) (fun c_56 => ?_) (fun c_56 => ?_)) | (refine ev_icmp_eqZZ (tgt := 63) dX11_whyNot_56 (by decide) (fun c_56 => ?_) (fun c_56 => ?_))
          · refine ev_aload_n dX11_whyNot_63 rfl rfl ?_
            refine ev_sipush (v := nI 381) dX11_whyNot_64 rfl ?_
            first | refine ev_rowG (f := 0) (j := 1) dX11_whyNot_67 (by assumption) (Nat.le_of_ble_eq_true rfl) (fun _ => rfl) ?_ | refine ev_ialoadA dX11_whyNot_67 (by first | assumption | omega | exact ePp.ob (by assumption) | exact eNm.ob (by assumption) | exact eRg.ob (by assumption) | exact eTx.ob (by assumption) | exact ePa.ob (by assumption)) (by first | assumption | omega | exact ePp.ob (by assumption) | exact eNm.ob (by assumption) | exact eRg.ob (by assumption) | exact eTx.ob (by assumption) | exact ePa.ob (by assumption)) ?_
            refine ev_bipush (v := nI 40) dX11_whyNot_68 rfl ?_
            first | ((with_reducible show eV _ _ _ (Value.int (nI _) :: Value.int (nI _) :: _) _ _ _ _); refine ev_icmp_neN (tgt := 77) dX11_whyNot_70 (by decide) (by first | exact hB _ _ | omega | exact Nat.lt_of_le_of_lt (hlv _) (by decide)) (by first | exact hB _ _ | omega | exact Nat.lt_of_le_of_lt (hlv _) (by decide)) (fun c_70 => ?_) (fun c_70 => ?_)) | ((with_reducible show eV _ _ _ (Value.int (-1) :: Value.int (oI _) :: _) _ _ _ _); refine ev_icmp_neO (tgt := 77) dX11_whyNot_70 (by decide) (by (intro k9 h9; have := (fst_lt h9).1; omega)) (fun c_70 => ?_) (fun c_70 => ?_)) | ((with_reducible show eV _ _ _ (Value.int (nI _) :: Value.int (oI _) :: _) _ _ _ _); refine ev_icmp_neON (tgt := 77) dX11_whyNot_70 (by decide) (by first | exact hB _ _ | omega | exact Nat.lt_of_le_of_lt (hlv _) (by decide)) (by (intro k9 h9; have := (fst_lt h9).1; omega)) (fun c_70 => ?_) (fun c_70 => ?_)) | ((with_reducible show eV _ _ _ (Value.int (nI _) :: _) _ _ _ _); refine ev_icmp_neZN (tgt := 77) dX11_whyNot_70 (by decide) (by first | exact hB _ _ | omega | exact Nat.lt_of_le_of_lt (hlv _) (by decide)) (fun c_70 => ?_) (fun c_70 => ?_)) | ((with_reducible show eV _ _ _ (_ :: Value.int (nI _) :: _) _ _ _ _); refine ev_icmp_neNZ (tgt := 77) dX11_whyNot_70 (by decide) (by first | exact hB _ _ | omega | exact Nat.lt_of_le_of_lt (hlv _) (by decide)) (fun c_70 => ?_) (fun c_70 => ?_)) | (refine ev_icmp_neZZ (tgt := 77) dX11_whyNot_70 (by decide) (fun c_70 => ?_) (fun c_70 => ?_))
            · refine ev_iconst (v := nI 0) dX11_whyNot_77 rfl ?_
              exact ev_iret dX11_whyNot_78 rfl rfl (by first | exact nR (sWhy_r4 (sWhyAny_0 c_2 hor c_37) c_56) | exact nR ((sWhy_r5 (sWhyAny_0 c_2 hor c_37) c_56).trans (if_pos (by omega))) | exact nR ((sWhy_r5 (sWhyAny_0 c_2 hor c_37) c_56).trans (if_neg (by omega)))) (by rfl) (fun _ e => Option.some.inj e) (Nat.le_of_ble_eq_true rfl) (Nat.le_of_ble_eq_true rfl)
            · refine ev_iconst (v := nI 5) dX11_whyNot_73 rfl ?_
              refine ev_goto (tgt := 78) dX11_whyNot_74 (by decide) ?_
              exact ev_iret dX11_whyNot_78 rfl rfl (by first | exact nR (sWhy_r4 (sWhyAny_0 c_2 hor c_37) c_56) | exact nR ((sWhy_r5 (sWhyAny_0 c_2 hor c_37) c_56).trans (if_pos (by omega))) | exact nR ((sWhy_r5 (sWhyAny_0 c_2 hor c_37) c_56).trans (if_neg (by omega)))) (by rfl) (fun _ e => Option.some.inj e) (Nat.le_of_ble_eq_true rfl) (Nat.le_of_ble_eq_true rfl)
          · refine ev_iconst (v := nI 4) dX11_whyNot_59 rfl ?_
            refine ev_goto (tgt := 78) dX11_whyNot_60 (by decide) ?_
            exact ev_iret dX11_whyNot_78 rfl rfl (by first | exact nR (sWhy_r4 (sWhyAny_0 c_2 hor c_37) c_56) | exact nR ((sWhy_r5 (sWhyAny_0 c_2 hor c_37) c_56).trans (if_pos (by omega))) | exact nR ((sWhy_r5 (sWhyAny_0 c_2 hor c_37) c_56).trans (if_neg (by omega)))) (by rfl) (fun _ e => Option.some.inj e) (Nat.le_of_ble_eq_true rfl) (Nat.le_of_ble_eq_true rfl)
        · refine ev_iconst (v := nI 3) dX11_whyNot_40 rfl ?_
          exact ev_iret dX11_whyNot_41 rfl rfl (by exact nR (sWhy_r3 c_2 hor c_37)) (by rfl) (fun _ e => Option.some.inj e) (Nat.le_of_ble_eq_true rfl) (Nat.le_of_ble_eq_true rfl)
      · refine ev_iconst (v := nI 2) dX11_whyNot_29 rfl ?_
        exact ev_iret dX11_whyNot_30 rfl rfl (by exact nR (sWhy_r2 c_2 c_13 c_26)) (by rfl) (fun _ e => Option.some.inj e) (Nat.le_of_ble_eq_true rfl) (Nat.le_of_ble_eq_true rfl)
  · refine ev_iconst (v := nI 1) dX11_whyNot_5 rfl ?_
    exact ev_iret dX11_whyNot_6 rfl rfl (by exact nR (sWhy_r1 c_2)) (by rfl) (fun _ e => Option.some.inj e) (Nat.le_of_ble_eq_true rfl) (Nat.le_of_ble_eq_true rfl)

