section Calls
variable {M : eMI} {pc : Nat} {lv : List (Nat × Value)} {st : List Value} {r : eRes} {mc ms : Nat} {h : eH} {n c0 s0 idx : Nat} {y : MethodName} {bytes : ByteArray} {maxL fr1 lo1 : Nat} {ret : Option FieldType} {As rest : List Value} {v : Value} {nn : Option Nat}
theorem ev_roW {hh : List (Nat × Nat × Nat × Nat)} (d : decode M.1 pc = .ok (.invokestatic idx, 3)) (hm : eM y (.codeWith y bytes maxL ret hh) fr1 lo1 As h n (.inl (some v), (· = h), nn) 0 0) (hk : eLS M.own idx y (.codeWith y bytes maxL ret hh) As.length) (hroom : fr1 + 1 ≤ M.fr ∧ 8 + (maxL + 11) + lo1 ≤ M.lo) (hst : st = As.reverse ++ rest) (hw : (rest.map fun v => v.category).sum ≤ 8) (hb : c0 ≤ mc ∧ s0 ≤ ms) (k : ∀ n1 : Nat, eV M (pc + 3) lv (v :: rest) (h, n1, c0, s0) r mc ms) : eV M pc lv st (h, n, c0, s0) r mc ms := ev_callSW (n1 := n) d hm hk hroom hst hw hb (eRn k)
theorem ev_rxW {hh : List (Nat × Nat × Nat × Nat)} (d : decode M.1 pc = .ok (.invokestatic idx, 3)) (hm : eM y (.codeWith y bytes maxL ret hh) fr1 lo1 As h n (.inl (some v), (· = h), nn) 1 6) (hk : eLS M.own idx y (.codeWith y bytes maxL ret hh) As.length) (hroom : fr1 + 1 ≤ M.fr ∧ 8 + (maxL + 11) + lo1 ≤ M.lo) (hst : st = As.reverse ++ rest) (hw : (rest.map fun v => v.category).sum ≤ 8) (hb : c0 + 1 ≤ mc ∧ s0 + 6 ≤ ms) (k : ∀ n1 : Nat, eV M (pc + 3) lv (v :: rest) (h, n1, c0 + 1, s0 + 6) r mc ms) : eV M pc lv st (h, n, c0, s0) r mc ms := ev_callSW (n1 := n) d hm hk hroom hst hw hb (eRn k)
theorem ev_stW {hh : List (Nat × Nat × Nat × Nat)} {P : eH → Prop} (d : decode M.1 pc = .ok (.invokestatic idx, 3)) (hm : eM y (.codeWith y bytes maxL ret hh) fr1 lo1 As h n (.inl (some v), P, nn) 0 0) (hk : eLS M.own idx y (.codeWith y bytes maxL ret hh) As.length) (hroom : fr1 + 1 ≤ M.fr ∧ 8 + (maxL + 11) + lo1 ≤ M.lo) (hst : st = As.reverse ++ rest) (hw : (rest.map fun v => v.category).sum ≤ 8) (hb : c0 ≤ mc ∧ s0 ≤ ms) (k : ∀ (n1 : Nat) (g : eH), P g → eV M (pc + 3) lv (v :: rest) (g, n1, c0, s0) r mc ms) : eV M pc lv st (h, n, c0, s0) r mc ms := ev_callSW (n1 := n) d hm hk hroom hst hw hb (fun n1 g _ hg => k n1 g hg)
theorem ev_sxW {hh : List (Nat × Nat × Nat × Nat)} {P : eH → Prop} {mc1 ms1 : Nat} (d : decode M.1 pc = .ok (.invokestatic idx, 3)) (hm : eM y (.codeWith y bytes maxL ret hh) fr1 lo1 As h n (.inl (some v), P, nn) mc1 ms1) (hk : eLS M.own idx y (.codeWith y bytes maxL ret hh) As.length) (hroom : fr1 + 1 ≤ M.fr ∧ 8 + (maxL + 11) + lo1 ≤ M.lo) (hst : st = As.reverse ++ rest) (hw : (rest.map fun v => v.category).sum ≤ 8) (hb : c0 + mc1 ≤ mc ∧ s0 + ms1 ≤ ms) (k : ∀ (n1 : Nat) (g : eH), P g → eV M (pc + 3) lv (v :: rest) (g, n1, c0 + mc1, s0 + ms1) r mc ms) : eV M pc lv st (h, n, c0, s0) r mc ms := ev_callSW (n1 := n) d hm hk hroom hst hw hb (fun n1 g _ hg => k n1 g hg)
theorem ev_roN (d : decode M.1 pc = .ok (.invokestatic idx, 3)) (hm : eM y (.code y bytes maxL ret) fr1 lo1 As h n (.inl (some v), (· = h), nn) 0 0) (hk : eLS M.own idx y (.code y bytes maxL ret) As.length) (hroom : fr1 + 1 ≤ M.fr ∧ 8 + (maxL + 11) + lo1 ≤ M.lo) (hst : st = As.reverse ++ rest) (hw : (rest.map fun v => v.category).sum ≤ 8) (hb : c0 ≤ mc ∧ s0 ≤ ms) (k : ∀ n1 : Nat, eV M (pc + 3) lv (v :: rest) (h, n1, c0, s0) r mc ms) : eV M pc lv st (h, n, c0, s0) r mc ms := ev_callSN d hm hk hroom hst hw hb (eRn k)
theorem ev_rxN (d : decode M.1 pc = .ok (.invokestatic idx, 3)) (hm : eM y (.code y bytes maxL ret) fr1 lo1 As h n (.inl (some v), (· = h), nn) 1 6) (hk : eLS M.own idx y (.code y bytes maxL ret) As.length) (hroom : fr1 + 1 ≤ M.fr ∧ 8 + (maxL + 11) + lo1 ≤ M.lo) (hst : st = As.reverse ++ rest) (hw : (rest.map fun v => v.category).sum ≤ 8) (hb : c0 + 1 ≤ mc ∧ s0 + 6 ≤ ms) (k : ∀ n1 : Nat, eV M (pc + 3) lv (v :: rest) (h, n1, c0 + 1, s0 + 6) r mc ms) : eV M pc lv st (h, n, c0, s0) r mc ms := ev_callSN d hm hk hroom hst hw hb (eRn k)
theorem ev_stN {P : eH → Prop} (d : decode M.1 pc = .ok (.invokestatic idx, 3)) (hm : eM y (.code y bytes maxL ret) fr1 lo1 As h n (.inl (some v), P, nn) 0 0) (hk : eLS M.own idx y (.code y bytes maxL ret) As.length) (hroom : fr1 + 1 ≤ M.fr ∧ 8 + (maxL + 11) + lo1 ≤ M.lo) (hst : st = As.reverse ++ rest) (hw : (rest.map fun v => v.category).sum ≤ 8) (hb : c0 ≤ mc ∧ s0 ≤ ms) (k : ∀ (n1 : Nat) (g : eH), P g → eV M (pc + 3) lv (v :: rest) (g, n1, c0, s0) r mc ms) : eV M pc lv st (h, n, c0, s0) r mc ms := ev_callSN d hm hk hroom hst hw hb (fun n1 g _ hg => k n1 g hg)
theorem ev_sxN {P : eH → Prop} {mc1 ms1 : Nat} (d : decode M.1 pc = .ok (.invokestatic idx, 3)) (hm : eM y (.code y bytes maxL ret) fr1 lo1 As h n (.inl (some v), P, nn) mc1 ms1) (hk : eLS M.own idx y (.code y bytes maxL ret) As.length) (hroom : fr1 + 1 ≤ M.fr ∧ 8 + (maxL + 11) + lo1 ≤ M.lo) (hst : st = As.reverse ++ rest) (hw : (rest.map fun v => v.category).sum ≤ 8) (hb : c0 + mc1 ≤ mc ∧ s0 + ms1 ≤ ms) (k : ∀ (n1 : Nat) (g : eH), P g → eV M (pc + 3) lv (v :: rest) (g, n1, c0 + mc1, s0 + ms1) r mc ms) : eV M pc lv st (h, n, c0, s0) r mc ms := ev_callSN d hm hk hroom hst hw hb (fun n1 g _ hg => k n1 g hg)
theorem ev_roV {b ci : Nat} {q : vw_C} {fs : List Value} (d : decode M.1 pc = .ok (.invokevirtual idx, 3)) (hm : eM y (.code y bytes maxL ret) fr1 lo1 (.ref b :: As) h n (.inl (some v), (· = h), nn) 0 0) (hq : vwCl[ci]? = some q) (hk : eLV M.own idx q.1 y (.code y bytes maxL ret) As.length) (ho : h b = some (.inr (ci, fs))) (hroom : fr1 + 1 ≤ M.fr ∧ 8 + (maxL + 11) + lo1 ≤ M.lo) (hst : st = As.reverse ++ .ref b :: rest) (hw : (rest.map fun v => v.category).sum ≤ 8) (hb : c0 ≤ mc ∧ s0 ≤ ms) (k : ∀ n1 : Nat, eV M (pc + 3) lv (v :: rest) (h, n1, c0, s0) r mc ms) : eV M pc lv st (h, n, c0, s0) r mc ms := ev_callVn d hm hq hk ho hroom hst hw hb (eRn k)
theorem ev_rxV {b ci : Nat} {q : vw_C} {fs : List Value} (d : decode M.1 pc = .ok (.invokevirtual idx, 3)) (hm : eM y (.code y bytes maxL ret) fr1 lo1 (.ref b :: As) h n (.inl (some v), (· = h), nn) 1 6) (hq : vwCl[ci]? = some q) (hk : eLV M.own idx q.1 y (.code y bytes maxL ret) As.length) (ho : h b = some (.inr (ci, fs))) (hroom : fr1 + 1 ≤ M.fr ∧ 8 + (maxL + 11) + lo1 ≤ M.lo) (hst : st = As.reverse ++ .ref b :: rest) (hw : (rest.map fun v => v.category).sum ≤ 8) (hb : c0 + 1 ≤ mc ∧ s0 + 6 ≤ ms) (k : ∀ n1 : Nat, eV M (pc + 3) lv (v :: rest) (h, n1, c0 + 1, s0 + 6) r mc ms) : eV M pc lv st (h, n, c0, s0) r mc ms := ev_callVn d hm hq hk ho hroom hst hw hb (eRn k)
theorem ev_stV {b ci : Nat} {q : vw_C} {fs : List Value} {P : eH → Prop} (d : decode M.1 pc = .ok (.invokevirtual idx, 3)) (hm : eM y (.code y bytes maxL ret) fr1 lo1 (.ref b :: As) h n (.inl (some v), P, nn) 0 0) (hq : vwCl[ci]? = some q) (hk : eLV M.own idx q.1 y (.code y bytes maxL ret) As.length) (ho : h b = some (.inr (ci, fs))) (hroom : fr1 + 1 ≤ M.fr ∧ 8 + (maxL + 11) + lo1 ≤ M.lo) (hst : st = As.reverse ++ .ref b :: rest) (hw : (rest.map fun v => v.category).sum ≤ 8) (hb : c0 ≤ mc ∧ s0 ≤ ms) (k : ∀ (n1 : Nat) (g : eH), P g → eV M (pc + 3) lv (v :: rest) (g, n1, c0, s0) r mc ms) : eV M pc lv st (h, n, c0, s0) r mc ms := ev_callVn d hm hq hk ho hroom hst hw hb (fun n1 g _ hg => k n1 g hg)
theorem ev_sxV {b ci : Nat} {q : vw_C} {fs : List Value} {P : eH → Prop} {mc1 ms1 : Nat} (d : decode M.1 pc = .ok (.invokevirtual idx, 3)) (hm : eM y (.code y bytes maxL ret) fr1 lo1 (.ref b :: As) h n (.inl (some v), P, nn) mc1 ms1) (hq : vwCl[ci]? = some q) (hk : eLV M.own idx q.1 y (.code y bytes maxL ret) As.length) (ho : h b = some (.inr (ci, fs))) (hroom : fr1 + 1 ≤ M.fr ∧ 8 + (maxL + 11) + lo1 ≤ M.lo) (hst : st = As.reverse ++ .ref b :: rest) (hw : (rest.map fun v => v.category).sum ≤ 8) (hb : c0 + mc1 ≤ mc ∧ s0 + ms1 ≤ ms) (k : ∀ (n1 : Nat) (g : eH), P g → eV M (pc + 3) lv (v :: rest) (g, n1, c0 + mc1, s0 + ms1) r mc ms) : eV M pc lv st (h, n, c0, s0) r mc ms := ev_callVn d hm hq hk ho hroom hst hw hb (fun n1 g _ hg => k n1 g hg)
end Calls
/-- an option as a long -/
def oL (o : Option Nat) : Int64 := match o with
  | none => -1
  | some k => lN k
theorem oI_l {o : Option Nat} (h : ∀ k, o = some k → k < 2 ^ 31) : (oI o).toInt64 = oL o := by
  cases o with
  | none => exact (by decide : ((-1 : Int32)).toInt64 = -1)
  | some k => exact nI_l (h k rfl)
theorem gI.ok {σ : St} {T : Nat} (h : gI σ T) (hT : T < 2 ^ 20) : eOK σ := h.1.ok (by omega)
theorem sSum_b {f : Nat → Nat} {b n : Nat} (h : ∀ i, f i ≤ b) (hn : n ≤ 40) : sSum f n ≤ 40 * b := Nat.le_trans (sSum_le h n) (Nat.mul_le_mul_right b hn)
theorem uses_b {σ : St} {T n : Nat} (h : eIv σ T) (hn : n ≤ 40) : sSum (σ 10) n ≤ 40 * T := sSum_b (fun i => (h.2.2.2.1 i).2.2.2.2.1) hn
theorem sAbout_b {σ : St} {T w : Nat} (h : gI σ T) (hT : T < 2 ^ 20) : sAbout σ w < 2 ^ 31 := by
  have hK := h.ok hT
  have hB := hK.1
  have hN := hK.2.2.1
  have hc : ∀ p : Nat → Bool, cnt p (σ 0 1) < 2 ^ 31 := fun p => by have := cnt_le p (σ 0 1); omega
  have hu := uses_b (n := σ 0 1) h.1 hN
  unfold sAbout
  split
  · exact hB _ _
  split
  · exact hB _ _
  split
  · exact hc _
  split
  · exact hB _ _
  split
  · omega
  split
  · exact hB _ _
  split
  · exact hB _ _
  split
  · exact hB _ _
  · exact hB _ _
theorem sPersonOf_b {σ : St} {T p w : Nat} (h : gI σ T) (hT : T < 2 ^ 20) : sPersonOf σ p w < 2 ^ 31 := by
  have hK := h.ok hT
  have hB := hK.1
  have hN := hK.2.2.1
  have hP := hK.2.1
  have hc : ∀ p : Nat → Bool, cnt p (σ 0 1) < 2 ^ 31 := fun p => by have := cnt_le p (σ 0 1); omega
  have hc2 : ∀ p : Nat → Bool, cnt p (σ 0 0) < 2 ^ 31 := fun p => by have := cnt_le p (σ 0 0); omega
  unfold sPersonOf
  split
  · exact hc _
  split
  · exact hc2 _
  split
  · exact hc _
  split
  · exact hc _
  split
  · exact hB _ _
  · exact hB _ _
theorem sFst_b {p : Nat → Bool} {n k : Nat} (h : fst p n = some k) (hn : n ≤ 40) : k < 2 ^ 31 := by have := (fst_lt h).1; omega
theorem a_about {h : eH} {n b ℓ c T : Nat} {σ : St} {x : Nat → Nat} {τ τs : Nat → St} {us : Nat → Nat} (hO : eNB h b σ x ℓ c τ us τs) (hI : gI σ T) (hT : T < 2 ^ 20) {w v : Nat} (hw : w < 15) (hv : sAbout σ w = v) : kL_about [.ref b, .int (nI w)] h n (.inl (some (.long (lN v))), (· = h), some n) 0 0 :=
  hv ▸ w_about (nI_l (sAbout_b hI hT)) hO.1 (c_X10_about hO (hI.ok hT).1 hw)
theorem a_personOf {h : eH} {n b ℓ c T : Nat} {σ : St} {x : Nat → Nat} {τ τs : Nat → St} {us : Nat → Nat} (hO : eNB h b σ x ℓ c τ us τs) (hI : gI σ T) (hT : T < 2 ^ 20) {p w v : Nat} (hp : p < σ 0 0) (hw : w < 9) (hv : sPersonOf σ p w = v) : kL_personOf [.ref b, .int (nI p), .int (nI w)] h n (.inl (some (.long (lN v))), (· = h), some n) 0 0 :=
  hv ▸ w_personOf (nI_l (sPersonOf_b hI hT)) hO.1 (c_X10_personOf hO (hI.ok hT).1 hp hw)
theorem a_nameOf {h : eH} {n b ℓ c T : Nat} {σ : St} {x : Nat → Nat} {τ τs : Nat → St} {us : Nat → Nat} (hO : eNB h b σ x ℓ c τ us τs) (hI : gI σ T) (hT : T < 2 ^ 20) {p w v : Nat} (hp : p < σ 0 1) (hw : w < 8) (hv : σ (6 + w) p = v) : kL_nameOf [.ref b, .int (nI p), .int (nI w)] h n (.inl (some (.long (lN v))), (· = h), some n) 0 0 :=
  hv ▸ w_nameOf (nI_l ((hI.ok hT).1 _ _)) hO.1 (c_X10_nameOf hO (hI.ok hT) hp hw)
theorem a_letter {h : eH} {n b ℓ c T : Nat} {σ : St} {x : Nat → Nat} {τ τs : Nat → St} {us : Nat → Nat} (hO : eNB h b σ x ℓ c τ us τs) (hI : gI σ T) (hT : T < 2 ^ 20) {k p : Nat} (hk : k < σ 0 1) (hp : p < 2 ^ 31) : kL_letter [.ref b, .int (nI k), .int (nI p)] h n (.inl (some (.long (oL (sLetter σ k p)))), (· = h), some n) 0 0 :=
  w_letter (oI_l (fun j hj => by
    unfold sLetter at hj
    split at hj
    · cases hj; exact Nat.lt_trans (sLet_lt _ _ _) (by decide)
    · cases hj)) hO.1 (c_X10_letter hO (hI.ok hT) hk hp)
theorem a_roll {h : eH} {n b ℓ c T : Nat} {σ : St} {x : Nat → Nat} {τ τs : Nat → St} {us : Nat → Nat} (hO : eNB h b σ x ℓ c τ us τs) (hI : gI σ T) (hT : T < 2 ^ 20) {k : Nat} (hk : k < 2 ^ 31) : kL_roll [.ref b, .int (nI k)] h n (.inl (some (.long (oL (sRank σ k)))), (· = h), some n) 0 0 :=
  w_roll (oI_l (fun j hj => sFst_b hj (hI.ok hT).2.2.1)) hO.1 (c_X10_roll hO (hI.ok hT) hk)
theorem sMeant_b {σ : St} {d m k q : Nat} (h : sMeant σ d m k = some q) : q < σ 0 0 := by
  cases h1 : fst (fun p => decide (σ 3 p = d) && (sNameOf σ p m k).isSome) (σ 0 0) with
  | some p => rw [sMeant_1 h1] at h; cases h; exact (fst_lt h1).1
  | none => rw [sMeant_2 h1] at h; exact (fst_lt h).1
theorem sCode_b {m k : Nat} (h : sCode m k = true) : m < 2 ^ 31 ∧ k < 2 ^ 31 := by
  have h := of_decide_eq_true h
  refine ⟨by omega, Nat.lt_trans h.2.2 (Nat.lt_of_le_of_lt (Nat.pow_le_pow_right (by decide) h.2.1) (by decide))⟩
theorem a_meant {h : eH} {n b ℓ c T : Nat} {σ : St} {x : Nat → Nat} {τ τs : Nat → St} {us : Nat → Nat} (hO : eNB h b σ x ℓ c τ us τs) (hI : gI σ T) (hT : T < 2 ^ 20) {d m k w : Nat} (hd : d < 4) (hmc : sCode m k = true) (hw : w = 0 ∨ w = 1) : kL_meant [.ref b, .int (nI d), .int (nI m), .int (nI k), .int (nI w)] h n (.inl (some (.long (oL (sMeant σ d m k)))), (· = h), some n) 0 0 := by
  have hb : ∀ j, sMeant σ d m k = some j → j < 2 ^ 31 := fun j hj => by have := sMeant_b hj; have := (hI.ok hT).2.1; omega
  rcases hw with rfl | rfl
  · exact w_meant (oI_l hb) hO.1 (c_X10_meant hO (hI.ok hT) hd (sCode_b hmc).1 (sCode_b hmc).2 hmc)
  · have e := sMeantN_is (b := d) (m := m) (c := k) hI.2.1.1 hI.1.ho
    have q := c_X10_meant_b (n := n) hO (hI.ok hT) hd (sCode_b hmc).1 (sCode_b hmc).2 hmc
    rw [e] at q
    exact w_meant (oI_l hb) hO.1 q
theorem sWhyAny_b (σ : St) (g p : Nat) : sWhyAny σ g p ≤ 3 := by
  unfold sWhyAny
  split
  · omega
  · split
    · omega
    · split <;> omega
theorem sWhy_b (σ : St) (g p m k : Nat) : sWhy σ g p m k ≤ 5 := by
  have := sWhyAny_b σ g p
  unfold sWhy
  split
  · omega
  · split
    · omega
    · split <;> omega
theorem a_why {h : eH} {n b ℓ c T : Nat} {σ : St} {x : Nat → Nat} {τ τs : Nat → St} {us : Nat → Nat} (hO : eNB h b σ x ℓ c τ us τs) (hI : gI σ T) (hT : T < 2 ^ 20) {g p m k : Nat} (hg : g < σ 0 0) (hp : p < σ 0 0) (hmc : sCode m k = true) : kL_why [.ref b, .int (nI g), .int (nI p), .int (nI m), .int (nI k)] h n (.inl (some (.long (lN (sWhy σ g p m k)))), (· = h), some n) 0 0 :=
  w_why (nI_l (by have := sWhy_b σ g p m k; omega)) hO.1 (c_X10_why hO (hI.ok hT) hg hp (sCode_b hmc).1 (sCode_b hmc).2 hmc)
theorem sLeft_b {σ : St} {T k : Nat} (hI : gI σ T) (hk : k < σ 0 1) : sLeft σ k ≤ 9 := by
  by_cases ha : sAlive σ k = true
  · obtain ⟨g1, g2, -, -⟩ := sLeft_i ha rfl (hI.1.2.2.2.1 k).2.2.2.2.2.1
    have := hI.1.2.2.2.2.2.1.2 1
    omega
  · rw [sLeft_0.mpr (Bool.eq_false_iff.mpr ha)]
    omega
theorem a_endsIn {h : eH} {n b ℓ c T : Nat} {σ : St} {x : Nat → Nat} {τ τs : Nat → St} {us : Nat → Nat} (hO : eNB h b σ x ℓ c τ us τs) (hI : gI σ T) (hT : T < 2 ^ 20) {k : Nat} (hk : k < σ 0 1) : kL_endsIn [.ref b, .int (nI k)] h n (.inl (some (.long (lN (sLeft σ k)))), (· = h), some n) 0 0 :=
  w_endsIn (nI_l (by have := sLeft_b hI hk; omega)) hO.1 (c_X10_endsIn hO (hI.ok hT) hk)
theorem sBest_b {σ : St} {g p m k : Nat} (hm : m ≤ 2) (h : sBest σ g p m = some k) : k < 2 ^ 31 :=
  Nat.lt_trans (sBest_yes h).2 (Nat.lt_of_le_of_lt (Nat.pow_le_pow_right (by decide) hm) (by decide))
theorem a_bestName {h : eH} {n b ℓ c T : Nat} {σ : St} {x : Nat → Nat} {τ τs : Nat → St} {us : Nat → Nat} (hO : eNB h b σ x ℓ c τ us τs) (hI : gI σ T) (hT : T < 2 ^ 20) {g p m : Nat} (hg : g < σ 0 0) (hp : p < σ 0 0) (hm : 1 ≤ m ∧ m ≤ 2) : kL_bestName [.ref b, .int (nI g), .int (nI p), .int (nI m)] h n (.inl (some (.long (oL (sBest σ g p m)))), (fun g => eNB g b σ x ℓ c τ us τs ∧ eFr h g b (b + 317)), some n) 0 0 :=
  w_bestName (oI_l (fun j hj => sBest_b hm.2 hj)) hO.1 (c_X10_bestName hO (hI.ok hT) hg hp hm)
theorem a_simulate {h : eH} {n b ℓ c T : Nat} {σ : St} {x : Nat → Nat} {τ τs : Nat → St} {us : Nat → Nat} (hO : eNB h b σ x ℓ c τ us τs) (hI : gI σ T) (hT : T < 2 ^ 20) {y : Int64} {m : Nat} (hm : 1 ≤ m ∧ m < 61) : kL_simulate [.ref b, .long y, .int (nI m)] h n (.inl (some (.long (sSimA σ y m).toInt64)), (fun g => eNB g b σ x ℓ c τ us τs ∧ eFr h g b (b + 317)), some n) 0 0 :=
  w_simulate rfl hO.1 (c_X10_simulate hO hI.1 (by omega) hm)
theorem a_script {h : eH} {n b ℓ c T : Nat} {σ : St} {x : Nat → Nat} {τ τs : Nat → St} {us : Nat → Nat} (hO : eNB h b σ x ℓ c τ us τs) (hI : gI σ T) (hT : T < 2 ^ 20) {m s : Nat} (hm : 1 ≤ m ∧ m ≤ 3) (hs : s < 1000000 ^ m) : kL_script [.ref b, .int (nI m), .long (lN s)] h n (.inl (some (.long (oI (sScrQ σ s m)).toInt64)), (fun g => eNB g b σ x ℓ c τ us τs ∧ eFr h g b (b + 317)), some n) 0 0 :=
  w_script rfl hO.1 (c_X10_runScript hO hI.1 (by omega) hm hs)
theorem a_undo {h : eH} {n b ℓ c c' : Nat} {σ : St} {x : Nat → Nat} {τ τs : Nat → St} {us : Nat → Nat} (hO : eNB h b σ x ℓ c τ us τs) (hc : c = c' + 1) (h14 : c' < 14) : kL_undo [.ref b] h n (.inl (some (.long (lN c'))), (fun g => eNB g b (τ c') x ℓ c' τ us τs ∧ eFr h g b (b + 317)), some n) 0 0 := by
  subst hc
  exact w_undo (nI_l (by omega)) hO.1 (c_X10_undo hO)
theorem a_save {h : eH} {n b ℓ c T : Nat} {σ : St} {x : Nat → Nat} {τ τs : Nat → St} {us : Nat → Nat} (hO : eNB h b σ x ℓ c τ us τs) (hI : gI σ T) (hT : T < 2 ^ 20) {s : Nat} (hs : s < 2) : kL_save [.ref b, .int (nI s)] h n (.inl (some (.long (lN (σ 0 1)))), (fun g => eNB g b σ x ℓ c τ (fun i => if i = s then 1 else us i) (fun i => if i = s then σ else τs i) ∧ eFr h g b (b + 317)), some n) 0 0 :=
  w_save (nI_l ((hI.ok hT).1 _ _)) hO.1 (c_X10_save hO hs)
theorem a_restore {h : eH} {n b ℓ c s : Nat} {σ : St} {x : Nat → Nat} {τ τs : Nat → St} {us : Nat → Nat} (hO : eNB h b σ x ℓ c τ us τs) (hs : s < 2) (hu : us s ≠ 0) (h1 : τs s 0 1 ≤ 40) : kL_restore [.ref b, .int (nI s)] h n (.inl (some (.long (lN (τs s 0 1)))), (fun g => eNB g b (τs s) x ℓ 0 τ us τs ∧ eFr h g b (b + 317)), some n) 0 0 :=
  w_restore (nI_l (by omega)) hO.1 (c_X10_restore hO hs hu)
theorem a_give {h : eH} {n b ℓ c T : Nat} {σ : St} {x : Nat → Nat} {τ τs : Nat → St} {us : Nat → Nat} (hO : eNB h b σ x ℓ c τ us τs) (hI : gI σ T) (hT : T < 2 ^ 20) {g p m k : Nat} (hg : g < σ 0 0) (hp : p < σ 0 0) (hmc : sCode m k = true) : kL_give [.ref b, .int (nI g), .int (nI p), .int (nI m), .int (nI k)] h n (.inl (some (.long (lN (sWhy σ g p m k)))), (fun g' => eNB g' b (sGiveT σ g p m k) x ℓ (sRemC c) (sRem c τ σ) us τs ∧ eFr h g' b (b + 317)), some n) 0 0 :=
  w_give (nI_l (by have := sWhy_b σ g p m k; omega)) hO.1 (c_X10_give hO (hI.ok hT) hg hp (sCode_b hmc).1 (sCode_b hmc).2 hmc)
theorem a_call {h : eH} {n b ℓ c T : Nat} {σ : St} {x : Nat → Nat} {τ τs : Nat → St} {us : Nat → Nat} (hO : eNB h b σ x ℓ c τ us τs) (hI : gI σ T) (hT : T < 2 ^ 20) {d m k : Nat} (hd : d < 4) (hmc : sCode m k = true) : kL_call [.ref b, .int (nI d), .int (nI m), .int (nI k)] h n (.inl (some (.long (oL (sMeant σ d m k)))), (fun g' => eNB g' b (sCallT σ d m k) x ℓ (sRemC c) (sRem c τ σ) us τs ∧ eFr h g' b (b + 317)), some n) 0 0 := by
  have e : sCallW σ d m k = sMeant σ d m k := if_pos ⟨hd, hmc⟩
  have q := c_X10_call (n := n) hO hI.1 (by omega) hd (sCode_b hmc).1 (sCode_b hmc).2 hmc
  rw [e] at q
  exact w_call (oI_l (fun j hj => by have := sMeant_b hj; have := (hI.ok hT).2.1; omega)) hO.1 q
theorem a_years {h : eH} {n b ℓ c T : Nat} {σ : St} {x : Nat → Nat} {τ τs : Nat → St} {us : Nat → Nat} (hO : eNB h b σ x ℓ c τ us τs) (hI : gI σ T) (hT : T < 2 ^ 20) {y : Nat} (hy : 1 ≤ y ∧ y < 10) (hl : σ 0 2 + y ≤ 999) : kL_years [.ref b, .int (nI y)] h n (.inl (some (.long (lN (sYearsN σ y)))), (fun g' => eNB g' b (sPass σ y) x ℓ (sRemC c) (sRem c τ σ) us τs ∧ eFr h g' b (b + 317)), some n) 0 0 :=
  w_years (nI_l (by have := sYearsN_lt hI.1 (n := y) hl; omega)) hO.1 (c_X10_years hO hI.1 (by omega) hy hl)
/-! 'now' as a number of the state -/
def fold31 (f : Nat → Int64) (v : Int64) : Nat → Int64
  | 0 => v
  | k + 1 => lN 31 * fold31 f v k + f k
def sNowP (σ : St) : Nat → Int64
  | 0 => fold31 (fun j => lN (sAbout σ j)) (lN 151) 15
  | p + 1 => fold31 (fun j => lN (sPersonOf σ p j)) (sNowP σ p) 9
def sNowN (σ : St) : Nat → Int64
  | 0 => sNowP σ (σ 0 0)
  | k + 1 => fold31 (fun j => lN (σ (6 + j) k)) (sNowN σ k) 8
def sNow (σ : St) : Int64 := sNowN σ (σ 0 1)
set_option maxHeartbeats 4000000 in
set_option maxRecDepth 20000 in
theorem now_81 {h : eH} {b ℓ c T : Nat} {σ : St} {x : Nat → Nat} {τ τs : Nat → St} {us : Nat → Nat} (hO : eNB h b σ x ℓ c τ us τs) (hI : gI σ T) (hT : T < 2 ^ 20) : ∀ (n_0 k : Nat), k ≤ σ 0 1 → eV mL_now 81 [(0, .ref b), (1, .long (sNowN σ k)), (3, .int (nI k))] [] (h, n_0, 0, 0) (.inl (some (.long (sNow σ))), (· = h), none) 0 0 := by
  have hK := hI.ok hT
  have hB := hK.1
  have hP := hK.2.1
  have hN := hK.2.2.1
  intro n_0 k hk
  have H_81 : ∀ (d_81 : Nat) (n_0 k : Nat), d_81 = σ 0 1 - k → (k ≤ σ 0 1) → eV mL_now 81 [(0, .ref b), (1, .long (sNowN σ k)), (3, .int (nI k))] [] (h, n_0, 0, 0) (.inl (some (.long (sNow σ))), (· = h), none) 0 0 := by
    intro d_81
    induction d_81 using Nat.strongRecOn with
    | _ d_81 ih_81 =>
    intro n_0 k hd_81 hk
    refine ev_iload_n dL_now_81 rfl rfl ?_
    refine ev_i2l dL_now_82 (nI_l (by first | omega | assumption)) ?_
    refine ev_aload_n dL_now_83 rfl rfl ?_
    refine ev_iconst (v := nI 1) dL_now_84 rfl ?_
    refine ev_roW dL_now_85 (a_about (w := 1) (v := σ 0 1) hO hI hT (by decide) rfl) lk_L_100 ⟨Nat.le_of_ble_eq_true rfl, Nat.le_of_ble_eq_true rfl⟩ rfl (Nat.le_of_ble_eq_true rfl) ⟨by first | exact Nat.le_of_ble_eq_true rfl | omega, by first | exact Nat.le_of_ble_eq_true rfl | omega⟩ (fun n_85 => ?_)
    refine ev_lcN_ge (tgt := 128) dL_now_88 dL_now_89 (by decide) (by first | omega | assumption) (by first | omega | assumption) (fun c_88 => ?_) (fun c_88 => ?_)
    · have ek : k = σ 0 1 := by omega
      subst ek
      refine ev_lload_n dL_now_128 rfl rfl ?_
      exact ev_lret dL_now_129 rfl (by rfl) (by rfl) (fun _ e => nomatch e) (by first | exact Nat.le_of_ble_eq_true rfl | omega) (by first | exact Nat.le_of_ble_eq_true rfl | omega)
    · refine ev_iconst (v := nI 0) dL_now_92 rfl ?_
      refine ev_istore dL_now_93 (Nat.le_of_ble_eq_true rfl) ?_
      have H_95 : ∀ (d_95 : Nat) (n_0 j : Nat), d_95 = 8 - j → (j ≤ 8) → eV mL_now 95 [(0, .ref b), (1, .long (fold31 (fun j => lN (σ (6 + j) k)) (sNowN σ k) j)), (3, .int (nI k)), (4, .int (nI j))] [] (h, n_0, 0, 0) (.inl (some (.long (sNow σ))), (· = h), none) 0 0 := by
        intro d_95
        induction d_95 using Nat.strongRecOn with
        | _ d_95 ih_95 =>
        intro n_0 j hd_95 hj
        refine ev_iload dL_now_95 rfl ?_
        refine ev_bipush (v := nI 8) dL_now_97 rfl ?_
        refine ev_icmp_geN (tgt := 122) dL_now_99 (by decide) (by first | omega | assumption) (by first | omega | assumption) (fun c_99 => ?_) (fun c_99 => ?_)
        · have ej : j = 8 := by omega
          subst ej
          refine ev_iincN dL_now_122 rfl (Nat.le_of_ble_eq_true rfl) ?_
          refine ev_goto (tgt := 81) dL_now_125 (by decide) ?_
          exact (ih_81 _ (by omega) _ _ rfl (by omega)).sub1 ⟨rfl, rfl, rfl, trivial⟩ rfl
        · refine ev_ldc2 (v := lN 31) dL_now_102 wq_L_98 ?_
          refine ev_lload_n dL_now_105 rfl rfl ?_
          refine ev_lmul dL_now_106 ?_
          refine ev_aload_n dL_now_107 rfl rfl ?_
          refine ev_iload_n dL_now_108 rfl rfl ?_
          refine ev_iload dL_now_109 rfl ?_
          refine ev_roW dL_now_111 (a_nameOf (p := k) (w := j) hO hI hT c_88 c_99 rfl) lk_L_108 ⟨Nat.le_of_ble_eq_true rfl, Nat.le_of_ble_eq_true rfl⟩ rfl (Nat.le_of_ble_eq_true rfl) ⟨by first | exact Nat.le_of_ble_eq_true rfl | omega, by first | exact Nat.le_of_ble_eq_true rfl | omega⟩ (fun n_111 => ?_)
          refine ev_ladd dL_now_114 ?_
          refine ev_lstore_n dL_now_115 rfl (Nat.le_of_ble_eq_true rfl) ?_
          refine ev_iincN dL_now_116 rfl (Nat.le_of_ble_eq_true rfl) ?_
          refine ev_goto (tgt := 95) dL_now_119 (by decide) ?_
          exact (ih_95 _ (by omega) _ _ rfl (by omega)).sub1 ⟨rfl, rfl, rfl, rfl, trivial⟩ rfl
      exact (H_95 _ _ 0 rfl (by omega)).sub1 ⟨rfl, rfl, rfl, rfl, trivial⟩ rfl
  exact (H_81 _ n_0 k rfl (by exact hk)).sub1 ⟨rfl, rfl, rfl, trivial⟩ rfl
set_option maxHeartbeats 4000000 in
set_option maxRecDepth 20000 in
theorem now_32 {h : eH} {b ℓ c T : Nat} {σ : St} {x : Nat → Nat} {τ τs : Nat → St} {us : Nat → Nat} (hO : eNB h b σ x ℓ c τ us τs) (hI : gI σ T) (hT : T < 2 ^ 20) : ∀ (n_0 p : Nat), p ≤ σ 0 0 → eV mL_now 32 [(0, .ref b), (1, .long (sNowP σ p)), (3, .int (nI p))] [] (h, n_0, 0, 0) (.inl (some (.long (sNow σ))), (· = h), none) 0 0 := by
  have hK := hI.ok hT
  have hB := hK.1
  have hP := hK.2.1
  have hN := hK.2.2.1
  intro n_0 p hp
  have H_32 : ∀ (d_32 : Nat) (n_0 p : Nat), d_32 = σ 0 0 - p → (p ≤ σ 0 0) → eV mL_now 32 [(0, .ref b), (1, .long (sNowP σ p)), (3, .int (nI p))] [] (h, n_0, 0, 0) (.inl (some (.long (sNow σ))), (· = h), none) 0 0 := by
    intro d_32
    induction d_32 using Nat.strongRecOn with
    | _ d_32 ih_32 =>
    intro n_0 p hd_32 hp
    refine ev_iload_n dL_now_32 rfl rfl ?_
    refine ev_i2l dL_now_33 (nI_l (by first | omega | assumption)) ?_
    refine ev_aload_n dL_now_34 rfl rfl ?_
    refine ev_iconst (v := nI 0) dL_now_35 rfl ?_
    refine ev_roW dL_now_36 (a_about (w := 0) (v := σ 0 0) hO hI hT (by decide) rfl) lk_L_100 ⟨Nat.le_of_ble_eq_true rfl, Nat.le_of_ble_eq_true rfl⟩ rfl (Nat.le_of_ble_eq_true rfl) ⟨by first | exact Nat.le_of_ble_eq_true rfl | omega, by first | exact Nat.le_of_ble_eq_true rfl | omega⟩ (fun n_36 => ?_)
    refine ev_lcN_ge (tgt := 79) dL_now_39 dL_now_40 (by decide) (by first | omega | assumption) (by first | omega | assumption) (fun c_39 => ?_) (fun c_39 => ?_)
    · have ek : p = σ 0 0 := by omega
      subst ek
      refine ev_iconst (v := nI 0) dL_now_79 rfl ?_
      refine ev_istore_n dL_now_80 rfl (Nat.le_of_ble_eq_true rfl) ?_
      exact (now_81 hO hI hT _ 0 (Nat.zero_le _)).sub1 ⟨rfl, rfl, rfl, trivial⟩ rfl
    · refine ev_iconst (v := nI 0) dL_now_43 rfl ?_
      refine ev_istore dL_now_44 (Nat.le_of_ble_eq_true rfl) ?_
      have H_46 : ∀ (d_46 : Nat) (n_0 j : Nat), d_46 = 9 - j → (j ≤ 9) → eV mL_now 46 [(0, .ref b), (1, .long (fold31 (fun j => lN (sPersonOf σ p j)) (sNowP σ p) j)), (3, .int (nI p)), (4, .int (nI j))] [] (h, n_0, 0, 0) (.inl (some (.long (sNow σ))), (· = h), none) 0 0 := by
        intro d_46
        induction d_46 using Nat.strongRecOn with
        | _ d_46 ih_46 =>
        intro n_0 j hd_46 hj
        refine ev_iload dL_now_46 rfl ?_
        refine ev_bipush (v := nI 9) dL_now_48 rfl ?_
        refine ev_icmp_geN (tgt := 73) dL_now_50 (by decide) (by first | omega | assumption) (by first | omega | assumption) (fun c_50 => ?_) (fun c_50 => ?_)
        · have ej : j = 9 := by omega
          subst ej
          refine ev_iincN dL_now_73 rfl (Nat.le_of_ble_eq_true rfl) ?_
          refine ev_goto (tgt := 32) dL_now_76 (by decide) ?_
          exact (ih_32 _ (by omega) _ _ rfl (by omega)).sub1 ⟨rfl, rfl, rfl, trivial⟩ rfl
        · refine ev_ldc2 (v := lN 31) dL_now_53 wq_L_98 ?_
          refine ev_lload_n dL_now_56 rfl rfl ?_
          refine ev_lmul dL_now_57 ?_
          refine ev_aload_n dL_now_58 rfl rfl ?_
          refine ev_iload_n dL_now_59 rfl rfl ?_
          refine ev_iload dL_now_60 rfl ?_
          refine ev_roW dL_now_62 (a_personOf (p := p) (w := j) hO hI hT c_39 c_50 rfl) lk_L_105 ⟨Nat.le_of_ble_eq_true rfl, Nat.le_of_ble_eq_true rfl⟩ rfl (Nat.le_of_ble_eq_true rfl) ⟨by first | exact Nat.le_of_ble_eq_true rfl | omega, by first | exact Nat.le_of_ble_eq_true rfl | omega⟩ (fun n_62 => ?_)
          refine ev_ladd dL_now_65 ?_
          refine ev_lstore_n dL_now_66 rfl (Nat.le_of_ble_eq_true rfl) ?_
          refine ev_iincN dL_now_67 rfl (Nat.le_of_ble_eq_true rfl) ?_
          refine ev_goto (tgt := 46) dL_now_70 (by decide) ?_
          exact (ih_46 _ (by omega) _ _ rfl (by omega)).sub1 ⟨rfl, rfl, rfl, rfl, trivial⟩ rfl
      exact (H_46 _ _ 0 rfl (by omega)).sub1 ⟨rfl, rfl, rfl, rfl, trivial⟩ rfl
  exact (H_32 _ n_0 p rfl (by exact hp)).sub1 ⟨rfl, rfl, rfl, trivial⟩ rfl
set_option maxHeartbeats 4000000 in
set_option maxRecDepth 20000 in
theorem c_L_now {h : eH} {n b ℓ c T : Nat} {σ : St} {x : Nat → Nat} {τ τs : Nat → St} {us : Nat → Nat} (hO : eNB h b σ x ℓ c τ us τs) (hI : gI σ T) (hT : T < 2 ^ 20) : kL_now [.ref b] h n (.inl (some (.long (sNow σ))), (· = h), none) 0 0 := by
  refine eM.of RL "now" [(0, .ref b)] pn_L rfl rfl (Nat.le_of_ble_eq_true rfl) rfl ?_
  have hK := hI.ok hT
  have hB := hK.1
  have hP := hK.2.1
  have hN := hK.2.2.1
  refine ev_ldc2 (v := lN 151) dL_now_0 wq_L_96 ?_
  refine ev_lstore_n dL_now_3 rfl (Nat.le_of_ble_eq_true rfl) ?_
  refine ev_iconst (v := nI 0) dL_now_4 rfl ?_
  refine ev_istore_n dL_now_5 rfl (Nat.le_of_ble_eq_true rfl) ?_
  have H_6 : ∀ (d_6 : Nat) (n_0 j : Nat), d_6 = 15 - j → (j ≤ 15) → eV mL_now 6 [(0, .ref b), (1, .long (fold31 (fun j => lN (sAbout σ j)) (lN 151) j)), (3, .int (nI j))] [] (h, n_0, 0, 0) (.inl (some (.long (sNow σ))), (· = h), none) 0 0 := by
    intro d_6
    induction d_6 using Nat.strongRecOn with
    | _ d_6 ih_6 =>
    intro n_0 j hd_6 hj
    refine ev_iload_n dL_now_6 rfl rfl ?_
    refine ev_bipush (v := nI 15) dL_now_7 rfl ?_
    refine ev_icmp_geN (tgt := 30) dL_now_9 (by decide) (by first | omega | assumption) (by first | omega | assumption) (fun c_9 => ?_) (fun c_9 => ?_)
    · have ej : j = 15 := by omega
      subst ej
      refine ev_iconst (v := nI 0) dL_now_30 rfl ?_
      refine ev_istore_n dL_now_31 rfl (Nat.le_of_ble_eq_true rfl) ?_
      exact (now_32 hO hI hT _ 0 (Nat.zero_le _)).sub1 ⟨rfl, rfl, rfl, trivial⟩ rfl
    · refine ev_ldc2 (v := lN 31) dL_now_12 wq_L_98 ?_
      refine ev_lload_n dL_now_15 rfl rfl ?_
      refine ev_lmul dL_now_16 ?_
      refine ev_aload_n dL_now_17 rfl rfl ?_
      refine ev_iload_n dL_now_18 rfl rfl ?_
      refine ev_roW dL_now_19 (a_about (w := j) hO hI hT c_9 rfl) lk_L_100 ⟨Nat.le_of_ble_eq_true rfl, Nat.le_of_ble_eq_true rfl⟩ rfl (Nat.le_of_ble_eq_true rfl) ⟨by first | exact Nat.le_of_ble_eq_true rfl | omega, by first | exact Nat.le_of_ble_eq_true rfl | omega⟩ (fun n_19 => ?_)
      refine ev_ladd dL_now_22 ?_
      refine ev_lstore_n dL_now_23 rfl (Nat.le_of_ble_eq_true rfl) ?_
      refine ev_iincN dL_now_24 rfl (Nat.le_of_ble_eq_true rfl) ?_
      refine ev_goto (tgt := 6) dL_now_27 (by decide) ?_
      exact (ih_6 _ (by omega) _ _ rfl (by omega)).sub1 ⟨rfl, rfl, rfl, trivial⟩ rfl
  exact (H_6 _ _ 0 rfl (by omega)).sub1 ⟨rfl, rfl, rfl, trivial⟩ rfl
