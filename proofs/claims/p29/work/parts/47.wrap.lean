/-! THE LAW'S WRAPPERS: what a call answers, as a long -/
set_option maxHeartbeats 1000000 in
theorem w_append {h : eH} {n b : Nat} {fs : List Value} {P : eH → Prop} {x1 : Int32} {v : Int32} {y : Int64} (hv : v.toInt64 = y) (hb : h b = some (.inr (7, fs))) (hc : kX10_append [.ref b, .int x1] h n (.inl (some (.int v)), P, some n) 0 0) : kL_append [.ref b, .int x1] h n (.inl (some (.long y)), P, some n) 0 0 := by
  refine eM.ofH RL "append" [(0, .ref b), (1, .int x1)] pn_L rfl rfl (Nat.le_of_ble_eq_true rfl) rfl ?_
  refine ev_aload_n dL_append_0 rfl rfl ?_
  refine ev_iload_n dL_append_1 rfl rfl ?_
  refine ev_callVi dL_append_2 hc rfl lk_L_9 hb ⟨Nat.le_of_ble_eq_true rfl, Nat.le_of_ble_eq_true rfl⟩ rfl (Nat.le_of_ble_eq_true rfl) ⟨by show 0 + _ ≤ _; omega, by show 0 + _ ≤ _; omega⟩ (fun g hg => ?_)
  refine ev_i2l dL_append_5 hv ?_
  exact ev_lret dL_append_6 rfl rfl hg (fun _ e => Option.some.inj e) (by omega) (by omega)
set_option maxHeartbeats 1000000 in
theorem w_append_1 {h : eH} {n b : Nat} {fs : List Value} {P : eH → Prop} {x1 : Int32} (hb : h b = some (.inr (7, fs))) (hc : kX10_append [.ref b, .int x1] h n (.inr "java/lang/IllegalArgumentException", P, none) 1 6) : kL_append [.ref b, .int x1] h n (.inl (some (.long (-9000000000000000002))), P, none) 1 6 := by
  refine eM.ofH RL "append" [(0, .ref b), (1, .int x1)] pn_L rfl rfl (Nat.le_of_ble_eq_true rfl) rfl ?_
  refine ev_aload_n dL_append_0 rfl rfl ?_
  refine ev_iload_n dL_append_1 rfl rfl ?_
  refine ev_callVc dL_append_2 hc rfl lk_L_9 hb ⟨Nat.le_of_ble_eq_true rfl, Nat.le_of_ble_eq_true rfl⟩ rfl (Nat.le_of_ble_eq_true rfl) ⟨by show 0 + _ ≤ _; omega, by show 0 + _ ≤ _; omega⟩ [] ⟨0, 6, 7, 15⟩ [⟨0, 6, 12, 19⟩] rfl (fun z hz => absurd hz List.not_mem_nil) (by decide) (by decide) wk_L_15 wp_IllegalArgumentException (fun q n9 g hg => ?_)
  refine ev_astore_n dL_append_7 rfl (Nat.le_of_ble_eq_true rfl) ?_
  refine ev_ldc2 dL_append_8 wq_L_17 ?_
  exact ev_lret dL_append_11 rfl rfl hg (fun _ e => nomatch e) (by omega) (by omega)
set_option maxHeartbeats 1000000 in
theorem w_append_2 {h : eH} {n b : Nat} {fs : List Value} {P : eH → Prop} {x1 : Int32} (hb : h b = some (.inr (7, fs))) (hc : kX10_append [.ref b, .int x1] h n (.inr "java/lang/IllegalStateException", P, none) 1 6) : kL_append [.ref b, .int x1] h n (.inl (some (.long (-9000000000000000003))), P, none) 1 6 := by
  refine eM.ofH RL "append" [(0, .ref b), (1, .int x1)] pn_L rfl rfl (Nat.le_of_ble_eq_true rfl) rfl ?_
  refine ev_aload_n dL_append_0 rfl rfl ?_
  refine ev_iload_n dL_append_1 rfl rfl ?_
  refine ev_callVc dL_append_2 hc rfl lk_L_9 hb ⟨Nat.le_of_ble_eq_true rfl, Nat.le_of_ble_eq_true rfl⟩ rfl (Nat.le_of_ble_eq_true rfl) ⟨by show 0 + _ ≤ _; omega, by show 0 + _ ≤ _; omega⟩ [⟨0, 6, 7, 15⟩] ⟨0, 6, 12, 19⟩ [] rfl (fun z hz => by
    simp only [List.mem_cons, List.not_mem_nil, or_false] at hz
    rcases hz with rfl
    · exact Or.inr ⟨by decide, _, wk_L_15, by decide⟩) (by decide) (by decide) wk_L_19 wp_IllegalStateException (fun q n9 g hg => ?_)
  refine ev_astore_n dL_append_12 rfl (Nat.le_of_ble_eq_true rfl) ?_
  refine ev_ldc2 dL_append_13 wq_L_21 ?_
  exact ev_lret dL_append_16 rfl rfl hg (fun _ e => nomatch e) (by omega) (by omega)
set_option maxHeartbeats 1000000 in
theorem w_load {h : eH} {n b : Nat} {fs : List Value} {P : eH → Prop}  {v : Int32} {y : Int64} (hv : v.toInt64 = y) (hb : h b = some (.inr (7, fs))) (hc : kX10_load [.ref b] h n (.inl (some (.int v)), P, some n) 0 0) : kL_load [.ref b] h n (.inl (some (.long y)), P, some n) 0 0 := by
  refine eM.ofH RL "load" [(0, .ref b)] pn_L rfl rfl (Nat.le_of_ble_eq_true rfl) rfl ?_
  refine ev_aload_n dL_load_0 rfl rfl ?_
  refine ev_callVi dL_load_1 hc rfl lk_L_23 hb ⟨Nat.le_of_ble_eq_true rfl, Nat.le_of_ble_eq_true rfl⟩ rfl (Nat.le_of_ble_eq_true rfl) ⟨by show 0 + _ ≤ _; omega, by show 0 + _ ≤ _; omega⟩ (fun g hg => ?_)
  refine ev_i2l dL_load_4 hv ?_
  exact ev_lret dL_load_5 rfl rfl hg (fun _ e => Option.some.inj e) (by omega) (by omega)
set_option maxHeartbeats 1000000 in
theorem w_load_1 {h : eH} {n b : Nat} {fs : List Value} {P : eH → Prop}  (hb : h b = some (.inr (7, fs))) (hc : kX10_load [.ref b] h n (.inr "java/lang/IllegalStateException", P, none) 1 6) : kL_load [.ref b] h n (.inl (some (.long (-9000000000000000003))), P, none) 1 6 := by
  refine eM.ofH RL "load" [(0, .ref b)] pn_L rfl rfl (Nat.le_of_ble_eq_true rfl) rfl ?_
  refine ev_aload_n dL_load_0 rfl rfl ?_
  refine ev_callVc dL_load_1 hc rfl lk_L_23 hb ⟨Nat.le_of_ble_eq_true rfl, Nat.le_of_ble_eq_true rfl⟩ rfl (Nat.le_of_ble_eq_true rfl) ⟨by show 0 + _ ≤ _; omega, by show 0 + _ ≤ _; omega⟩ [] ⟨0, 5, 6, 19⟩ [] rfl (fun z hz => absurd hz List.not_mem_nil) (by decide) (by decide) wk_L_19 wp_IllegalStateException (fun q n9 g hg => ?_)
  refine ev_astore_n dL_load_6 rfl (Nat.le_of_ble_eq_true rfl) ?_
  refine ev_ldc2 dL_load_7 wq_L_21 ?_
  exact ev_lret dL_load_10 rfl rfl hg (fun _ e => nomatch e) (by omega) (by omega)
set_option maxHeartbeats 1000000 in
theorem w_about {h : eH} {n b : Nat} {fs : List Value} {P : eH → Prop} {x1 : Int32} {v : Int32} {y : Int64} (hv : v.toInt64 = y) (hb : h b = some (.inr (7, fs))) (hc : kX10_about [.ref b, .int x1] h n (.inl (some (.int v)), P, some n) 0 0) : kL_about [.ref b, .int x1] h n (.inl (some (.long y)), P, some n) 0 0 := by
  refine eM.ofH RL "about" [(0, .ref b), (1, .int x1)] pn_L rfl rfl (Nat.le_of_ble_eq_true rfl) rfl ?_
  refine ev_aload_n dL_about_0 rfl rfl ?_
  refine ev_iload_n dL_about_1 rfl rfl ?_
  refine ev_callVi dL_about_2 hc rfl lk_L_27 hb ⟨Nat.le_of_ble_eq_true rfl, Nat.le_of_ble_eq_true rfl⟩ rfl (Nat.le_of_ble_eq_true rfl) ⟨by show 0 + _ ≤ _; omega, by show 0 + _ ≤ _; omega⟩ (fun g hg => ?_)
  refine ev_i2l dL_about_5 hv ?_
  exact ev_lret dL_about_6 rfl rfl hg (fun _ e => Option.some.inj e) (by omega) (by omega)
set_option maxHeartbeats 1000000 in
theorem w_about_1 {h : eH} {n b : Nat} {fs : List Value} {P : eH → Prop} {x1 : Int32} (hb : h b = some (.inr (7, fs))) (hc : kX10_about [.ref b, .int x1] h n (.inr "java/lang/IllegalArgumentException", P, none) 1 6) : kL_about [.ref b, .int x1] h n (.inl (some (.long (-9000000000000000002))), P, none) 1 6 := by
  refine eM.ofH RL "about" [(0, .ref b), (1, .int x1)] pn_L rfl rfl (Nat.le_of_ble_eq_true rfl) rfl ?_
  refine ev_aload_n dL_about_0 rfl rfl ?_
  refine ev_iload_n dL_about_1 rfl rfl ?_
  refine ev_callVc dL_about_2 hc rfl lk_L_27 hb ⟨Nat.le_of_ble_eq_true rfl, Nat.le_of_ble_eq_true rfl⟩ rfl (Nat.le_of_ble_eq_true rfl) ⟨by show 0 + _ ≤ _; omega, by show 0 + _ ≤ _; omega⟩ [] ⟨0, 6, 7, 15⟩ [] rfl (fun z hz => absurd hz List.not_mem_nil) (by decide) (by decide) wk_L_15 wp_IllegalArgumentException (fun q n9 g hg => ?_)
  refine ev_astore_n dL_about_7 rfl (Nat.le_of_ble_eq_true rfl) ?_
  refine ev_ldc2 dL_about_8 wq_L_17 ?_
  exact ev_lret dL_about_11 rfl rfl hg (fun _ e => nomatch e) (by omega) (by omega)
set_option maxHeartbeats 1000000 in
theorem w_personOf {h : eH} {n b : Nat} {fs : List Value} {P : eH → Prop} {x1 : Int32} {x2 : Int32} {v : Int32} {y : Int64} (hv : v.toInt64 = y) (hb : h b = some (.inr (7, fs))) (hc : kX10_personOf [.ref b, .int x1, .int x2] h n (.inl (some (.int v)), P, some n) 0 0) : kL_personOf [.ref b, .int x1, .int x2] h n (.inl (some (.long y)), P, some n) 0 0 := by
  refine eM.ofH RL "personOf" [(0, .ref b), (1, .int x1), (2, .int x2)] pn_L rfl rfl (Nat.le_of_ble_eq_true rfl) rfl ?_
  refine ev_aload_n dL_personOf_0 rfl rfl ?_
  refine ev_iload_n dL_personOf_1 rfl rfl ?_
  refine ev_iload_n dL_personOf_2 rfl rfl ?_
  refine ev_callVi dL_personOf_3 hc rfl lk_L_30 hb ⟨Nat.le_of_ble_eq_true rfl, Nat.le_of_ble_eq_true rfl⟩ rfl (Nat.le_of_ble_eq_true rfl) ⟨by show 0 + _ ≤ _; omega, by show 0 + _ ≤ _; omega⟩ (fun g hg => ?_)
  refine ev_i2l dL_personOf_6 hv ?_
  exact ev_lret dL_personOf_7 rfl rfl hg (fun _ e => Option.some.inj e) (by omega) (by omega)
set_option maxHeartbeats 1000000 in
theorem w_personOf_1 {h : eH} {n b : Nat} {fs : List Value} {P : eH → Prop} {x1 : Int32} {x2 : Int32} (hb : h b = some (.inr (7, fs))) (hc : kX10_personOf [.ref b, .int x1, .int x2] h n (.inr "java/lang/IndexOutOfBoundsException", P, none) 1 6) : kL_personOf [.ref b, .int x1, .int x2] h n (.inl (some (.long (-9000000000000000001))), P, none) 1 6 := by
  refine eM.ofH RL "personOf" [(0, .ref b), (1, .int x1), (2, .int x2)] pn_L rfl rfl (Nat.le_of_ble_eq_true rfl) rfl ?_
  refine ev_aload_n dL_personOf_0 rfl rfl ?_
  refine ev_iload_n dL_personOf_1 rfl rfl ?_
  refine ev_iload_n dL_personOf_2 rfl rfl ?_
  refine ev_callVc dL_personOf_3 hc rfl lk_L_30 hb ⟨Nat.le_of_ble_eq_true rfl, Nat.le_of_ble_eq_true rfl⟩ rfl (Nat.le_of_ble_eq_true rfl) ⟨by show 0 + _ ≤ _; omega, by show 0 + _ ≤ _; omega⟩ [] ⟨0, 7, 8, 34⟩ [⟨0, 7, 13, 15⟩] rfl (fun z hz => absurd hz List.not_mem_nil) (by decide) (by decide) wk_L_34 wp_IndexOutOfBoundsException (fun q n9 g hg => ?_)
  refine ev_astore_n dL_personOf_8 rfl (Nat.le_of_ble_eq_true rfl) ?_
  refine ev_ldc2 dL_personOf_9 wq_L_36 ?_
  exact ev_lret dL_personOf_12 rfl rfl hg (fun _ e => nomatch e) (by omega) (by omega)
set_option maxHeartbeats 1000000 in
theorem w_personOf_2 {h : eH} {n b : Nat} {fs : List Value} {P : eH → Prop} {x1 : Int32} {x2 : Int32} (hb : h b = some (.inr (7, fs))) (hc : kX10_personOf [.ref b, .int x1, .int x2] h n (.inr "java/lang/IllegalArgumentException", P, none) 1 6) : kL_personOf [.ref b, .int x1, .int x2] h n (.inl (some (.long (-9000000000000000002))), P, none) 1 6 := by
  refine eM.ofH RL "personOf" [(0, .ref b), (1, .int x1), (2, .int x2)] pn_L rfl rfl (Nat.le_of_ble_eq_true rfl) rfl ?_
  refine ev_aload_n dL_personOf_0 rfl rfl ?_
  refine ev_iload_n dL_personOf_1 rfl rfl ?_
  refine ev_iload_n dL_personOf_2 rfl rfl ?_
  refine ev_callVc dL_personOf_3 hc rfl lk_L_30 hb ⟨Nat.le_of_ble_eq_true rfl, Nat.le_of_ble_eq_true rfl⟩ rfl (Nat.le_of_ble_eq_true rfl) ⟨by show 0 + _ ≤ _; omega, by show 0 + _ ≤ _; omega⟩ [⟨0, 7, 8, 34⟩] ⟨0, 7, 13, 15⟩ [] rfl (fun z hz => by
    simp only [List.mem_cons, List.not_mem_nil, or_false] at hz
    rcases hz with rfl
    · exact Or.inr ⟨by decide, _, wk_L_34, by decide⟩) (by decide) (by decide) wk_L_15 wp_IllegalArgumentException (fun q n9 g hg => ?_)
  refine ev_astore_n dL_personOf_13 rfl (Nat.le_of_ble_eq_true rfl) ?_
  refine ev_ldc2 dL_personOf_14 wq_L_17 ?_
  exact ev_lret dL_personOf_17 rfl rfl hg (fun _ e => nomatch e) (by omega) (by omega)
set_option maxHeartbeats 1000000 in
theorem w_nameOf {h : eH} {n b : Nat} {fs : List Value} {P : eH → Prop} {x1 : Int32} {x2 : Int32} {v : Int32} {y : Int64} (hv : v.toInt64 = y) (hb : h b = some (.inr (7, fs))) (hc : kX10_nameOf [.ref b, .int x1, .int x2] h n (.inl (some (.int v)), P, some n) 0 0) : kL_nameOf [.ref b, .int x1, .int x2] h n (.inl (some (.long y)), P, some n) 0 0 := by
  refine eM.ofH RL "nameOf" [(0, .ref b), (1, .int x1), (2, .int x2)] pn_L rfl rfl (Nat.le_of_ble_eq_true rfl) rfl ?_
  refine ev_aload_n dL_nameOf_0 rfl rfl ?_
  refine ev_iload_n dL_nameOf_1 rfl rfl ?_
  refine ev_iload_n dL_nameOf_2 rfl rfl ?_
  refine ev_callVi dL_nameOf_3 hc rfl lk_L_38 hb ⟨Nat.le_of_ble_eq_true rfl, Nat.le_of_ble_eq_true rfl⟩ rfl (Nat.le_of_ble_eq_true rfl) ⟨by show 0 + _ ≤ _; omega, by show 0 + _ ≤ _; omega⟩ (fun g hg => ?_)
  refine ev_i2l dL_nameOf_6 hv ?_
  exact ev_lret dL_nameOf_7 rfl rfl hg (fun _ e => Option.some.inj e) (by omega) (by omega)
set_option maxHeartbeats 1000000 in
theorem w_nameOf_1 {h : eH} {n b : Nat} {fs : List Value} {P : eH → Prop} {x1 : Int32} {x2 : Int32} (hb : h b = some (.inr (7, fs))) (hc : kX10_nameOf [.ref b, .int x1, .int x2] h n (.inr "java/lang/IndexOutOfBoundsException", P, none) 1 6) : kL_nameOf [.ref b, .int x1, .int x2] h n (.inl (some (.long (-9000000000000000001))), P, none) 1 6 := by
  refine eM.ofH RL "nameOf" [(0, .ref b), (1, .int x1), (2, .int x2)] pn_L rfl rfl (Nat.le_of_ble_eq_true rfl) rfl ?_
  refine ev_aload_n dL_nameOf_0 rfl rfl ?_
  refine ev_iload_n dL_nameOf_1 rfl rfl ?_
  refine ev_iload_n dL_nameOf_2 rfl rfl ?_
  refine ev_callVc dL_nameOf_3 hc rfl lk_L_38 hb ⟨Nat.le_of_ble_eq_true rfl, Nat.le_of_ble_eq_true rfl⟩ rfl (Nat.le_of_ble_eq_true rfl) ⟨by show 0 + _ ≤ _; omega, by show 0 + _ ≤ _; omega⟩ [] ⟨0, 7, 8, 34⟩ [⟨0, 7, 13, 15⟩] rfl (fun z hz => absurd hz List.not_mem_nil) (by decide) (by decide) wk_L_34 wp_IndexOutOfBoundsException (fun q n9 g hg => ?_)
  refine ev_astore_n dL_nameOf_8 rfl (Nat.le_of_ble_eq_true rfl) ?_
  refine ev_ldc2 dL_nameOf_9 wq_L_36 ?_
  exact ev_lret dL_nameOf_12 rfl rfl hg (fun _ e => nomatch e) (by omega) (by omega)
set_option maxHeartbeats 1000000 in
theorem w_nameOf_2 {h : eH} {n b : Nat} {fs : List Value} {P : eH → Prop} {x1 : Int32} {x2 : Int32} (hb : h b = some (.inr (7, fs))) (hc : kX10_nameOf [.ref b, .int x1, .int x2] h n (.inr "java/lang/IllegalArgumentException", P, none) 1 6) : kL_nameOf [.ref b, .int x1, .int x2] h n (.inl (some (.long (-9000000000000000002))), P, none) 1 6 := by
  refine eM.ofH RL "nameOf" [(0, .ref b), (1, .int x1), (2, .int x2)] pn_L rfl rfl (Nat.le_of_ble_eq_true rfl) rfl ?_
  refine ev_aload_n dL_nameOf_0 rfl rfl ?_
  refine ev_iload_n dL_nameOf_1 rfl rfl ?_
  refine ev_iload_n dL_nameOf_2 rfl rfl ?_
  refine ev_callVc dL_nameOf_3 hc rfl lk_L_38 hb ⟨Nat.le_of_ble_eq_true rfl, Nat.le_of_ble_eq_true rfl⟩ rfl (Nat.le_of_ble_eq_true rfl) ⟨by show 0 + _ ≤ _; omega, by show 0 + _ ≤ _; omega⟩ [⟨0, 7, 8, 34⟩] ⟨0, 7, 13, 15⟩ [] rfl (fun z hz => by
    simp only [List.mem_cons, List.not_mem_nil, or_false] at hz
    rcases hz with rfl
    · exact Or.inr ⟨by decide, _, wk_L_34, by decide⟩) (by decide) (by decide) wk_L_15 wp_IllegalArgumentException (fun q n9 g hg => ?_)
  refine ev_astore_n dL_nameOf_13 rfl (Nat.le_of_ble_eq_true rfl) ?_
  refine ev_ldc2 dL_nameOf_14 wq_L_17 ?_
  exact ev_lret dL_nameOf_17 rfl rfl hg (fun _ e => nomatch e) (by omega) (by omega)
set_option maxHeartbeats 1000000 in
theorem w_letter {h : eH} {n b : Nat} {fs : List Value} {P : eH → Prop} {x1 : Int32} {x2 : Int32} {v : Int32} {y : Int64} (hv : v.toInt64 = y) (hb : h b = some (.inr (7, fs))) (hc : kX10_letter [.ref b, .int x1, .int x2] h n (.inl (some (.int v)), P, some n) 0 0) : kL_letter [.ref b, .int x1, .int x2] h n (.inl (some (.long y)), P, some n) 0 0 := by
  refine eM.ofH RL "letter" [(0, .ref b), (1, .int x1), (2, .int x2)] pn_L rfl rfl (Nat.le_of_ble_eq_true rfl) rfl ?_
  refine ev_aload_n dL_letter_0 rfl rfl ?_
  refine ev_iload_n dL_letter_1 rfl rfl ?_
  refine ev_iload_n dL_letter_2 rfl rfl ?_
  refine ev_callVi dL_letter_3 hc rfl lk_L_41 hb ⟨Nat.le_of_ble_eq_true rfl, Nat.le_of_ble_eq_true rfl⟩ rfl (Nat.le_of_ble_eq_true rfl) ⟨by show 0 + _ ≤ _; omega, by show 0 + _ ≤ _; omega⟩ (fun g hg => ?_)
  refine ev_i2l dL_letter_6 hv ?_
  exact ev_lret dL_letter_7 rfl rfl hg (fun _ e => Option.some.inj e) (by omega) (by omega)
set_option maxHeartbeats 1000000 in
theorem w_letter_1 {h : eH} {n b : Nat} {fs : List Value} {P : eH → Prop} {x1 : Int32} {x2 : Int32} (hb : h b = some (.inr (7, fs))) (hc : kX10_letter [.ref b, .int x1, .int x2] h n (.inr "java/lang/IndexOutOfBoundsException", P, none) 1 6) : kL_letter [.ref b, .int x1, .int x2] h n (.inl (some (.long (-9000000000000000001))), P, none) 1 6 := by
  refine eM.ofH RL "letter" [(0, .ref b), (1, .int x1), (2, .int x2)] pn_L rfl rfl (Nat.le_of_ble_eq_true rfl) rfl ?_
  refine ev_aload_n dL_letter_0 rfl rfl ?_
  refine ev_iload_n dL_letter_1 rfl rfl ?_
  refine ev_iload_n dL_letter_2 rfl rfl ?_
  refine ev_callVc dL_letter_3 hc rfl lk_L_41 hb ⟨Nat.le_of_ble_eq_true rfl, Nat.le_of_ble_eq_true rfl⟩ rfl (Nat.le_of_ble_eq_true rfl) ⟨by show 0 + _ ≤ _; omega, by show 0 + _ ≤ _; omega⟩ [] ⟨0, 7, 8, 34⟩ [] rfl (fun z hz => absurd hz List.not_mem_nil) (by decide) (by decide) wk_L_34 wp_IndexOutOfBoundsException (fun q n9 g hg => ?_)
  refine ev_astore_n dL_letter_8 rfl (Nat.le_of_ble_eq_true rfl) ?_
  refine ev_ldc2 dL_letter_9 wq_L_36 ?_
  exact ev_lret dL_letter_12 rfl rfl hg (fun _ e => nomatch e) (by omega) (by omega)
set_option maxHeartbeats 1000000 in
theorem w_roll {h : eH} {n b : Nat} {fs : List Value} {P : eH → Prop} {x1 : Int32} {v : Int32} {y : Int64} (hv : v.toInt64 = y) (hb : h b = some (.inr (7, fs))) (hc : kX10_roll [.ref b, .int x1] h n (.inl (some (.int v)), P, some n) 0 0) : kL_roll [.ref b, .int x1] h n (.inl (some (.long y)), P, some n) 0 0 := by
  refine eM.ofH RL "roll" [(0, .ref b), (1, .int x1)] pn_L rfl rfl (Nat.le_of_ble_eq_true rfl) rfl ?_
  refine ev_aload_n dL_roll_0 rfl rfl ?_
  refine ev_iload_n dL_roll_1 rfl rfl ?_
  refine ev_callVi dL_roll_2 hc rfl lk_L_44 hb ⟨Nat.le_of_ble_eq_true rfl, Nat.le_of_ble_eq_true rfl⟩ rfl (Nat.le_of_ble_eq_true rfl) ⟨by show 0 + _ ≤ _; omega, by show 0 + _ ≤ _; omega⟩ (fun g hg => ?_)
  refine ev_i2l dL_roll_5 hv ?_
  exact ev_lret dL_roll_6 rfl rfl hg (fun _ e => Option.some.inj e) (by omega) (by omega)
set_option maxHeartbeats 1000000 in
theorem w_roll_1 {h : eH} {n b : Nat} {fs : List Value} {P : eH → Prop} {x1 : Int32} (hb : h b = some (.inr (7, fs))) (hc : kX10_roll [.ref b, .int x1] h n (.inr "java/lang/IllegalArgumentException", P, none) 1 6) : kL_roll [.ref b, .int x1] h n (.inl (some (.long (-9000000000000000002))), P, none) 1 6 := by
  refine eM.ofH RL "roll" [(0, .ref b), (1, .int x1)] pn_L rfl rfl (Nat.le_of_ble_eq_true rfl) rfl ?_
  refine ev_aload_n dL_roll_0 rfl rfl ?_
  refine ev_iload_n dL_roll_1 rfl rfl ?_
  refine ev_callVc dL_roll_2 hc rfl lk_L_44 hb ⟨Nat.le_of_ble_eq_true rfl, Nat.le_of_ble_eq_true rfl⟩ rfl (Nat.le_of_ble_eq_true rfl) ⟨by show 0 + _ ≤ _; omega, by show 0 + _ ≤ _; omega⟩ [] ⟨0, 6, 7, 15⟩ [] rfl (fun z hz => absurd hz List.not_mem_nil) (by decide) (by decide) wk_L_15 wp_IllegalArgumentException (fun q n9 g hg => ?_)
  refine ev_astore_n dL_roll_7 rfl (Nat.le_of_ble_eq_true rfl) ?_
  refine ev_ldc2 dL_roll_8 wq_L_17 ?_
  exact ev_lret dL_roll_11 rfl rfl hg (fun _ e => nomatch e) (by omega) (by omega)
set_option maxHeartbeats 1000000 in
theorem w_meant {h : eH} {n b : Nat} {fs : List Value} {P : eH → Prop} {x1 : Int32} {x2 : Int32} {x3 : Int32} {x4 : Int32} {v : Int32} {y : Int64} (hv : v.toInt64 = y) (hb : h b = some (.inr (7, fs))) (hc : kX10_meant [.ref b, .int x1, .int x2, .int x3, .int x4] h n (.inl (some (.int v)), P, some n) 0 0) : kL_meant [.ref b, .int x1, .int x2, .int x3, .int x4] h n (.inl (some (.long y)), P, some n) 0 0 := by
  refine eM.ofH RL "meant" [(0, .ref b), (1, .int x1), (2, .int x2), (3, .int x3), (4, .int x4)] pn_L rfl rfl (Nat.le_of_ble_eq_true rfl) rfl ?_
  refine ev_aload_n dL_meant_0 rfl rfl ?_
  refine ev_iload_n dL_meant_1 rfl rfl ?_
  refine ev_iload_n dL_meant_2 rfl rfl ?_
  refine ev_iload_n dL_meant_3 rfl rfl ?_
  refine ev_iload dL_meant_4 rfl ?_
  refine ev_callVi dL_meant_6 hc rfl lk_L_47 hb ⟨Nat.le_of_ble_eq_true rfl, Nat.le_of_ble_eq_true rfl⟩ rfl (Nat.le_of_ble_eq_true rfl) ⟨by show 0 + _ ≤ _; omega, by show 0 + _ ≤ _; omega⟩ (fun g hg => ?_)
  refine ev_i2l dL_meant_9 hv ?_
  exact ev_lret dL_meant_10 rfl rfl hg (fun _ e => Option.some.inj e) (by omega) (by omega)
set_option maxHeartbeats 1000000 in
theorem w_meant_1 {h : eH} {n b : Nat} {fs : List Value} {P : eH → Prop} {x1 : Int32} {x2 : Int32} {x3 : Int32} {x4 : Int32} (hb : h b = some (.inr (7, fs))) (hc : kX10_meant [.ref b, .int x1, .int x2, .int x3, .int x4] h n (.inr "java/lang/IndexOutOfBoundsException", P, none) 1 6) : kL_meant [.ref b, .int x1, .int x2, .int x3, .int x4] h n (.inl (some (.long (-9000000000000000001))), P, none) 1 6 := by
  refine eM.ofH RL "meant" [(0, .ref b), (1, .int x1), (2, .int x2), (3, .int x3), (4, .int x4)] pn_L rfl rfl (Nat.le_of_ble_eq_true rfl) rfl ?_
  refine ev_aload_n dL_meant_0 rfl rfl ?_
  refine ev_iload_n dL_meant_1 rfl rfl ?_
  refine ev_iload_n dL_meant_2 rfl rfl ?_
  refine ev_iload_n dL_meant_3 rfl rfl ?_
  refine ev_iload dL_meant_4 rfl ?_
  refine ev_callVc dL_meant_6 hc rfl lk_L_47 hb ⟨Nat.le_of_ble_eq_true rfl, Nat.le_of_ble_eq_true rfl⟩ rfl (Nat.le_of_ble_eq_true rfl) ⟨by show 0 + _ ≤ _; omega, by show 0 + _ ≤ _; omega⟩ [] ⟨0, 10, 11, 34⟩ [⟨0, 10, 17, 15⟩] rfl (fun z hz => absurd hz List.not_mem_nil) (by decide) (by decide) wk_L_34 wp_IndexOutOfBoundsException (fun q n9 g hg => ?_)
  refine ev_astore dL_meant_11 (Nat.le_of_ble_eq_true rfl) ?_
  refine ev_ldc2 dL_meant_13 wq_L_36 ?_
  exact ev_lret dL_meant_16 rfl rfl hg (fun _ e => nomatch e) (by omega) (by omega)
set_option maxHeartbeats 1000000 in
theorem w_meant_2 {h : eH} {n b : Nat} {fs : List Value} {P : eH → Prop} {x1 : Int32} {x2 : Int32} {x3 : Int32} {x4 : Int32} (hb : h b = some (.inr (7, fs))) (hc : kX10_meant [.ref b, .int x1, .int x2, .int x3, .int x4] h n (.inr "java/lang/IllegalArgumentException", P, none) 1 6) : kL_meant [.ref b, .int x1, .int x2, .int x3, .int x4] h n (.inl (some (.long (-9000000000000000002))), P, none) 1 6 := by
  refine eM.ofH RL "meant" [(0, .ref b), (1, .int x1), (2, .int x2), (3, .int x3), (4, .int x4)] pn_L rfl rfl (Nat.le_of_ble_eq_true rfl) rfl ?_
  refine ev_aload_n dL_meant_0 rfl rfl ?_
  refine ev_iload_n dL_meant_1 rfl rfl ?_
  refine ev_iload_n dL_meant_2 rfl rfl ?_
  refine ev_iload_n dL_meant_3 rfl rfl ?_
  refine ev_iload dL_meant_4 rfl ?_
  refine ev_callVc dL_meant_6 hc rfl lk_L_47 hb ⟨Nat.le_of_ble_eq_true rfl, Nat.le_of_ble_eq_true rfl⟩ rfl (Nat.le_of_ble_eq_true rfl) ⟨by show 0 + _ ≤ _; omega, by show 0 + _ ≤ _; omega⟩ [⟨0, 10, 11, 34⟩] ⟨0, 10, 17, 15⟩ [] rfl (fun z hz => by
    simp only [List.mem_cons, List.not_mem_nil, or_false] at hz
    rcases hz with rfl
    · exact Or.inr ⟨by decide, _, wk_L_34, by decide⟩) (by decide) (by decide) wk_L_15 wp_IllegalArgumentException (fun q n9 g hg => ?_)
  refine ev_astore dL_meant_17 (Nat.le_of_ble_eq_true rfl) ?_
  refine ev_ldc2 dL_meant_19 wq_L_17 ?_
  exact ev_lret dL_meant_22 rfl rfl hg (fun _ e => nomatch e) (by omega) (by omega)
set_option maxHeartbeats 1000000 in
theorem w_person {h : eH} {n b : Nat} {fs : List Value} {P : eH → Prop} {x1 : Int32} {x2 : Int32} {x3 : Int32} {v : Int32} {y : Int64} (hv : v.toInt64 = y) (hb : h b = some (.inr (7, fs))) (hc : kX10_person [.ref b, .int x1, .int x2, .int x3] h n (.inl (some (.int v)), P, some n) 0 0) : kL_person [.ref b, .int x1, .int x2, .int x3] h n (.inl (some (.long y)), P, some n) 0 0 := by
  refine eM.ofH RL "person" [(0, .ref b), (1, .int x1), (2, .int x2), (3, .int x3)] pn_L rfl rfl (Nat.le_of_ble_eq_true rfl) rfl ?_
  refine ev_aload_n dL_person_0 rfl rfl ?_
  refine ev_iload_n dL_person_1 rfl rfl ?_
  refine ev_iload_n dL_person_2 rfl rfl ?_
  refine ev_iload_n dL_person_3 rfl rfl ?_
  refine ev_callVi dL_person_4 hc rfl lk_L_51 hb ⟨Nat.le_of_ble_eq_true rfl, Nat.le_of_ble_eq_true rfl⟩ rfl (Nat.le_of_ble_eq_true rfl) ⟨by show 0 + _ ≤ _; omega, by show 0 + _ ≤ _; omega⟩ (fun g hg => ?_)
  refine ev_i2l dL_person_7 hv ?_
  exact ev_lret dL_person_8 rfl rfl hg (fun _ e => Option.some.inj e) (by omega) (by omega)
set_option maxHeartbeats 1000000 in
theorem w_person_1 {h : eH} {n b : Nat} {fs : List Value} {P : eH → Prop} {x1 : Int32} {x2 : Int32} {x3 : Int32} (hb : h b = some (.inr (7, fs))) (hc : kX10_person [.ref b, .int x1, .int x2, .int x3] h n (.inr "java/lang/IndexOutOfBoundsException", P, none) 1 6) : kL_person [.ref b, .int x1, .int x2, .int x3] h n (.inl (some (.long (-9000000000000000001))), P, none) 1 6 := by
  refine eM.ofH RL "person" [(0, .ref b), (1, .int x1), (2, .int x2), (3, .int x3)] pn_L rfl rfl (Nat.le_of_ble_eq_true rfl) rfl ?_
  refine ev_aload_n dL_person_0 rfl rfl ?_
  refine ev_iload_n dL_person_1 rfl rfl ?_
  refine ev_iload_n dL_person_2 rfl rfl ?_
  refine ev_iload_n dL_person_3 rfl rfl ?_
  refine ev_callVc dL_person_4 hc rfl lk_L_51 hb ⟨Nat.le_of_ble_eq_true rfl, Nat.le_of_ble_eq_true rfl⟩ rfl (Nat.le_of_ble_eq_true rfl) ⟨by show 0 + _ ≤ _; omega, by show 0 + _ ≤ _; omega⟩ [] ⟨0, 8, 9, 34⟩ [⟨0, 8, 15, 15⟩, ⟨0, 8, 21, 19⟩] rfl (fun z hz => absurd hz List.not_mem_nil) (by decide) (by decide) wk_L_34 wp_IndexOutOfBoundsException (fun q n9 g hg => ?_)
  refine ev_astore dL_person_9 (Nat.le_of_ble_eq_true rfl) ?_
  refine ev_ldc2 dL_person_11 wq_L_36 ?_
  exact ev_lret dL_person_14 rfl rfl hg (fun _ e => nomatch e) (by omega) (by omega)
set_option maxHeartbeats 1000000 in
theorem w_person_2 {h : eH} {n b : Nat} {fs : List Value} {P : eH → Prop} {x1 : Int32} {x2 : Int32} {x3 : Int32} (hb : h b = some (.inr (7, fs))) (hc : kX10_person [.ref b, .int x1, .int x2, .int x3] h n (.inr "java/lang/IllegalArgumentException", P, none) 1 6) : kL_person [.ref b, .int x1, .int x2, .int x3] h n (.inl (some (.long (-9000000000000000002))), P, none) 1 6 := by
  refine eM.ofH RL "person" [(0, .ref b), (1, .int x1), (2, .int x2), (3, .int x3)] pn_L rfl rfl (Nat.le_of_ble_eq_true rfl) rfl ?_
  refine ev_aload_n dL_person_0 rfl rfl ?_
  refine ev_iload_n dL_person_1 rfl rfl ?_
  refine ev_iload_n dL_person_2 rfl rfl ?_
  refine ev_iload_n dL_person_3 rfl rfl ?_
  refine ev_callVc dL_person_4 hc rfl lk_L_51 hb ⟨Nat.le_of_ble_eq_true rfl, Nat.le_of_ble_eq_true rfl⟩ rfl (Nat.le_of_ble_eq_true rfl) ⟨by show 0 + _ ≤ _; omega, by show 0 + _ ≤ _; omega⟩ [⟨0, 8, 9, 34⟩] ⟨0, 8, 15, 15⟩ [⟨0, 8, 21, 19⟩] rfl (fun z hz => by
    simp only [List.mem_cons, List.not_mem_nil, or_false] at hz
    rcases hz with rfl
    · exact Or.inr ⟨by decide, _, wk_L_34, by decide⟩) (by decide) (by decide) wk_L_15 wp_IllegalArgumentException (fun q n9 g hg => ?_)
  refine ev_astore dL_person_15 (Nat.le_of_ble_eq_true rfl) ?_
  refine ev_ldc2 dL_person_17 wq_L_17 ?_
  exact ev_lret dL_person_20 rfl rfl hg (fun _ e => nomatch e) (by omega) (by omega)
set_option maxHeartbeats 1000000 in
theorem w_person_3 {h : eH} {n b : Nat} {fs : List Value} {P : eH → Prop} {x1 : Int32} {x2 : Int32} {x3 : Int32} (hb : h b = some (.inr (7, fs))) (hc : kX10_person [.ref b, .int x1, .int x2, .int x3] h n (.inr "java/lang/IllegalStateException", P, none) 1 6) : kL_person [.ref b, .int x1, .int x2, .int x3] h n (.inl (some (.long (-9000000000000000003))), P, none) 1 6 := by
  refine eM.ofH RL "person" [(0, .ref b), (1, .int x1), (2, .int x2), (3, .int x3)] pn_L rfl rfl (Nat.le_of_ble_eq_true rfl) rfl ?_
  refine ev_aload_n dL_person_0 rfl rfl ?_
  refine ev_iload_n dL_person_1 rfl rfl ?_
  refine ev_iload_n dL_person_2 rfl rfl ?_
  refine ev_iload_n dL_person_3 rfl rfl ?_
  refine ev_callVc dL_person_4 hc rfl lk_L_51 hb ⟨Nat.le_of_ble_eq_true rfl, Nat.le_of_ble_eq_true rfl⟩ rfl (Nat.le_of_ble_eq_true rfl) ⟨by show 0 + _ ≤ _; omega, by show 0 + _ ≤ _; omega⟩ [⟨0, 8, 9, 34⟩, ⟨0, 8, 15, 15⟩] ⟨0, 8, 21, 19⟩ [] rfl (fun z hz => by
    simp only [List.mem_cons, List.not_mem_nil, or_false] at hz
    rcases hz with rfl | rfl
    · exact Or.inr ⟨by decide, _, wk_L_34, by decide⟩
    · exact Or.inr ⟨by decide, _, wk_L_15, by decide⟩) (by decide) (by decide) wk_L_19 wp_IllegalStateException (fun q n9 g hg => ?_)
  refine ev_astore dL_person_21 (Nat.le_of_ble_eq_true rfl) ?_
  refine ev_ldc2 dL_person_23 wq_L_21 ?_
  exact ev_lret dL_person_26 rfl rfl hg (fun _ e => nomatch e) (by omega) (by omega)
set_option maxHeartbeats 1000000 in
theorem w_sit {h : eH} {n b : Nat} {fs : List Value} {P : eH → Prop} {x1 : Int32} {x2 : Int32} {v : Int32} {y : Int64} (hv : v.toInt64 = y) (hb : h b = some (.inr (7, fs))) (hc : kX10_sit [.ref b, .int x1, .int x2] h n (.inl (some (.int v)), P, some n) 0 0) : kL_sit [.ref b, .int x1, .int x2] h n (.inl (some (.long y)), P, some n) 0 0 := by
  refine eM.ofH RL "sit" [(0, .ref b), (1, .int x1), (2, .int x2)] pn_L rfl rfl (Nat.le_of_ble_eq_true rfl) rfl ?_
  refine ev_aload_n dL_sit_0 rfl rfl ?_
  refine ev_iload_n dL_sit_1 rfl rfl ?_
  refine ev_iload_n dL_sit_2 rfl rfl ?_
  refine ev_callVi dL_sit_3 hc rfl lk_L_55 hb ⟨Nat.le_of_ble_eq_true rfl, Nat.le_of_ble_eq_true rfl⟩ rfl (Nat.le_of_ble_eq_true rfl) ⟨by show 0 + _ ≤ _; omega, by show 0 + _ ≤ _; omega⟩ (fun g hg => ?_)
  refine ev_i2l dL_sit_6 hv ?_
  exact ev_lret dL_sit_7 rfl rfl hg (fun _ e => Option.some.inj e) (by omega) (by omega)
set_option maxHeartbeats 1000000 in
theorem w_sit_1 {h : eH} {n b : Nat} {fs : List Value} {P : eH → Prop} {x1 : Int32} {x2 : Int32} (hb : h b = some (.inr (7, fs))) (hc : kX10_sit [.ref b, .int x1, .int x2] h n (.inr "java/lang/IndexOutOfBoundsException", P, none) 1 6) : kL_sit [.ref b, .int x1, .int x2] h n (.inl (some (.long (-9000000000000000001))), P, none) 1 6 := by
  refine eM.ofH RL "sit" [(0, .ref b), (1, .int x1), (2, .int x2)] pn_L rfl rfl (Nat.le_of_ble_eq_true rfl) rfl ?_
  refine ev_aload_n dL_sit_0 rfl rfl ?_
  refine ev_iload_n dL_sit_1 rfl rfl ?_
  refine ev_iload_n dL_sit_2 rfl rfl ?_
  refine ev_callVc dL_sit_3 hc rfl lk_L_55 hb ⟨Nat.le_of_ble_eq_true rfl, Nat.le_of_ble_eq_true rfl⟩ rfl (Nat.le_of_ble_eq_true rfl) ⟨by show 0 + _ ≤ _; omega, by show 0 + _ ≤ _; omega⟩ [] ⟨0, 7, 8, 34⟩ [⟨0, 7, 13, 19⟩] rfl (fun z hz => absurd hz List.not_mem_nil) (by decide) (by decide) wk_L_34 wp_IndexOutOfBoundsException (fun q n9 g hg => ?_)
  refine ev_astore_n dL_sit_8 rfl (Nat.le_of_ble_eq_true rfl) ?_
  refine ev_ldc2 dL_sit_9 wq_L_36 ?_
  exact ev_lret dL_sit_12 rfl rfl hg (fun _ e => nomatch e) (by omega) (by omega)
set_option maxHeartbeats 1000000 in
theorem w_sit_2 {h : eH} {n b : Nat} {fs : List Value} {P : eH → Prop} {x1 : Int32} {x2 : Int32} (hb : h b = some (.inr (7, fs))) (hc : kX10_sit [.ref b, .int x1, .int x2] h n (.inr "java/lang/IllegalStateException", P, none) 1 6) : kL_sit [.ref b, .int x1, .int x2] h n (.inl (some (.long (-9000000000000000003))), P, none) 1 6 := by
  refine eM.ofH RL "sit" [(0, .ref b), (1, .int x1), (2, .int x2)] pn_L rfl rfl (Nat.le_of_ble_eq_true rfl) rfl ?_
  refine ev_aload_n dL_sit_0 rfl rfl ?_
  refine ev_iload_n dL_sit_1 rfl rfl ?_
  refine ev_iload_n dL_sit_2 rfl rfl ?_
  refine ev_callVc dL_sit_3 hc rfl lk_L_55 hb ⟨Nat.le_of_ble_eq_true rfl, Nat.le_of_ble_eq_true rfl⟩ rfl (Nat.le_of_ble_eq_true rfl) ⟨by show 0 + _ ≤ _; omega, by show 0 + _ ≤ _; omega⟩ [⟨0, 7, 8, 34⟩] ⟨0, 7, 13, 19⟩ [] rfl (fun z hz => by
    simp only [List.mem_cons, List.not_mem_nil, or_false] at hz
    rcases hz with rfl
    · exact Or.inr ⟨by decide, _, wk_L_34, by decide⟩) (by decide) (by decide) wk_L_19 wp_IllegalStateException (fun q n9 g hg => ?_)
  refine ev_astore_n dL_sit_13 rfl (Nat.le_of_ble_eq_true rfl) ?_
  refine ev_ldc2 dL_sit_14 wq_L_21 ?_
  exact ev_lret dL_sit_17 rfl rfl hg (fun _ e => nomatch e) (by omega) (by omega)
set_option maxHeartbeats 1000000 in
theorem w_give {h : eH} {n b : Nat} {fs : List Value} {P : eH → Prop} {x1 : Int32} {x2 : Int32} {x3 : Int32} {x4 : Int32} {v : Int32} {y : Int64} (hv : v.toInt64 = y) (hb : h b = some (.inr (7, fs))) (hc : kX10_give [.ref b, .int x1, .int x2, .int x3, .int x4] h n (.inl (some (.int v)), P, some n) 0 0) : kL_give [.ref b, .int x1, .int x2, .int x3, .int x4] h n (.inl (some (.long y)), P, some n) 0 0 := by
  refine eM.ofH RL "give" [(0, .ref b), (1, .int x1), (2, .int x2), (3, .int x3), (4, .int x4)] pn_L rfl rfl (Nat.le_of_ble_eq_true rfl) rfl ?_
  refine ev_aload_n dL_give_0 rfl rfl ?_
  refine ev_iload_n dL_give_1 rfl rfl ?_
  refine ev_iload_n dL_give_2 rfl rfl ?_
  refine ev_iload_n dL_give_3 rfl rfl ?_
  refine ev_iload dL_give_4 rfl ?_
  refine ev_callVi dL_give_6 hc rfl lk_L_58 hb ⟨Nat.le_of_ble_eq_true rfl, Nat.le_of_ble_eq_true rfl⟩ rfl (Nat.le_of_ble_eq_true rfl) ⟨by show 0 + _ ≤ _; omega, by show 0 + _ ≤ _; omega⟩ (fun g hg => ?_)
  refine ev_i2l dL_give_9 hv ?_
  exact ev_lret dL_give_10 rfl rfl hg (fun _ e => Option.some.inj e) (by omega) (by omega)
set_option maxHeartbeats 1000000 in
theorem w_give_1 {h : eH} {n b : Nat} {fs : List Value} {P : eH → Prop} {x1 : Int32} {x2 : Int32} {x3 : Int32} {x4 : Int32} (hb : h b = some (.inr (7, fs))) (hc : kX10_give [.ref b, .int x1, .int x2, .int x3, .int x4] h n (.inr "java/lang/IndexOutOfBoundsException", P, none) 1 6) : kL_give [.ref b, .int x1, .int x2, .int x3, .int x4] h n (.inl (some (.long (-9000000000000000001))), P, none) 1 6 := by
  refine eM.ofH RL "give" [(0, .ref b), (1, .int x1), (2, .int x2), (3, .int x3), (4, .int x4)] pn_L rfl rfl (Nat.le_of_ble_eq_true rfl) rfl ?_
  refine ev_aload_n dL_give_0 rfl rfl ?_
  refine ev_iload_n dL_give_1 rfl rfl ?_
  refine ev_iload_n dL_give_2 rfl rfl ?_
  refine ev_iload_n dL_give_3 rfl rfl ?_
  refine ev_iload dL_give_4 rfl ?_
  refine ev_callVc dL_give_6 hc rfl lk_L_58 hb ⟨Nat.le_of_ble_eq_true rfl, Nat.le_of_ble_eq_true rfl⟩ rfl (Nat.le_of_ble_eq_true rfl) ⟨by show 0 + _ ≤ _; omega, by show 0 + _ ≤ _; omega⟩ [] ⟨0, 10, 11, 34⟩ [⟨0, 10, 17, 15⟩] rfl (fun z hz => absurd hz List.not_mem_nil) (by decide) (by decide) wk_L_34 wp_IndexOutOfBoundsException (fun q n9 g hg => ?_)
  refine ev_astore dL_give_11 (Nat.le_of_ble_eq_true rfl) ?_
  refine ev_ldc2 dL_give_13 wq_L_36 ?_
  exact ev_lret dL_give_16 rfl rfl hg (fun _ e => nomatch e) (by omega) (by omega)
set_option maxHeartbeats 1000000 in
theorem w_give_2 {h : eH} {n b : Nat} {fs : List Value} {P : eH → Prop} {x1 : Int32} {x2 : Int32} {x3 : Int32} {x4 : Int32} (hb : h b = some (.inr (7, fs))) (hc : kX10_give [.ref b, .int x1, .int x2, .int x3, .int x4] h n (.inr "java/lang/IllegalArgumentException", P, none) 1 6) : kL_give [.ref b, .int x1, .int x2, .int x3, .int x4] h n (.inl (some (.long (-9000000000000000002))), P, none) 1 6 := by
  refine eM.ofH RL "give" [(0, .ref b), (1, .int x1), (2, .int x2), (3, .int x3), (4, .int x4)] pn_L rfl rfl (Nat.le_of_ble_eq_true rfl) rfl ?_
  refine ev_aload_n dL_give_0 rfl rfl ?_
  refine ev_iload_n dL_give_1 rfl rfl ?_
  refine ev_iload_n dL_give_2 rfl rfl ?_
  refine ev_iload_n dL_give_3 rfl rfl ?_
  refine ev_iload dL_give_4 rfl ?_
  refine ev_callVc dL_give_6 hc rfl lk_L_58 hb ⟨Nat.le_of_ble_eq_true rfl, Nat.le_of_ble_eq_true rfl⟩ rfl (Nat.le_of_ble_eq_true rfl) ⟨by show 0 + _ ≤ _; omega, by show 0 + _ ≤ _; omega⟩ [⟨0, 10, 11, 34⟩] ⟨0, 10, 17, 15⟩ [] rfl (fun z hz => by
    simp only [List.mem_cons, List.not_mem_nil, or_false] at hz
    rcases hz with rfl
    · exact Or.inr ⟨by decide, _, wk_L_34, by decide⟩) (by decide) (by decide) wk_L_15 wp_IllegalArgumentException (fun q n9 g hg => ?_)
  refine ev_astore dL_give_17 (Nat.le_of_ble_eq_true rfl) ?_
  refine ev_ldc2 dL_give_19 wq_L_17 ?_
  exact ev_lret dL_give_22 rfl rfl hg (fun _ e => nomatch e) (by omega) (by omega)
set_option maxHeartbeats 1000000 in
theorem w_call {h : eH} {n b : Nat} {fs : List Value} {P : eH → Prop} {x1 : Int32} {x2 : Int32} {x3 : Int32} {v : Int32} {y : Int64} (hv : v.toInt64 = y) (hb : h b = some (.inr (7, fs))) (hc : kX10_call [.ref b, .int x1, .int x2, .int x3] h n (.inl (some (.int v)), P, some n) 0 0) : kL_call [.ref b, .int x1, .int x2, .int x3] h n (.inl (some (.long y)), P, some n) 0 0 := by
  refine eM.ofH RL "call" [(0, .ref b), (1, .int x1), (2, .int x2), (3, .int x3)] pn_L rfl rfl (Nat.le_of_ble_eq_true rfl) rfl ?_
  refine ev_aload_n dL_call_0 rfl rfl ?_
  refine ev_iload_n dL_call_1 rfl rfl ?_
  refine ev_iload_n dL_call_2 rfl rfl ?_
  refine ev_iload_n dL_call_3 rfl rfl ?_
  refine ev_callVi dL_call_4 hc rfl lk_L_61 hb ⟨Nat.le_of_ble_eq_true rfl, Nat.le_of_ble_eq_true rfl⟩ rfl (Nat.le_of_ble_eq_true rfl) ⟨by show 0 + _ ≤ _; omega, by show 0 + _ ≤ _; omega⟩ (fun g hg => ?_)
  refine ev_i2l dL_call_7 hv ?_
  exact ev_lret dL_call_8 rfl rfl hg (fun _ e => Option.some.inj e) (by omega) (by omega)
set_option maxHeartbeats 1000000 in
theorem w_call_1 {h : eH} {n b : Nat} {fs : List Value} {P : eH → Prop} {x1 : Int32} {x2 : Int32} {x3 : Int32} (hb : h b = some (.inr (7, fs))) (hc : kX10_call [.ref b, .int x1, .int x2, .int x3] h n (.inr "java/lang/IndexOutOfBoundsException", P, none) 1 6) : kL_call [.ref b, .int x1, .int x2, .int x3] h n (.inl (some (.long (-9000000000000000001))), P, none) 1 6 := by
  refine eM.ofH RL "call" [(0, .ref b), (1, .int x1), (2, .int x2), (3, .int x3)] pn_L rfl rfl (Nat.le_of_ble_eq_true rfl) rfl ?_
  refine ev_aload_n dL_call_0 rfl rfl ?_
  refine ev_iload_n dL_call_1 rfl rfl ?_
  refine ev_iload_n dL_call_2 rfl rfl ?_
  refine ev_iload_n dL_call_3 rfl rfl ?_
  refine ev_callVc dL_call_4 hc rfl lk_L_61 hb ⟨Nat.le_of_ble_eq_true rfl, Nat.le_of_ble_eq_true rfl⟩ rfl (Nat.le_of_ble_eq_true rfl) ⟨by show 0 + _ ≤ _; omega, by show 0 + _ ≤ _; omega⟩ [] ⟨0, 8, 9, 34⟩ [⟨0, 8, 15, 15⟩] rfl (fun z hz => absurd hz List.not_mem_nil) (by decide) (by decide) wk_L_34 wp_IndexOutOfBoundsException (fun q n9 g hg => ?_)
  refine ev_astore dL_call_9 (Nat.le_of_ble_eq_true rfl) ?_
  refine ev_ldc2 dL_call_11 wq_L_36 ?_
  exact ev_lret dL_call_14 rfl rfl hg (fun _ e => nomatch e) (by omega) (by omega)
set_option maxHeartbeats 1000000 in
theorem w_call_2 {h : eH} {n b : Nat} {fs : List Value} {P : eH → Prop} {x1 : Int32} {x2 : Int32} {x3 : Int32} (hb : h b = some (.inr (7, fs))) (hc : kX10_call [.ref b, .int x1, .int x2, .int x3] h n (.inr "java/lang/IllegalArgumentException", P, none) 1 6) : kL_call [.ref b, .int x1, .int x2, .int x3] h n (.inl (some (.long (-9000000000000000002))), P, none) 1 6 := by
  refine eM.ofH RL "call" [(0, .ref b), (1, .int x1), (2, .int x2), (3, .int x3)] pn_L rfl rfl (Nat.le_of_ble_eq_true rfl) rfl ?_
  refine ev_aload_n dL_call_0 rfl rfl ?_
  refine ev_iload_n dL_call_1 rfl rfl ?_
  refine ev_iload_n dL_call_2 rfl rfl ?_
  refine ev_iload_n dL_call_3 rfl rfl ?_
  refine ev_callVc dL_call_4 hc rfl lk_L_61 hb ⟨Nat.le_of_ble_eq_true rfl, Nat.le_of_ble_eq_true rfl⟩ rfl (Nat.le_of_ble_eq_true rfl) ⟨by show 0 + _ ≤ _; omega, by show 0 + _ ≤ _; omega⟩ [⟨0, 8, 9, 34⟩] ⟨0, 8, 15, 15⟩ [] rfl (fun z hz => by
    simp only [List.mem_cons, List.not_mem_nil, or_false] at hz
    rcases hz with rfl
    · exact Or.inr ⟨by decide, _, wk_L_34, by decide⟩) (by decide) (by decide) wk_L_15 wp_IllegalArgumentException (fun q n9 g hg => ?_)
  refine ev_astore dL_call_15 (Nat.le_of_ble_eq_true rfl) ?_
  refine ev_ldc2 dL_call_17 wq_L_17 ?_
  exact ev_lret dL_call_20 rfl rfl hg (fun _ e => nomatch e) (by omega) (by omega)
set_option maxHeartbeats 1000000 in
theorem w_years {h : eH} {n b : Nat} {fs : List Value} {P : eH → Prop} {x1 : Int32} {v : Int32} {y : Int64} (hv : v.toInt64 = y) (hb : h b = some (.inr (7, fs))) (hc : kX10_years [.ref b, .int x1] h n (.inl (some (.int v)), P, some n) 0 0) : kL_years [.ref b, .int x1] h n (.inl (some (.long y)), P, some n) 0 0 := by
  refine eM.ofH RL "years" [(0, .ref b), (1, .int x1)] pn_L rfl rfl (Nat.le_of_ble_eq_true rfl) rfl ?_
  refine ev_aload_n dL_years_0 rfl rfl ?_
  refine ev_iload_n dL_years_1 rfl rfl ?_
  refine ev_callVi dL_years_2 hc rfl lk_L_64 hb ⟨Nat.le_of_ble_eq_true rfl, Nat.le_of_ble_eq_true rfl⟩ rfl (Nat.le_of_ble_eq_true rfl) ⟨by show 0 + _ ≤ _; omega, by show 0 + _ ≤ _; omega⟩ (fun g hg => ?_)
  refine ev_i2l dL_years_5 hv ?_
  exact ev_lret dL_years_6 rfl rfl hg (fun _ e => Option.some.inj e) (by omega) (by omega)
set_option maxHeartbeats 1000000 in
theorem w_years_1 {h : eH} {n b : Nat} {fs : List Value} {P : eH → Prop} {x1 : Int32} (hb : h b = some (.inr (7, fs))) (hc : kX10_years [.ref b, .int x1] h n (.inr "java/lang/IllegalArgumentException", P, none) 1 6) : kL_years [.ref b, .int x1] h n (.inl (some (.long (-9000000000000000002))), P, none) 1 6 := by
  refine eM.ofH RL "years" [(0, .ref b), (1, .int x1)] pn_L rfl rfl (Nat.le_of_ble_eq_true rfl) rfl ?_
  refine ev_aload_n dL_years_0 rfl rfl ?_
  refine ev_iload_n dL_years_1 rfl rfl ?_
  refine ev_callVc dL_years_2 hc rfl lk_L_64 hb ⟨Nat.le_of_ble_eq_true rfl, Nat.le_of_ble_eq_true rfl⟩ rfl (Nat.le_of_ble_eq_true rfl) ⟨by show 0 + _ ≤ _; omega, by show 0 + _ ≤ _; omega⟩ [] ⟨0, 6, 7, 15⟩ [⟨0, 6, 12, 19⟩] rfl (fun z hz => absurd hz List.not_mem_nil) (by decide) (by decide) wk_L_15 wp_IllegalArgumentException (fun q n9 g hg => ?_)
  refine ev_astore_n dL_years_7 rfl (Nat.le_of_ble_eq_true rfl) ?_
  refine ev_ldc2 dL_years_8 wq_L_17 ?_
  exact ev_lret dL_years_11 rfl rfl hg (fun _ e => nomatch e) (by omega) (by omega)
set_option maxHeartbeats 1000000 in
theorem w_years_2 {h : eH} {n b : Nat} {fs : List Value} {P : eH → Prop} {x1 : Int32} (hb : h b = some (.inr (7, fs))) (hc : kX10_years [.ref b, .int x1] h n (.inr "java/lang/IllegalStateException", P, none) 1 6) : kL_years [.ref b, .int x1] h n (.inl (some (.long (-9000000000000000003))), P, none) 1 6 := by
  refine eM.ofH RL "years" [(0, .ref b), (1, .int x1)] pn_L rfl rfl (Nat.le_of_ble_eq_true rfl) rfl ?_
  refine ev_aload_n dL_years_0 rfl rfl ?_
  refine ev_iload_n dL_years_1 rfl rfl ?_
  refine ev_callVc dL_years_2 hc rfl lk_L_64 hb ⟨Nat.le_of_ble_eq_true rfl, Nat.le_of_ble_eq_true rfl⟩ rfl (Nat.le_of_ble_eq_true rfl) ⟨by show 0 + _ ≤ _; omega, by show 0 + _ ≤ _; omega⟩ [⟨0, 6, 7, 15⟩] ⟨0, 6, 12, 19⟩ [] rfl (fun z hz => by
    simp only [List.mem_cons, List.not_mem_nil, or_false] at hz
    rcases hz with rfl
    · exact Or.inr ⟨by decide, _, wk_L_15, by decide⟩) (by decide) (by decide) wk_L_19 wp_IllegalStateException (fun q n9 g hg => ?_)
  refine ev_astore_n dL_years_12 rfl (Nat.le_of_ble_eq_true rfl) ?_
  refine ev_ldc2 dL_years_13 wq_L_21 ?_
  exact ev_lret dL_years_16 rfl rfl hg (fun _ e => nomatch e) (by omega) (by omega)
set_option maxHeartbeats 1000000 in
theorem w_set {h : eH} {n b : Nat} {fs : List Value} {P : eH → Prop} {x1 : Int32} {x2 : Int32} {v : Int32} {y : Int64} (hv : v.toInt64 = y) (hb : h b = some (.inr (7, fs))) (hc : kX10_set [.ref b, .int x1, .int x2] h n (.inl (some (.int v)), P, some n) 0 0) : kL_set [.ref b, .int x1, .int x2] h n (.inl (some (.long y)), P, some n) 0 0 := by
  refine eM.ofH RL "set" [(0, .ref b), (1, .int x1), (2, .int x2)] pn_L rfl rfl (Nat.le_of_ble_eq_true rfl) rfl ?_
  refine ev_aload_n dL_set_0 rfl rfl ?_
  refine ev_iload_n dL_set_1 rfl rfl ?_
  refine ev_iload_n dL_set_2 rfl rfl ?_
  refine ev_callVi dL_set_3 hc rfl lk_L_67 hb ⟨Nat.le_of_ble_eq_true rfl, Nat.le_of_ble_eq_true rfl⟩ rfl (Nat.le_of_ble_eq_true rfl) ⟨by show 0 + _ ≤ _; omega, by show 0 + _ ≤ _; omega⟩ (fun g hg => ?_)
  refine ev_i2l dL_set_6 hv ?_
  exact ev_lret dL_set_7 rfl rfl hg (fun _ e => Option.some.inj e) (by omega) (by omega)
set_option maxHeartbeats 1000000 in
theorem w_set_1 {h : eH} {n b : Nat} {fs : List Value} {P : eH → Prop} {x1 : Int32} {x2 : Int32} (hb : h b = some (.inr (7, fs))) (hc : kX10_set [.ref b, .int x1, .int x2] h n (.inr "java/lang/IllegalArgumentException", P, none) 1 6) : kL_set [.ref b, .int x1, .int x2] h n (.inl (some (.long (-9000000000000000002))), P, none) 1 6 := by
  refine eM.ofH RL "set" [(0, .ref b), (1, .int x1), (2, .int x2)] pn_L rfl rfl (Nat.le_of_ble_eq_true rfl) rfl ?_
  refine ev_aload_n dL_set_0 rfl rfl ?_
  refine ev_iload_n dL_set_1 rfl rfl ?_
  refine ev_iload_n dL_set_2 rfl rfl ?_
  refine ev_callVc dL_set_3 hc rfl lk_L_67 hb ⟨Nat.le_of_ble_eq_true rfl, Nat.le_of_ble_eq_true rfl⟩ rfl (Nat.le_of_ble_eq_true rfl) ⟨by show 0 + _ ≤ _; omega, by show 0 + _ ≤ _; omega⟩ [] ⟨0, 7, 8, 15⟩ [] rfl (fun z hz => absurd hz List.not_mem_nil) (by decide) (by decide) wk_L_15 wp_IllegalArgumentException (fun q n9 g hg => ?_)
  refine ev_astore_n dL_set_8 rfl (Nat.le_of_ble_eq_true rfl) ?_
  refine ev_ldc2 dL_set_9 wq_L_17 ?_
  exact ev_lret dL_set_12 rfl rfl hg (fun _ e => nomatch e) (by omega) (by omega)
set_option maxHeartbeats 1000000 in
theorem w_undo {h : eH} {n b : Nat} {fs : List Value} {P : eH → Prop}  {v : Int32} {y : Int64} (hv : v.toInt64 = y) (hb : h b = some (.inr (7, fs))) (hc : kX10_undo [.ref b] h n (.inl (some (.int v)), P, some n) 0 0) : kL_undo [.ref b] h n (.inl (some (.long y)), P, some n) 0 0 := by
  refine eM.ofH RL "undo" [(0, .ref b)] pn_L rfl rfl (Nat.le_of_ble_eq_true rfl) rfl ?_
  refine ev_aload_n dL_undo_0 rfl rfl ?_
  refine ev_callVi dL_undo_1 hc rfl lk_L_70 hb ⟨Nat.le_of_ble_eq_true rfl, Nat.le_of_ble_eq_true rfl⟩ rfl (Nat.le_of_ble_eq_true rfl) ⟨by show 0 + _ ≤ _; omega, by show 0 + _ ≤ _; omega⟩ (fun g hg => ?_)
  refine ev_i2l dL_undo_4 hv ?_
  exact ev_lret dL_undo_5 rfl rfl hg (fun _ e => Option.some.inj e) (by omega) (by omega)
set_option maxHeartbeats 1000000 in
theorem w_undo_1 {h : eH} {n b : Nat} {fs : List Value} {P : eH → Prop}  (hb : h b = some (.inr (7, fs))) (hc : kX10_undo [.ref b] h n (.inr "java/lang/IllegalStateException", P, none) 1 6) : kL_undo [.ref b] h n (.inl (some (.long (-9000000000000000003))), P, none) 1 6 := by
  refine eM.ofH RL "undo" [(0, .ref b)] pn_L rfl rfl (Nat.le_of_ble_eq_true rfl) rfl ?_
  refine ev_aload_n dL_undo_0 rfl rfl ?_
  refine ev_callVc dL_undo_1 hc rfl lk_L_70 hb ⟨Nat.le_of_ble_eq_true rfl, Nat.le_of_ble_eq_true rfl⟩ rfl (Nat.le_of_ble_eq_true rfl) ⟨by show 0 + _ ≤ _; omega, by show 0 + _ ≤ _; omega⟩ [] ⟨0, 5, 6, 19⟩ [] rfl (fun z hz => absurd hz List.not_mem_nil) (by decide) (by decide) wk_L_19 wp_IllegalStateException (fun q n9 g hg => ?_)
  refine ev_astore_n dL_undo_6 rfl (Nat.le_of_ble_eq_true rfl) ?_
  refine ev_ldc2 dL_undo_7 wq_L_21 ?_
  exact ev_lret dL_undo_10 rfl rfl hg (fun _ e => nomatch e) (by omega) (by omega)
set_option maxHeartbeats 1000000 in
theorem w_why {h : eH} {n b : Nat} {fs : List Value} {P : eH → Prop} {x1 : Int32} {x2 : Int32} {x3 : Int32} {x4 : Int32} {v : Int32} {y : Int64} (hv : v.toInt64 = y) (hb : h b = some (.inr (7, fs))) (hc : kX10_why [.ref b, .int x1, .int x2, .int x3, .int x4] h n (.inl (some (.int v)), P, some n) 0 0) : kL_why [.ref b, .int x1, .int x2, .int x3, .int x4] h n (.inl (some (.long y)), P, some n) 0 0 := by
  refine eM.ofH RL "why" [(0, .ref b), (1, .int x1), (2, .int x2), (3, .int x3), (4, .int x4)] pn_L rfl rfl (Nat.le_of_ble_eq_true rfl) rfl ?_
  refine ev_aload_n dL_why_0 rfl rfl ?_
  refine ev_iload_n dL_why_1 rfl rfl ?_
  refine ev_iload_n dL_why_2 rfl rfl ?_
  refine ev_iload_n dL_why_3 rfl rfl ?_
  refine ev_iload dL_why_4 rfl ?_
  refine ev_callVi dL_why_6 hc rfl lk_L_73 hb ⟨Nat.le_of_ble_eq_true rfl, Nat.le_of_ble_eq_true rfl⟩ rfl (Nat.le_of_ble_eq_true rfl) ⟨by show 0 + _ ≤ _; omega, by show 0 + _ ≤ _; omega⟩ (fun g hg => ?_)
  refine ev_i2l dL_why_9 hv ?_
  exact ev_lret dL_why_10 rfl rfl hg (fun _ e => Option.some.inj e) (by omega) (by omega)
set_option maxHeartbeats 1000000 in
theorem w_why_1 {h : eH} {n b : Nat} {fs : List Value} {P : eH → Prop} {x1 : Int32} {x2 : Int32} {x3 : Int32} {x4 : Int32} (hb : h b = some (.inr (7, fs))) (hc : kX10_why [.ref b, .int x1, .int x2, .int x3, .int x4] h n (.inr "java/lang/IndexOutOfBoundsException", P, none) 1 6) : kL_why [.ref b, .int x1, .int x2, .int x3, .int x4] h n (.inl (some (.long (-9000000000000000001))), P, none) 1 6 := by
  refine eM.ofH RL "why" [(0, .ref b), (1, .int x1), (2, .int x2), (3, .int x3), (4, .int x4)] pn_L rfl rfl (Nat.le_of_ble_eq_true rfl) rfl ?_
  refine ev_aload_n dL_why_0 rfl rfl ?_
  refine ev_iload_n dL_why_1 rfl rfl ?_
  refine ev_iload_n dL_why_2 rfl rfl ?_
  refine ev_iload_n dL_why_3 rfl rfl ?_
  refine ev_iload dL_why_4 rfl ?_
  refine ev_callVc dL_why_6 hc rfl lk_L_73 hb ⟨Nat.le_of_ble_eq_true rfl, Nat.le_of_ble_eq_true rfl⟩ rfl (Nat.le_of_ble_eq_true rfl) ⟨by show 0 + _ ≤ _; omega, by show 0 + _ ≤ _; omega⟩ [] ⟨0, 10, 11, 34⟩ [⟨0, 10, 17, 15⟩] rfl (fun z hz => absurd hz List.not_mem_nil) (by decide) (by decide) wk_L_34 wp_IndexOutOfBoundsException (fun q n9 g hg => ?_)
  refine ev_astore dL_why_11 (Nat.le_of_ble_eq_true rfl) ?_
  refine ev_ldc2 dL_why_13 wq_L_36 ?_
  exact ev_lret dL_why_16 rfl rfl hg (fun _ e => nomatch e) (by omega) (by omega)
set_option maxHeartbeats 1000000 in
theorem w_why_2 {h : eH} {n b : Nat} {fs : List Value} {P : eH → Prop} {x1 : Int32} {x2 : Int32} {x3 : Int32} {x4 : Int32} (hb : h b = some (.inr (7, fs))) (hc : kX10_why [.ref b, .int x1, .int x2, .int x3, .int x4] h n (.inr "java/lang/IllegalArgumentException", P, none) 1 6) : kL_why [.ref b, .int x1, .int x2, .int x3, .int x4] h n (.inl (some (.long (-9000000000000000002))), P, none) 1 6 := by
  refine eM.ofH RL "why" [(0, .ref b), (1, .int x1), (2, .int x2), (3, .int x3), (4, .int x4)] pn_L rfl rfl (Nat.le_of_ble_eq_true rfl) rfl ?_
  refine ev_aload_n dL_why_0 rfl rfl ?_
  refine ev_iload_n dL_why_1 rfl rfl ?_
  refine ev_iload_n dL_why_2 rfl rfl ?_
  refine ev_iload_n dL_why_3 rfl rfl ?_
  refine ev_iload dL_why_4 rfl ?_
  refine ev_callVc dL_why_6 hc rfl lk_L_73 hb ⟨Nat.le_of_ble_eq_true rfl, Nat.le_of_ble_eq_true rfl⟩ rfl (Nat.le_of_ble_eq_true rfl) ⟨by show 0 + _ ≤ _; omega, by show 0 + _ ≤ _; omega⟩ [⟨0, 10, 11, 34⟩] ⟨0, 10, 17, 15⟩ [] rfl (fun z hz => by
    simp only [List.mem_cons, List.not_mem_nil, or_false] at hz
    rcases hz with rfl
    · exact Or.inr ⟨by decide, _, wk_L_34, by decide⟩) (by decide) (by decide) wk_L_15 wp_IllegalArgumentException (fun q n9 g hg => ?_)
  refine ev_astore dL_why_17 (Nat.le_of_ble_eq_true rfl) ?_
  refine ev_ldc2 dL_why_19 wq_L_17 ?_
  exact ev_lret dL_why_22 rfl rfl hg (fun _ e => nomatch e) (by omega) (by omega)
set_option maxHeartbeats 1000000 in
theorem w_endsIn {h : eH} {n b : Nat} {fs : List Value} {P : eH → Prop} {x1 : Int32} {v : Int32} {y : Int64} (hv : v.toInt64 = y) (hb : h b = some (.inr (7, fs))) (hc : kX10_endsIn [.ref b, .int x1] h n (.inl (some (.int v)), P, some n) 0 0) : kL_endsIn [.ref b, .int x1] h n (.inl (some (.long y)), P, some n) 0 0 := by
  refine eM.ofH RL "endsIn" [(0, .ref b), (1, .int x1)] pn_L rfl rfl (Nat.le_of_ble_eq_true rfl) rfl ?_
  refine ev_aload_n dL_endsIn_0 rfl rfl ?_
  refine ev_iload_n dL_endsIn_1 rfl rfl ?_
  refine ev_callVi dL_endsIn_2 hc rfl lk_L_76 hb ⟨Nat.le_of_ble_eq_true rfl, Nat.le_of_ble_eq_true rfl⟩ rfl (Nat.le_of_ble_eq_true rfl) ⟨by show 0 + _ ≤ _; omega, by show 0 + _ ≤ _; omega⟩ (fun g hg => ?_)
  refine ev_i2l dL_endsIn_5 hv ?_
  exact ev_lret dL_endsIn_6 rfl rfl hg (fun _ e => Option.some.inj e) (by omega) (by omega)
set_option maxHeartbeats 1000000 in
theorem w_endsIn_1 {h : eH} {n b : Nat} {fs : List Value} {P : eH → Prop} {x1 : Int32} (hb : h b = some (.inr (7, fs))) (hc : kX10_endsIn [.ref b, .int x1] h n (.inr "java/lang/IndexOutOfBoundsException", P, none) 1 6) : kL_endsIn [.ref b, .int x1] h n (.inl (some (.long (-9000000000000000001))), P, none) 1 6 := by
  refine eM.ofH RL "endsIn" [(0, .ref b), (1, .int x1)] pn_L rfl rfl (Nat.le_of_ble_eq_true rfl) rfl ?_
  refine ev_aload_n dL_endsIn_0 rfl rfl ?_
  refine ev_iload_n dL_endsIn_1 rfl rfl ?_
  refine ev_callVc dL_endsIn_2 hc rfl lk_L_76 hb ⟨Nat.le_of_ble_eq_true rfl, Nat.le_of_ble_eq_true rfl⟩ rfl (Nat.le_of_ble_eq_true rfl) ⟨by show 0 + _ ≤ _; omega, by show 0 + _ ≤ _; omega⟩ [] ⟨0, 6, 7, 34⟩ [] rfl (fun z hz => absurd hz List.not_mem_nil) (by decide) (by decide) wk_L_34 wp_IndexOutOfBoundsException (fun q n9 g hg => ?_)
  refine ev_astore_n dL_endsIn_7 rfl (Nat.le_of_ble_eq_true rfl) ?_
  refine ev_ldc2 dL_endsIn_8 wq_L_36 ?_
  exact ev_lret dL_endsIn_11 rfl rfl hg (fun _ e => nomatch e) (by omega) (by omega)
set_option maxHeartbeats 1000000 in
theorem w_bestName {h : eH} {n b : Nat} {fs : List Value} {P : eH → Prop} {x1 : Int32} {x2 : Int32} {x3 : Int32} {v : Int32} {y : Int64} (hv : v.toInt64 = y) (hb : h b = some (.inr (7, fs))) (hc : kX10_bestName [.ref b, .int x1, .int x2, .int x3] h n (.inl (some (.int v)), P, some n) 0 0) : kL_bestName [.ref b, .int x1, .int x2, .int x3] h n (.inl (some (.long y)), P, some n) 0 0 := by
  refine eM.ofH RL "bestName" [(0, .ref b), (1, .int x1), (2, .int x2), (3, .int x3)] pn_L rfl rfl (Nat.le_of_ble_eq_true rfl) rfl ?_
  refine ev_aload_n dL_bestName_0 rfl rfl ?_
  refine ev_iload_n dL_bestName_1 rfl rfl ?_
  refine ev_iload_n dL_bestName_2 rfl rfl ?_
  refine ev_iload_n dL_bestName_3 rfl rfl ?_
  refine ev_callVi dL_bestName_4 hc rfl lk_L_79 hb ⟨Nat.le_of_ble_eq_true rfl, Nat.le_of_ble_eq_true rfl⟩ rfl (Nat.le_of_ble_eq_true rfl) ⟨by show 0 + _ ≤ _; omega, by show 0 + _ ≤ _; omega⟩ (fun g hg => ?_)
  refine ev_i2l dL_bestName_7 hv ?_
  exact ev_lret dL_bestName_8 rfl rfl hg (fun _ e => Option.some.inj e) (by omega) (by omega)
set_option maxHeartbeats 1000000 in
theorem w_bestName_1 {h : eH} {n b : Nat} {fs : List Value} {P : eH → Prop} {x1 : Int32} {x2 : Int32} {x3 : Int32} (hb : h b = some (.inr (7, fs))) (hc : kX10_bestName [.ref b, .int x1, .int x2, .int x3] h n (.inr "java/lang/IndexOutOfBoundsException", P, none) 1 6) : kL_bestName [.ref b, .int x1, .int x2, .int x3] h n (.inl (some (.long (-9000000000000000001))), P, none) 1 6 := by
  refine eM.ofH RL "bestName" [(0, .ref b), (1, .int x1), (2, .int x2), (3, .int x3)] pn_L rfl rfl (Nat.le_of_ble_eq_true rfl) rfl ?_
  refine ev_aload_n dL_bestName_0 rfl rfl ?_
  refine ev_iload_n dL_bestName_1 rfl rfl ?_
  refine ev_iload_n dL_bestName_2 rfl rfl ?_
  refine ev_iload_n dL_bestName_3 rfl rfl ?_
  refine ev_callVc dL_bestName_4 hc rfl lk_L_79 hb ⟨Nat.le_of_ble_eq_true rfl, Nat.le_of_ble_eq_true rfl⟩ rfl (Nat.le_of_ble_eq_true rfl) ⟨by show 0 + _ ≤ _; omega, by show 0 + _ ≤ _; omega⟩ [] ⟨0, 8, 9, 34⟩ [⟨0, 8, 15, 15⟩] rfl (fun z hz => absurd hz List.not_mem_nil) (by decide) (by decide) wk_L_34 wp_IndexOutOfBoundsException (fun q n9 g hg => ?_)
  refine ev_astore dL_bestName_9 (Nat.le_of_ble_eq_true rfl) ?_
  refine ev_ldc2 dL_bestName_11 wq_L_36 ?_
  exact ev_lret dL_bestName_14 rfl rfl hg (fun _ e => nomatch e) (by omega) (by omega)
set_option maxHeartbeats 1000000 in
theorem w_bestName_2 {h : eH} {n b : Nat} {fs : List Value} {P : eH → Prop} {x1 : Int32} {x2 : Int32} {x3 : Int32} (hb : h b = some (.inr (7, fs))) (hc : kX10_bestName [.ref b, .int x1, .int x2, .int x3] h n (.inr "java/lang/IllegalArgumentException", P, none) 1 6) : kL_bestName [.ref b, .int x1, .int x2, .int x3] h n (.inl (some (.long (-9000000000000000002))), P, none) 1 6 := by
  refine eM.ofH RL "bestName" [(0, .ref b), (1, .int x1), (2, .int x2), (3, .int x3)] pn_L rfl rfl (Nat.le_of_ble_eq_true rfl) rfl ?_
  refine ev_aload_n dL_bestName_0 rfl rfl ?_
  refine ev_iload_n dL_bestName_1 rfl rfl ?_
  refine ev_iload_n dL_bestName_2 rfl rfl ?_
  refine ev_iload_n dL_bestName_3 rfl rfl ?_
  refine ev_callVc dL_bestName_4 hc rfl lk_L_79 hb ⟨Nat.le_of_ble_eq_true rfl, Nat.le_of_ble_eq_true rfl⟩ rfl (Nat.le_of_ble_eq_true rfl) ⟨by show 0 + _ ≤ _; omega, by show 0 + _ ≤ _; omega⟩ [⟨0, 8, 9, 34⟩] ⟨0, 8, 15, 15⟩ [] rfl (fun z hz => by
    simp only [List.mem_cons, List.not_mem_nil, or_false] at hz
    rcases hz with rfl
    · exact Or.inr ⟨by decide, _, wk_L_34, by decide⟩) (by decide) (by decide) wk_L_15 wp_IllegalArgumentException (fun q n9 g hg => ?_)
  refine ev_astore dL_bestName_15 (Nat.le_of_ble_eq_true rfl) ?_
  refine ev_ldc2 dL_bestName_17 wq_L_17 ?_
  exact ev_lret dL_bestName_20 rfl rfl hg (fun _ e => nomatch e) (by omega) (by omega)
set_option maxHeartbeats 1000000 in
theorem w_script {h : eH} {n b : Nat} {fs : List Value} {P : eH → Prop} {x1 : Int32} {y2 : Int64} {v : Int32} {y : Int64} (hv : v.toInt64 = y) (hb : h b = some (.inr (7, fs))) (hc : kX10_runScript [.ref b, .int x1, .long y2] h n (.inl (some (.int v)), P, some n) 0 0) : kL_script [.ref b, .int x1, .long y2] h n (.inl (some (.long y)), P, some n) 0 0 := by
  refine eM.ofH RL "script" [(0, .ref b), (1, .int x1), (2, .long y2)] pn_L rfl rfl (Nat.le_of_ble_eq_true rfl) rfl ?_
  refine ev_aload_n dL_script_0 rfl rfl ?_
  refine ev_iload_n dL_script_1 rfl rfl ?_
  refine ev_lload_n dL_script_2 rfl rfl ?_
  refine ev_callVi dL_script_3 hc rfl lk_L_82 hb ⟨Nat.le_of_ble_eq_true rfl, Nat.le_of_ble_eq_true rfl⟩ rfl (Nat.le_of_ble_eq_true rfl) ⟨by show 0 + _ ≤ _; omega, by show 0 + _ ≤ _; omega⟩ (fun g hg => ?_)
  refine ev_i2l dL_script_6 hv ?_
  exact ev_lret dL_script_7 rfl rfl hg (fun _ e => Option.some.inj e) (by omega) (by omega)
set_option maxHeartbeats 1000000 in
theorem w_script_1 {h : eH} {n b : Nat} {fs : List Value} {P : eH → Prop} {x1 : Int32} {y2 : Int64} (hb : h b = some (.inr (7, fs))) (hc : kX10_runScript [.ref b, .int x1, .long y2] h n (.inr "java/lang/IllegalArgumentException", P, none) 1 6) : kL_script [.ref b, .int x1, .long y2] h n (.inl (some (.long (-9000000000000000002))), P, none) 1 6 := by
  refine eM.ofH RL "script" [(0, .ref b), (1, .int x1), (2, .long y2)] pn_L rfl rfl (Nat.le_of_ble_eq_true rfl) rfl ?_
  refine ev_aload_n dL_script_0 rfl rfl ?_
  refine ev_iload_n dL_script_1 rfl rfl ?_
  refine ev_lload_n dL_script_2 rfl rfl ?_
  refine ev_callVc dL_script_3 hc rfl lk_L_82 hb ⟨Nat.le_of_ble_eq_true rfl, Nat.le_of_ble_eq_true rfl⟩ rfl (Nat.le_of_ble_eq_true rfl) ⟨by show 0 + _ ≤ _; omega, by show 0 + _ ≤ _; omega⟩ [] ⟨0, 7, 8, 15⟩ [] rfl (fun z hz => absurd hz List.not_mem_nil) (by decide) (by decide) wk_L_15 wp_IllegalArgumentException (fun q n9 g hg => ?_)
  refine ev_astore dL_script_8 (Nat.le_of_ble_eq_true rfl) ?_
  refine ev_ldc2 dL_script_10 wq_L_17 ?_
  exact ev_lret dL_script_13 rfl rfl hg (fun _ e => nomatch e) (by omega) (by omega)
set_option maxHeartbeats 1000000 in
theorem w_simulate {h : eH} {n b : Nat} {fs : List Value} {P : eH → Prop} {y1 : Int64} {x2 : Int32} {v : Int32} {y : Int64} (hv : v.toInt64 = y) (hb : h b = some (.inr (7, fs))) (hc : kX10_simulate [.ref b, .long y1, .int x2] h n (.inl (some (.int v)), P, some n) 0 0) : kL_simulate [.ref b, .long y1, .int x2] h n (.inl (some (.long y)), P, some n) 0 0 := by
  refine eM.ofH RL "simulate" [(0, .ref b), (1, .long y1), (3, .int x2)] pn_L rfl rfl (Nat.le_of_ble_eq_true rfl) rfl ?_
  refine ev_aload_n dL_simulate_0 rfl rfl ?_
  refine ev_lload_n dL_simulate_1 rfl rfl ?_
  refine ev_iload_n dL_simulate_2 rfl rfl ?_
  refine ev_callVi dL_simulate_3 hc rfl lk_L_86 hb ⟨Nat.le_of_ble_eq_true rfl, Nat.le_of_ble_eq_true rfl⟩ rfl (Nat.le_of_ble_eq_true rfl) ⟨by show 0 + _ ≤ _; omega, by show 0 + _ ≤ _; omega⟩ (fun g hg => ?_)
  refine ev_i2l dL_simulate_6 hv ?_
  exact ev_lret dL_simulate_7 rfl rfl hg (fun _ e => Option.some.inj e) (by omega) (by omega)
set_option maxHeartbeats 1000000 in
theorem w_simulate_1 {h : eH} {n b : Nat} {fs : List Value} {P : eH → Prop} {y1 : Int64} {x2 : Int32} (hb : h b = some (.inr (7, fs))) (hc : kX10_simulate [.ref b, .long y1, .int x2] h n (.inr "java/lang/IllegalArgumentException", P, none) 1 6) : kL_simulate [.ref b, .long y1, .int x2] h n (.inl (some (.long (-9000000000000000002))), P, none) 1 6 := by
  refine eM.ofH RL "simulate" [(0, .ref b), (1, .long y1), (3, .int x2)] pn_L rfl rfl (Nat.le_of_ble_eq_true rfl) rfl ?_
  refine ev_aload_n dL_simulate_0 rfl rfl ?_
  refine ev_lload_n dL_simulate_1 rfl rfl ?_
  refine ev_iload_n dL_simulate_2 rfl rfl ?_
  refine ev_callVc dL_simulate_3 hc rfl lk_L_86 hb ⟨Nat.le_of_ble_eq_true rfl, Nat.le_of_ble_eq_true rfl⟩ rfl (Nat.le_of_ble_eq_true rfl) ⟨by show 0 + _ ≤ _; omega, by show 0 + _ ≤ _; omega⟩ [] ⟨0, 7, 8, 15⟩ [] rfl (fun z hz => absurd hz List.not_mem_nil) (by decide) (by decide) wk_L_15 wp_IllegalArgumentException (fun q n9 g hg => ?_)
  refine ev_astore dL_simulate_8 (Nat.le_of_ble_eq_true rfl) ?_
  refine ev_ldc2 dL_simulate_10 wq_L_17 ?_
  exact ev_lret dL_simulate_13 rfl rfl hg (fun _ e => nomatch e) (by omega) (by omega)
set_option maxHeartbeats 1000000 in
theorem w_save {h : eH} {n b : Nat} {fs : List Value} {P : eH → Prop} {x1 : Int32} {v : Int32} {y : Int64} (hv : v.toInt64 = y) (hb : h b = some (.inr (7, fs))) (hc : kX10_save [.ref b, .int x1] h n (.inl (some (.int v)), P, some n) 0 0) : kL_save [.ref b, .int x1] h n (.inl (some (.long y)), P, some n) 0 0 := by
  refine eM.ofH RL "save" [(0, .ref b), (1, .int x1)] pn_L rfl rfl (Nat.le_of_ble_eq_true rfl) rfl ?_
  refine ev_aload_n dL_save_0 rfl rfl ?_
  refine ev_iload_n dL_save_1 rfl rfl ?_
  refine ev_callVi dL_save_2 hc rfl lk_L_90 hb ⟨Nat.le_of_ble_eq_true rfl, Nat.le_of_ble_eq_true rfl⟩ rfl (Nat.le_of_ble_eq_true rfl) ⟨by show 0 + _ ≤ _; omega, by show 0 + _ ≤ _; omega⟩ (fun g hg => ?_)
  refine ev_i2l dL_save_5 hv ?_
  exact ev_lret dL_save_6 rfl rfl hg (fun _ e => Option.some.inj e) (by omega) (by omega)
set_option maxHeartbeats 1000000 in
theorem w_save_1 {h : eH} {n b : Nat} {fs : List Value} {P : eH → Prop} {x1 : Int32} (hb : h b = some (.inr (7, fs))) (hc : kX10_save [.ref b, .int x1] h n (.inr "java/lang/IndexOutOfBoundsException", P, none) 1 6) : kL_save [.ref b, .int x1] h n (.inl (some (.long (-9000000000000000001))), P, none) 1 6 := by
  refine eM.ofH RL "save" [(0, .ref b), (1, .int x1)] pn_L rfl rfl (Nat.le_of_ble_eq_true rfl) rfl ?_
  refine ev_aload_n dL_save_0 rfl rfl ?_
  refine ev_iload_n dL_save_1 rfl rfl ?_
  refine ev_callVc dL_save_2 hc rfl lk_L_90 hb ⟨Nat.le_of_ble_eq_true rfl, Nat.le_of_ble_eq_true rfl⟩ rfl (Nat.le_of_ble_eq_true rfl) ⟨by show 0 + _ ≤ _; omega, by show 0 + _ ≤ _; omega⟩ [] ⟨0, 6, 7, 34⟩ [] rfl (fun z hz => absurd hz List.not_mem_nil) (by decide) (by decide) wk_L_34 wp_IndexOutOfBoundsException (fun q n9 g hg => ?_)
  refine ev_astore_n dL_save_7 rfl (Nat.le_of_ble_eq_true rfl) ?_
  refine ev_ldc2 dL_save_8 wq_L_36 ?_
  exact ev_lret dL_save_11 rfl rfl hg (fun _ e => nomatch e) (by omega) (by omega)
set_option maxHeartbeats 1000000 in
theorem w_restore {h : eH} {n b : Nat} {fs : List Value} {P : eH → Prop} {x1 : Int32} {v : Int32} {y : Int64} (hv : v.toInt64 = y) (hb : h b = some (.inr (7, fs))) (hc : kX10_restore [.ref b, .int x1] h n (.inl (some (.int v)), P, some n) 0 0) : kL_restore [.ref b, .int x1] h n (.inl (some (.long y)), P, some n) 0 0 := by
  refine eM.ofH RL "restore" [(0, .ref b), (1, .int x1)] pn_L rfl rfl (Nat.le_of_ble_eq_true rfl) rfl ?_
  refine ev_aload_n dL_restore_0 rfl rfl ?_
  refine ev_iload_n dL_restore_1 rfl rfl ?_
  refine ev_callVi dL_restore_2 hc rfl lk_L_93 hb ⟨Nat.le_of_ble_eq_true rfl, Nat.le_of_ble_eq_true rfl⟩ rfl (Nat.le_of_ble_eq_true rfl) ⟨by show 0 + _ ≤ _; omega, by show 0 + _ ≤ _; omega⟩ (fun g hg => ?_)
  refine ev_i2l dL_restore_5 hv ?_
  exact ev_lret dL_restore_6 rfl rfl hg (fun _ e => Option.some.inj e) (by omega) (by omega)
set_option maxHeartbeats 1000000 in
theorem w_restore_1 {h : eH} {n b : Nat} {fs : List Value} {P : eH → Prop} {x1 : Int32} (hb : h b = some (.inr (7, fs))) (hc : kX10_restore [.ref b, .int x1] h n (.inr "java/lang/IndexOutOfBoundsException", P, none) 1 6) : kL_restore [.ref b, .int x1] h n (.inl (some (.long (-9000000000000000001))), P, none) 1 6 := by
  refine eM.ofH RL "restore" [(0, .ref b), (1, .int x1)] pn_L rfl rfl (Nat.le_of_ble_eq_true rfl) rfl ?_
  refine ev_aload_n dL_restore_0 rfl rfl ?_
  refine ev_iload_n dL_restore_1 rfl rfl ?_
  refine ev_callVc dL_restore_2 hc rfl lk_L_93 hb ⟨Nat.le_of_ble_eq_true rfl, Nat.le_of_ble_eq_true rfl⟩ rfl (Nat.le_of_ble_eq_true rfl) ⟨by show 0 + _ ≤ _; omega, by show 0 + _ ≤ _; omega⟩ [] ⟨0, 6, 7, 34⟩ [⟨0, 6, 12, 19⟩] rfl (fun z hz => absurd hz List.not_mem_nil) (by decide) (by decide) wk_L_34 wp_IndexOutOfBoundsException (fun q n9 g hg => ?_)
  refine ev_astore_n dL_restore_7 rfl (Nat.le_of_ble_eq_true rfl) ?_
  refine ev_ldc2 dL_restore_8 wq_L_36 ?_
  exact ev_lret dL_restore_11 rfl rfl hg (fun _ e => nomatch e) (by omega) (by omega)
set_option maxHeartbeats 1000000 in
theorem w_restore_2 {h : eH} {n b : Nat} {fs : List Value} {P : eH → Prop} {x1 : Int32} (hb : h b = some (.inr (7, fs))) (hc : kX10_restore [.ref b, .int x1] h n (.inr "java/lang/IllegalStateException", P, none) 1 6) : kL_restore [.ref b, .int x1] h n (.inl (some (.long (-9000000000000000003))), P, none) 1 6 := by
  refine eM.ofH RL "restore" [(0, .ref b), (1, .int x1)] pn_L rfl rfl (Nat.le_of_ble_eq_true rfl) rfl ?_
  refine ev_aload_n dL_restore_0 rfl rfl ?_
  refine ev_iload_n dL_restore_1 rfl rfl ?_
  refine ev_callVc dL_restore_2 hc rfl lk_L_93 hb ⟨Nat.le_of_ble_eq_true rfl, Nat.le_of_ble_eq_true rfl⟩ rfl (Nat.le_of_ble_eq_true rfl) ⟨by show 0 + _ ≤ _; omega, by show 0 + _ ≤ _; omega⟩ [⟨0, 6, 7, 34⟩] ⟨0, 6, 12, 19⟩ [] rfl (fun z hz => by
    simp only [List.mem_cons, List.not_mem_nil, or_false] at hz
    rcases hz with rfl
    · exact Or.inr ⟨by decide, _, wk_L_34, by decide⟩) (by decide) (by decide) wk_L_19 wp_IllegalStateException (fun q n9 g hg => ?_)
  refine ev_astore_n dL_restore_12 rfl (Nat.le_of_ble_eq_true rfl) ?_
  refine ev_ldc2 dL_restore_13 wq_L_21 ?_
  exact ev_lret dL_restore_16 rfl rfl hg (fun _ e => nomatch e) (by omega) (by omega)
