/-! the same wrappers, their budget and their world loosened: thrown or not, an answer and a world -/
set_option maxHeartbeats 1000000 in
theorem v_person {h : eH} {n b : Nat} {fs : List Value} {P P' : eH → Prop} {x1 : Int32} {x2 : Int32} {x3 : Int32} {v : Int32} {y : Int64} (hv : v.toInt64 = y) (hb : h b = some (.inr (7, fs))) (hP : ∀ g, P g → P' g) (hc : kX10_person [.ref b, .int x1, .int x2, .int x3] h n (.inl (some (.int v)), P, some n) 0 0) : kL_person [.ref b, .int x1, .int x2, .int x3] h n (.inl (some (.long y)), P', none) 1 6 := by
  refine eM.ofH RL "person" [(0, .ref b), (1, .int x1), (2, .int x2), (3, .int x3)] pn_L rfl rfl (Nat.le_of_ble_eq_true rfl) rfl ?_
  refine ev_aload_n dL_person_0 rfl rfl ?_
  refine ev_iload_n dL_person_1 rfl rfl ?_
  refine ev_iload_n dL_person_2 rfl rfl ?_
  refine ev_iload_n dL_person_3 rfl rfl ?_
  refine ev_callVi dL_person_4 hc rfl lk_L_51 hb ⟨Nat.le_of_ble_eq_true rfl, Nat.le_of_ble_eq_true rfl⟩ rfl (Nat.le_of_ble_eq_true rfl) ⟨by show 0 + _ ≤ _; omega, by show 0 + _ ≤ _; omega⟩ (fun g hg => ?_)
  refine ev_i2l dL_person_7 hv ?_
  exact ev_lret dL_person_8 rfl rfl (hP g hg) (fun _ e => nomatch e) (by omega) (by omega)
set_option maxHeartbeats 1000000 in
theorem v_person_1 {h : eH} {n b : Nat} {fs : List Value} {P P' : eH → Prop} {x1 : Int32} {x2 : Int32} {x3 : Int32} (hb : h b = some (.inr (7, fs))) (hP : ∀ g, P g → P' g) (hc : kX10_person [.ref b, .int x1, .int x2, .int x3] h n (.inr "java/lang/IndexOutOfBoundsException", P, none) 1 6) : kL_person [.ref b, .int x1, .int x2, .int x3] h n (.inl (some (.long (-9000000000000000001))), P', none) 1 6 := by
  refine eM.ofH RL "person" [(0, .ref b), (1, .int x1), (2, .int x2), (3, .int x3)] pn_L rfl rfl (Nat.le_of_ble_eq_true rfl) rfl ?_
  refine ev_aload_n dL_person_0 rfl rfl ?_
  refine ev_iload_n dL_person_1 rfl rfl ?_
  refine ev_iload_n dL_person_2 rfl rfl ?_
  refine ev_iload_n dL_person_3 rfl rfl ?_
  refine ev_callVc dL_person_4 hc rfl lk_L_51 hb ⟨Nat.le_of_ble_eq_true rfl, Nat.le_of_ble_eq_true rfl⟩ rfl (Nat.le_of_ble_eq_true rfl) ⟨by show 0 + _ ≤ _; omega, by show 0 + _ ≤ _; omega⟩ [] ⟨0, 8, 9, 34⟩ [⟨0, 8, 15, 15⟩, ⟨0, 8, 21, 19⟩] rfl (fun z hz => absurd hz List.not_mem_nil) (by decide) (by decide) wk_L_34 wp_IndexOutOfBoundsException (fun q n9 g hg => ?_)
  refine ev_astore dL_person_9 (Nat.le_of_ble_eq_true rfl) ?_
  refine ev_ldc2 dL_person_11 wq_L_36 ?_
  exact ev_lret dL_person_14 rfl rfl (hP g hg) (fun _ e => nomatch e) (by omega) (by omega)
set_option maxHeartbeats 1000000 in
theorem v_person_2 {h : eH} {n b : Nat} {fs : List Value} {P P' : eH → Prop} {x1 : Int32} {x2 : Int32} {x3 : Int32} (hb : h b = some (.inr (7, fs))) (hP : ∀ g, P g → P' g) (hc : kX10_person [.ref b, .int x1, .int x2, .int x3] h n (.inr "java/lang/IllegalArgumentException", P, none) 1 6) : kL_person [.ref b, .int x1, .int x2, .int x3] h n (.inl (some (.long (-9000000000000000002))), P', none) 1 6 := by
  refine eM.ofH RL "person" [(0, .ref b), (1, .int x1), (2, .int x2), (3, .int x3)] pn_L rfl rfl (Nat.le_of_ble_eq_true rfl) rfl ?_
  refine ev_aload_n dL_person_0 rfl rfl ?_
  refine ev_iload_n dL_person_1 rfl rfl ?_
  refine ev_iload_n dL_person_2 rfl rfl ?_
  refine ev_iload_n dL_person_3 rfl rfl ?_
  refine ev_callVc dL_person_4 hc rfl lk_L_51 hb ⟨Nat.le_of_ble_eq_true rfl, Nat.le_of_ble_eq_true rfl⟩ rfl (Nat.le_of_ble_eq_true rfl) ⟨by show 0 + _ ≤ _; omega, by show 0 + _ ≤ _; omega⟩ [⟨0, 8, 9, 34⟩] ⟨0, 8, 15, 15⟩ [⟨0, 8, 21, 19⟩] rfl (fun z hz => by
    simp only [List.mem_cons, List.not_mem_nil, or_false] at hz
    rcases hz with rfl
    · exact Or.inr ⟨by decide, _, wk_L_34, by decide⟩) (by decide) (by decide) wk_L_15 wp_IllegalArgumentException (fun q n9 g hg => ?_)
  refine ev_astore dL_person_15 (Nat.le_of_ble_eq_true rfl) ?_
  refine ev_ldc2 dL_person_17 wq_L_17 ?_
  exact ev_lret dL_person_20 rfl rfl (hP g hg) (fun _ e => nomatch e) (by omega) (by omega)
set_option maxHeartbeats 1000000 in
theorem v_person_3 {h : eH} {n b : Nat} {fs : List Value} {P P' : eH → Prop} {x1 : Int32} {x2 : Int32} {x3 : Int32} (hb : h b = some (.inr (7, fs))) (hP : ∀ g, P g → P' g) (hc : kX10_person [.ref b, .int x1, .int x2, .int x3] h n (.inr "java/lang/IllegalStateException", P, none) 1 6) : kL_person [.ref b, .int x1, .int x2, .int x3] h n (.inl (some (.long (-9000000000000000003))), P', none) 1 6 := by
  refine eM.ofH RL "person" [(0, .ref b), (1, .int x1), (2, .int x2), (3, .int x3)] pn_L rfl rfl (Nat.le_of_ble_eq_true rfl) rfl ?_
  refine ev_aload_n dL_person_0 rfl rfl ?_
  refine ev_iload_n dL_person_1 rfl rfl ?_
  refine ev_iload_n dL_person_2 rfl rfl ?_
  refine ev_iload_n dL_person_3 rfl rfl ?_
  refine ev_callVc dL_person_4 hc rfl lk_L_51 hb ⟨Nat.le_of_ble_eq_true rfl, Nat.le_of_ble_eq_true rfl⟩ rfl (Nat.le_of_ble_eq_true rfl) ⟨by show 0 + _ ≤ _; omega, by show 0 + _ ≤ _; omega⟩ [⟨0, 8, 9, 34⟩, ⟨0, 8, 15, 15⟩] ⟨0, 8, 21, 19⟩ [] rfl (fun z hz => by
    simp only [List.mem_cons, List.not_mem_nil, or_false] at hz
    rcases hz with rfl | rfl
    · exact Or.inr ⟨by decide, _, wk_L_34, by decide⟩
    · exact Or.inr ⟨by decide, _, wk_L_15, by decide⟩) (by decide) (by decide) wk_L_19 wp_IllegalStateException (fun q n9 g hg => ?_)
  refine ev_astore dL_person_21 (Nat.le_of_ble_eq_true rfl) ?_
  refine ev_ldc2 dL_person_23 wq_L_21 ?_
  exact ev_lret dL_person_26 rfl rfl (hP g hg) (fun _ e => nomatch e) (by omega) (by omega)
set_option maxHeartbeats 1000000 in
theorem v_sit {h : eH} {n b : Nat} {fs : List Value} {P P' : eH → Prop} {x1 : Int32} {x2 : Int32} {v : Int32} {y : Int64} (hv : v.toInt64 = y) (hb : h b = some (.inr (7, fs))) (hP : ∀ g, P g → P' g) (hc : kX10_sit [.ref b, .int x1, .int x2] h n (.inl (some (.int v)), P, some n) 0 0) : kL_sit [.ref b, .int x1, .int x2] h n (.inl (some (.long y)), P', none) 1 6 := by
  refine eM.ofH RL "sit" [(0, .ref b), (1, .int x1), (2, .int x2)] pn_L rfl rfl (Nat.le_of_ble_eq_true rfl) rfl ?_
  refine ev_aload_n dL_sit_0 rfl rfl ?_
  refine ev_iload_n dL_sit_1 rfl rfl ?_
  refine ev_iload_n dL_sit_2 rfl rfl ?_
  refine ev_callVi dL_sit_3 hc rfl lk_L_55 hb ⟨Nat.le_of_ble_eq_true rfl, Nat.le_of_ble_eq_true rfl⟩ rfl (Nat.le_of_ble_eq_true rfl) ⟨by show 0 + _ ≤ _; omega, by show 0 + _ ≤ _; omega⟩ (fun g hg => ?_)
  refine ev_i2l dL_sit_6 hv ?_
  exact ev_lret dL_sit_7 rfl rfl (hP g hg) (fun _ e => nomatch e) (by omega) (by omega)
set_option maxHeartbeats 1000000 in
theorem v_sit_1 {h : eH} {n b : Nat} {fs : List Value} {P P' : eH → Prop} {x1 : Int32} {x2 : Int32} (hb : h b = some (.inr (7, fs))) (hP : ∀ g, P g → P' g) (hc : kX10_sit [.ref b, .int x1, .int x2] h n (.inr "java/lang/IndexOutOfBoundsException", P, none) 1 6) : kL_sit [.ref b, .int x1, .int x2] h n (.inl (some (.long (-9000000000000000001))), P', none) 1 6 := by
  refine eM.ofH RL "sit" [(0, .ref b), (1, .int x1), (2, .int x2)] pn_L rfl rfl (Nat.le_of_ble_eq_true rfl) rfl ?_
  refine ev_aload_n dL_sit_0 rfl rfl ?_
  refine ev_iload_n dL_sit_1 rfl rfl ?_
  refine ev_iload_n dL_sit_2 rfl rfl ?_
  refine ev_callVc dL_sit_3 hc rfl lk_L_55 hb ⟨Nat.le_of_ble_eq_true rfl, Nat.le_of_ble_eq_true rfl⟩ rfl (Nat.le_of_ble_eq_true rfl) ⟨by show 0 + _ ≤ _; omega, by show 0 + _ ≤ _; omega⟩ [] ⟨0, 7, 8, 34⟩ [⟨0, 7, 13, 19⟩] rfl (fun z hz => absurd hz List.not_mem_nil) (by decide) (by decide) wk_L_34 wp_IndexOutOfBoundsException (fun q n9 g hg => ?_)
  refine ev_astore_n dL_sit_8 rfl (Nat.le_of_ble_eq_true rfl) ?_
  refine ev_ldc2 dL_sit_9 wq_L_36 ?_
  exact ev_lret dL_sit_12 rfl rfl (hP g hg) (fun _ e => nomatch e) (by omega) (by omega)
set_option maxHeartbeats 1000000 in
theorem v_sit_2 {h : eH} {n b : Nat} {fs : List Value} {P P' : eH → Prop} {x1 : Int32} {x2 : Int32} (hb : h b = some (.inr (7, fs))) (hP : ∀ g, P g → P' g) (hc : kX10_sit [.ref b, .int x1, .int x2] h n (.inr "java/lang/IllegalStateException", P, none) 1 6) : kL_sit [.ref b, .int x1, .int x2] h n (.inl (some (.long (-9000000000000000003))), P', none) 1 6 := by
  refine eM.ofH RL "sit" [(0, .ref b), (1, .int x1), (2, .int x2)] pn_L rfl rfl (Nat.le_of_ble_eq_true rfl) rfl ?_
  refine ev_aload_n dL_sit_0 rfl rfl ?_
  refine ev_iload_n dL_sit_1 rfl rfl ?_
  refine ev_iload_n dL_sit_2 rfl rfl ?_
  refine ev_callVc dL_sit_3 hc rfl lk_L_55 hb ⟨Nat.le_of_ble_eq_true rfl, Nat.le_of_ble_eq_true rfl⟩ rfl (Nat.le_of_ble_eq_true rfl) ⟨by show 0 + _ ≤ _; omega, by show 0 + _ ≤ _; omega⟩ [⟨0, 7, 8, 34⟩] ⟨0, 7, 13, 19⟩ [] rfl (fun z hz => by
    simp only [List.mem_cons, List.not_mem_nil, or_false] at hz
    rcases hz with rfl
    · exact Or.inr ⟨by decide, _, wk_L_34, by decide⟩) (by decide) (by decide) wk_L_19 wp_IllegalStateException (fun q n9 g hg => ?_)
  refine ev_astore_n dL_sit_13 rfl (Nat.le_of_ble_eq_true rfl) ?_
  refine ev_ldc2 dL_sit_14 wq_L_21 ?_
  exact ev_lret dL_sit_17 rfl rfl (hP g hg) (fun _ e => nomatch e) (by omega) (by omega)
set_option maxHeartbeats 1000000 in
theorem v_give {h : eH} {n b : Nat} {fs : List Value} {P P' : eH → Prop} {x1 : Int32} {x2 : Int32} {x3 : Int32} {x4 : Int32} {v : Int32} {y : Int64} (hv : v.toInt64 = y) (hb : h b = some (.inr (7, fs))) (hP : ∀ g, P g → P' g) (hc : kX10_give [.ref b, .int x1, .int x2, .int x3, .int x4] h n (.inl (some (.int v)), P, some n) 0 0) : kL_give [.ref b, .int x1, .int x2, .int x3, .int x4] h n (.inl (some (.long y)), P', none) 1 6 := by
  refine eM.ofH RL "give" [(0, .ref b), (1, .int x1), (2, .int x2), (3, .int x3), (4, .int x4)] pn_L rfl rfl (Nat.le_of_ble_eq_true rfl) rfl ?_
  refine ev_aload_n dL_give_0 rfl rfl ?_
  refine ev_iload_n dL_give_1 rfl rfl ?_
  refine ev_iload_n dL_give_2 rfl rfl ?_
  refine ev_iload_n dL_give_3 rfl rfl ?_
  refine ev_iload dL_give_4 rfl ?_
  refine ev_callVi dL_give_6 hc rfl lk_L_58 hb ⟨Nat.le_of_ble_eq_true rfl, Nat.le_of_ble_eq_true rfl⟩ rfl (Nat.le_of_ble_eq_true rfl) ⟨by show 0 + _ ≤ _; omega, by show 0 + _ ≤ _; omega⟩ (fun g hg => ?_)
  refine ev_i2l dL_give_9 hv ?_
  exact ev_lret dL_give_10 rfl rfl (hP g hg) (fun _ e => nomatch e) (by omega) (by omega)
set_option maxHeartbeats 1000000 in
theorem v_give_1 {h : eH} {n b : Nat} {fs : List Value} {P P' : eH → Prop} {x1 : Int32} {x2 : Int32} {x3 : Int32} {x4 : Int32} (hb : h b = some (.inr (7, fs))) (hP : ∀ g, P g → P' g) (hc : kX10_give [.ref b, .int x1, .int x2, .int x3, .int x4] h n (.inr "java/lang/IndexOutOfBoundsException", P, none) 1 6) : kL_give [.ref b, .int x1, .int x2, .int x3, .int x4] h n (.inl (some (.long (-9000000000000000001))), P', none) 1 6 := by
  refine eM.ofH RL "give" [(0, .ref b), (1, .int x1), (2, .int x2), (3, .int x3), (4, .int x4)] pn_L rfl rfl (Nat.le_of_ble_eq_true rfl) rfl ?_
  refine ev_aload_n dL_give_0 rfl rfl ?_
  refine ev_iload_n dL_give_1 rfl rfl ?_
  refine ev_iload_n dL_give_2 rfl rfl ?_
  refine ev_iload_n dL_give_3 rfl rfl ?_
  refine ev_iload dL_give_4 rfl ?_
  refine ev_callVc dL_give_6 hc rfl lk_L_58 hb ⟨Nat.le_of_ble_eq_true rfl, Nat.le_of_ble_eq_true rfl⟩ rfl (Nat.le_of_ble_eq_true rfl) ⟨by show 0 + _ ≤ _; omega, by show 0 + _ ≤ _; omega⟩ [] ⟨0, 10, 11, 34⟩ [⟨0, 10, 17, 15⟩] rfl (fun z hz => absurd hz List.not_mem_nil) (by decide) (by decide) wk_L_34 wp_IndexOutOfBoundsException (fun q n9 g hg => ?_)
  refine ev_astore dL_give_11 (Nat.le_of_ble_eq_true rfl) ?_
  refine ev_ldc2 dL_give_13 wq_L_36 ?_
  exact ev_lret dL_give_16 rfl rfl (hP g hg) (fun _ e => nomatch e) (by omega) (by omega)
set_option maxHeartbeats 1000000 in
theorem v_give_2 {h : eH} {n b : Nat} {fs : List Value} {P P' : eH → Prop} {x1 : Int32} {x2 : Int32} {x3 : Int32} {x4 : Int32} (hb : h b = some (.inr (7, fs))) (hP : ∀ g, P g → P' g) (hc : kX10_give [.ref b, .int x1, .int x2, .int x3, .int x4] h n (.inr "java/lang/IllegalArgumentException", P, none) 1 6) : kL_give [.ref b, .int x1, .int x2, .int x3, .int x4] h n (.inl (some (.long (-9000000000000000002))), P', none) 1 6 := by
  refine eM.ofH RL "give" [(0, .ref b), (1, .int x1), (2, .int x2), (3, .int x3), (4, .int x4)] pn_L rfl rfl (Nat.le_of_ble_eq_true rfl) rfl ?_
  refine ev_aload_n dL_give_0 rfl rfl ?_
  refine ev_iload_n dL_give_1 rfl rfl ?_
  refine ev_iload_n dL_give_2 rfl rfl ?_
  refine ev_iload_n dL_give_3 rfl rfl ?_
  refine ev_iload dL_give_4 rfl ?_
  refine ev_callVc dL_give_6 hc rfl lk_L_58 hb ⟨Nat.le_of_ble_eq_true rfl, Nat.le_of_ble_eq_true rfl⟩ rfl (Nat.le_of_ble_eq_true rfl) ⟨by show 0 + _ ≤ _; omega, by show 0 + _ ≤ _; omega⟩ [⟨0, 10, 11, 34⟩] ⟨0, 10, 17, 15⟩ [] rfl (fun z hz => by
    simp only [List.mem_cons, List.not_mem_nil, or_false] at hz
    rcases hz with rfl
    · exact Or.inr ⟨by decide, _, wk_L_34, by decide⟩) (by decide) (by decide) wk_L_15 wp_IllegalArgumentException (fun q n9 g hg => ?_)
  refine ev_astore dL_give_17 (Nat.le_of_ble_eq_true rfl) ?_
  refine ev_ldc2 dL_give_19 wq_L_17 ?_
  exact ev_lret dL_give_22 rfl rfl (hP g hg) (fun _ e => nomatch e) (by omega) (by omega)
set_option maxHeartbeats 1000000 in
theorem v_call {h : eH} {n b : Nat} {fs : List Value} {P P' : eH → Prop} {x1 : Int32} {x2 : Int32} {x3 : Int32} {v : Int32} {y : Int64} (hv : v.toInt64 = y) (hb : h b = some (.inr (7, fs))) (hP : ∀ g, P g → P' g) (hc : kX10_call [.ref b, .int x1, .int x2, .int x3] h n (.inl (some (.int v)), P, some n) 0 0) : kL_call [.ref b, .int x1, .int x2, .int x3] h n (.inl (some (.long y)), P', none) 1 6 := by
  refine eM.ofH RL "call" [(0, .ref b), (1, .int x1), (2, .int x2), (3, .int x3)] pn_L rfl rfl (Nat.le_of_ble_eq_true rfl) rfl ?_
  refine ev_aload_n dL_call_0 rfl rfl ?_
  refine ev_iload_n dL_call_1 rfl rfl ?_
  refine ev_iload_n dL_call_2 rfl rfl ?_
  refine ev_iload_n dL_call_3 rfl rfl ?_
  refine ev_callVi dL_call_4 hc rfl lk_L_61 hb ⟨Nat.le_of_ble_eq_true rfl, Nat.le_of_ble_eq_true rfl⟩ rfl (Nat.le_of_ble_eq_true rfl) ⟨by show 0 + _ ≤ _; omega, by show 0 + _ ≤ _; omega⟩ (fun g hg => ?_)
  refine ev_i2l dL_call_7 hv ?_
  exact ev_lret dL_call_8 rfl rfl (hP g hg) (fun _ e => nomatch e) (by omega) (by omega)
set_option maxHeartbeats 1000000 in
theorem v_call_1 {h : eH} {n b : Nat} {fs : List Value} {P P' : eH → Prop} {x1 : Int32} {x2 : Int32} {x3 : Int32} (hb : h b = some (.inr (7, fs))) (hP : ∀ g, P g → P' g) (hc : kX10_call [.ref b, .int x1, .int x2, .int x3] h n (.inr "java/lang/IndexOutOfBoundsException", P, none) 1 6) : kL_call [.ref b, .int x1, .int x2, .int x3] h n (.inl (some (.long (-9000000000000000001))), P', none) 1 6 := by
  refine eM.ofH RL "call" [(0, .ref b), (1, .int x1), (2, .int x2), (3, .int x3)] pn_L rfl rfl (Nat.le_of_ble_eq_true rfl) rfl ?_
  refine ev_aload_n dL_call_0 rfl rfl ?_
  refine ev_iload_n dL_call_1 rfl rfl ?_
  refine ev_iload_n dL_call_2 rfl rfl ?_
  refine ev_iload_n dL_call_3 rfl rfl ?_
  refine ev_callVc dL_call_4 hc rfl lk_L_61 hb ⟨Nat.le_of_ble_eq_true rfl, Nat.le_of_ble_eq_true rfl⟩ rfl (Nat.le_of_ble_eq_true rfl) ⟨by show 0 + _ ≤ _; omega, by show 0 + _ ≤ _; omega⟩ [] ⟨0, 8, 9, 34⟩ [⟨0, 8, 15, 15⟩] rfl (fun z hz => absurd hz List.not_mem_nil) (by decide) (by decide) wk_L_34 wp_IndexOutOfBoundsException (fun q n9 g hg => ?_)
  refine ev_astore dL_call_9 (Nat.le_of_ble_eq_true rfl) ?_
  refine ev_ldc2 dL_call_11 wq_L_36 ?_
  exact ev_lret dL_call_14 rfl rfl (hP g hg) (fun _ e => nomatch e) (by omega) (by omega)
set_option maxHeartbeats 1000000 in
theorem v_call_2 {h : eH} {n b : Nat} {fs : List Value} {P P' : eH → Prop} {x1 : Int32} {x2 : Int32} {x3 : Int32} (hb : h b = some (.inr (7, fs))) (hP : ∀ g, P g → P' g) (hc : kX10_call [.ref b, .int x1, .int x2, .int x3] h n (.inr "java/lang/IllegalArgumentException", P, none) 1 6) : kL_call [.ref b, .int x1, .int x2, .int x3] h n (.inl (some (.long (-9000000000000000002))), P', none) 1 6 := by
  refine eM.ofH RL "call" [(0, .ref b), (1, .int x1), (2, .int x2), (3, .int x3)] pn_L rfl rfl (Nat.le_of_ble_eq_true rfl) rfl ?_
  refine ev_aload_n dL_call_0 rfl rfl ?_
  refine ev_iload_n dL_call_1 rfl rfl ?_
  refine ev_iload_n dL_call_2 rfl rfl ?_
  refine ev_iload_n dL_call_3 rfl rfl ?_
  refine ev_callVc dL_call_4 hc rfl lk_L_61 hb ⟨Nat.le_of_ble_eq_true rfl, Nat.le_of_ble_eq_true rfl⟩ rfl (Nat.le_of_ble_eq_true rfl) ⟨by show 0 + _ ≤ _; omega, by show 0 + _ ≤ _; omega⟩ [⟨0, 8, 9, 34⟩] ⟨0, 8, 15, 15⟩ [] rfl (fun z hz => by
    simp only [List.mem_cons, List.not_mem_nil, or_false] at hz
    rcases hz with rfl
    · exact Or.inr ⟨by decide, _, wk_L_34, by decide⟩) (by decide) (by decide) wk_L_15 wp_IllegalArgumentException (fun q n9 g hg => ?_)
  refine ev_astore dL_call_15 (Nat.le_of_ble_eq_true rfl) ?_
  refine ev_ldc2 dL_call_17 wq_L_17 ?_
  exact ev_lret dL_call_20 rfl rfl (hP g hg) (fun _ e => nomatch e) (by omega) (by omega)
set_option maxHeartbeats 1000000 in
theorem v_years {h : eH} {n b : Nat} {fs : List Value} {P P' : eH → Prop} {x1 : Int32} {v : Int32} {y : Int64} (hv : v.toInt64 = y) (hb : h b = some (.inr (7, fs))) (hP : ∀ g, P g → P' g) (hc : kX10_years [.ref b, .int x1] h n (.inl (some (.int v)), P, some n) 0 0) : kL_years [.ref b, .int x1] h n (.inl (some (.long y)), P', none) 1 6 := by
  refine eM.ofH RL "years" [(0, .ref b), (1, .int x1)] pn_L rfl rfl (Nat.le_of_ble_eq_true rfl) rfl ?_
  refine ev_aload_n dL_years_0 rfl rfl ?_
  refine ev_iload_n dL_years_1 rfl rfl ?_
  refine ev_callVi dL_years_2 hc rfl lk_L_64 hb ⟨Nat.le_of_ble_eq_true rfl, Nat.le_of_ble_eq_true rfl⟩ rfl (Nat.le_of_ble_eq_true rfl) ⟨by show 0 + _ ≤ _; omega, by show 0 + _ ≤ _; omega⟩ (fun g hg => ?_)
  refine ev_i2l dL_years_5 hv ?_
  exact ev_lret dL_years_6 rfl rfl (hP g hg) (fun _ e => nomatch e) (by omega) (by omega)
set_option maxHeartbeats 1000000 in
theorem v_years_1 {h : eH} {n b : Nat} {fs : List Value} {P P' : eH → Prop} {x1 : Int32} (hb : h b = some (.inr (7, fs))) (hP : ∀ g, P g → P' g) (hc : kX10_years [.ref b, .int x1] h n (.inr "java/lang/IllegalArgumentException", P, none) 1 6) : kL_years [.ref b, .int x1] h n (.inl (some (.long (-9000000000000000002))), P', none) 1 6 := by
  refine eM.ofH RL "years" [(0, .ref b), (1, .int x1)] pn_L rfl rfl (Nat.le_of_ble_eq_true rfl) rfl ?_
  refine ev_aload_n dL_years_0 rfl rfl ?_
  refine ev_iload_n dL_years_1 rfl rfl ?_
  refine ev_callVc dL_years_2 hc rfl lk_L_64 hb ⟨Nat.le_of_ble_eq_true rfl, Nat.le_of_ble_eq_true rfl⟩ rfl (Nat.le_of_ble_eq_true rfl) ⟨by show 0 + _ ≤ _; omega, by show 0 + _ ≤ _; omega⟩ [] ⟨0, 6, 7, 15⟩ [⟨0, 6, 12, 19⟩] rfl (fun z hz => absurd hz List.not_mem_nil) (by decide) (by decide) wk_L_15 wp_IllegalArgumentException (fun q n9 g hg => ?_)
  refine ev_astore_n dL_years_7 rfl (Nat.le_of_ble_eq_true rfl) ?_
  refine ev_ldc2 dL_years_8 wq_L_17 ?_
  exact ev_lret dL_years_11 rfl rfl (hP g hg) (fun _ e => nomatch e) (by omega) (by omega)
set_option maxHeartbeats 1000000 in
theorem v_years_2 {h : eH} {n b : Nat} {fs : List Value} {P P' : eH → Prop} {x1 : Int32} (hb : h b = some (.inr (7, fs))) (hP : ∀ g, P g → P' g) (hc : kX10_years [.ref b, .int x1] h n (.inr "java/lang/IllegalStateException", P, none) 1 6) : kL_years [.ref b, .int x1] h n (.inl (some (.long (-9000000000000000003))), P', none) 1 6 := by
  refine eM.ofH RL "years" [(0, .ref b), (1, .int x1)] pn_L rfl rfl (Nat.le_of_ble_eq_true rfl) rfl ?_
  refine ev_aload_n dL_years_0 rfl rfl ?_
  refine ev_iload_n dL_years_1 rfl rfl ?_
  refine ev_callVc dL_years_2 hc rfl lk_L_64 hb ⟨Nat.le_of_ble_eq_true rfl, Nat.le_of_ble_eq_true rfl⟩ rfl (Nat.le_of_ble_eq_true rfl) ⟨by show 0 + _ ≤ _; omega, by show 0 + _ ≤ _; omega⟩ [⟨0, 6, 7, 15⟩] ⟨0, 6, 12, 19⟩ [] rfl (fun z hz => by
    simp only [List.mem_cons, List.not_mem_nil, or_false] at hz
    rcases hz with rfl
    · exact Or.inr ⟨by decide, _, wk_L_15, by decide⟩) (by decide) (by decide) wk_L_19 wp_IllegalStateException (fun q n9 g hg => ?_)
  refine ev_astore_n dL_years_12 rfl (Nat.le_of_ble_eq_true rfl) ?_
  refine ev_ldc2 dL_years_13 wq_L_21 ?_
  exact ev_lret dL_years_16 rfl rfl (hP g hg) (fun _ e => nomatch e) (by omega) (by omega)
set_option maxHeartbeats 1000000 in
theorem v_set {h : eH} {n b : Nat} {fs : List Value} {P P' : eH → Prop} {x1 : Int32} {x2 : Int32} {v : Int32} {y : Int64} (hv : v.toInt64 = y) (hb : h b = some (.inr (7, fs))) (hP : ∀ g, P g → P' g) (hc : kX10_set [.ref b, .int x1, .int x2] h n (.inl (some (.int v)), P, some n) 0 0) : kL_set [.ref b, .int x1, .int x2] h n (.inl (some (.long y)), P', none) 1 6 := by
  refine eM.ofH RL "set" [(0, .ref b), (1, .int x1), (2, .int x2)] pn_L rfl rfl (Nat.le_of_ble_eq_true rfl) rfl ?_
  refine ev_aload_n dL_set_0 rfl rfl ?_
  refine ev_iload_n dL_set_1 rfl rfl ?_
  refine ev_iload_n dL_set_2 rfl rfl ?_
  refine ev_callVi dL_set_3 hc rfl lk_L_67 hb ⟨Nat.le_of_ble_eq_true rfl, Nat.le_of_ble_eq_true rfl⟩ rfl (Nat.le_of_ble_eq_true rfl) ⟨by show 0 + _ ≤ _; omega, by show 0 + _ ≤ _; omega⟩ (fun g hg => ?_)
  refine ev_i2l dL_set_6 hv ?_
  exact ev_lret dL_set_7 rfl rfl (hP g hg) (fun _ e => nomatch e) (by omega) (by omega)
set_option maxHeartbeats 1000000 in
theorem v_set_1 {h : eH} {n b : Nat} {fs : List Value} {P P' : eH → Prop} {x1 : Int32} {x2 : Int32} (hb : h b = some (.inr (7, fs))) (hP : ∀ g, P g → P' g) (hc : kX10_set [.ref b, .int x1, .int x2] h n (.inr "java/lang/IllegalArgumentException", P, none) 1 6) : kL_set [.ref b, .int x1, .int x2] h n (.inl (some (.long (-9000000000000000002))), P', none) 1 6 := by
  refine eM.ofH RL "set" [(0, .ref b), (1, .int x1), (2, .int x2)] pn_L rfl rfl (Nat.le_of_ble_eq_true rfl) rfl ?_
  refine ev_aload_n dL_set_0 rfl rfl ?_
  refine ev_iload_n dL_set_1 rfl rfl ?_
  refine ev_iload_n dL_set_2 rfl rfl ?_
  refine ev_callVc dL_set_3 hc rfl lk_L_67 hb ⟨Nat.le_of_ble_eq_true rfl, Nat.le_of_ble_eq_true rfl⟩ rfl (Nat.le_of_ble_eq_true rfl) ⟨by show 0 + _ ≤ _; omega, by show 0 + _ ≤ _; omega⟩ [] ⟨0, 7, 8, 15⟩ [] rfl (fun z hz => absurd hz List.not_mem_nil) (by decide) (by decide) wk_L_15 wp_IllegalArgumentException (fun q n9 g hg => ?_)
  refine ev_astore_n dL_set_8 rfl (Nat.le_of_ble_eq_true rfl) ?_
  refine ev_ldc2 dL_set_9 wq_L_17 ?_
  exact ev_lret dL_set_12 rfl rfl (hP g hg) (fun _ e => nomatch e) (by omega) (by omega)
set_option maxHeartbeats 1000000 in
theorem v_undo {h : eH} {n b : Nat} {fs : List Value} {P P' : eH → Prop}  {v : Int32} {y : Int64} (hv : v.toInt64 = y) (hb : h b = some (.inr (7, fs))) (hP : ∀ g, P g → P' g) (hc : kX10_undo [.ref b] h n (.inl (some (.int v)), P, some n) 0 0) : kL_undo [.ref b] h n (.inl (some (.long y)), P', none) 1 6 := by
  refine eM.ofH RL "undo" [(0, .ref b)] pn_L rfl rfl (Nat.le_of_ble_eq_true rfl) rfl ?_
  refine ev_aload_n dL_undo_0 rfl rfl ?_
  refine ev_callVi dL_undo_1 hc rfl lk_L_70 hb ⟨Nat.le_of_ble_eq_true rfl, Nat.le_of_ble_eq_true rfl⟩ rfl (Nat.le_of_ble_eq_true rfl) ⟨by show 0 + _ ≤ _; omega, by show 0 + _ ≤ _; omega⟩ (fun g hg => ?_)
  refine ev_i2l dL_undo_4 hv ?_
  exact ev_lret dL_undo_5 rfl rfl (hP g hg) (fun _ e => nomatch e) (by omega) (by omega)
set_option maxHeartbeats 1000000 in
theorem v_undo_1 {h : eH} {n b : Nat} {fs : List Value} {P P' : eH → Prop}  (hb : h b = some (.inr (7, fs))) (hP : ∀ g, P g → P' g) (hc : kX10_undo [.ref b] h n (.inr "java/lang/IllegalStateException", P, none) 1 6) : kL_undo [.ref b] h n (.inl (some (.long (-9000000000000000003))), P', none) 1 6 := by
  refine eM.ofH RL "undo" [(0, .ref b)] pn_L rfl rfl (Nat.le_of_ble_eq_true rfl) rfl ?_
  refine ev_aload_n dL_undo_0 rfl rfl ?_
  refine ev_callVc dL_undo_1 hc rfl lk_L_70 hb ⟨Nat.le_of_ble_eq_true rfl, Nat.le_of_ble_eq_true rfl⟩ rfl (Nat.le_of_ble_eq_true rfl) ⟨by show 0 + _ ≤ _; omega, by show 0 + _ ≤ _; omega⟩ [] ⟨0, 5, 6, 19⟩ [] rfl (fun z hz => absurd hz List.not_mem_nil) (by decide) (by decide) wk_L_19 wp_IllegalStateException (fun q n9 g hg => ?_)
  refine ev_astore_n dL_undo_6 rfl (Nat.le_of_ble_eq_true rfl) ?_
  refine ev_ldc2 dL_undo_7 wq_L_21 ?_
  exact ev_lret dL_undo_10 rfl rfl (hP g hg) (fun _ e => nomatch e) (by omega) (by omega)
set_option maxHeartbeats 1000000 in
theorem v_bestName {h : eH} {n b : Nat} {fs : List Value} {P P' : eH → Prop} {x1 : Int32} {x2 : Int32} {x3 : Int32} {v : Int32} {y : Int64} (hv : v.toInt64 = y) (hb : h b = some (.inr (7, fs))) (hP : ∀ g, P g → P' g) (hc : kX10_bestName [.ref b, .int x1, .int x2, .int x3] h n (.inl (some (.int v)), P, some n) 0 0) : kL_bestName [.ref b, .int x1, .int x2, .int x3] h n (.inl (some (.long y)), P', none) 1 6 := by
  refine eM.ofH RL "bestName" [(0, .ref b), (1, .int x1), (2, .int x2), (3, .int x3)] pn_L rfl rfl (Nat.le_of_ble_eq_true rfl) rfl ?_
  refine ev_aload_n dL_bestName_0 rfl rfl ?_
  refine ev_iload_n dL_bestName_1 rfl rfl ?_
  refine ev_iload_n dL_bestName_2 rfl rfl ?_
  refine ev_iload_n dL_bestName_3 rfl rfl ?_
  refine ev_callVi dL_bestName_4 hc rfl lk_L_79 hb ⟨Nat.le_of_ble_eq_true rfl, Nat.le_of_ble_eq_true rfl⟩ rfl (Nat.le_of_ble_eq_true rfl) ⟨by show 0 + _ ≤ _; omega, by show 0 + _ ≤ _; omega⟩ (fun g hg => ?_)
  refine ev_i2l dL_bestName_7 hv ?_
  exact ev_lret dL_bestName_8 rfl rfl (hP g hg) (fun _ e => nomatch e) (by omega) (by omega)
set_option maxHeartbeats 1000000 in
theorem v_bestName_1 {h : eH} {n b : Nat} {fs : List Value} {P P' : eH → Prop} {x1 : Int32} {x2 : Int32} {x3 : Int32} (hb : h b = some (.inr (7, fs))) (hP : ∀ g, P g → P' g) (hc : kX10_bestName [.ref b, .int x1, .int x2, .int x3] h n (.inr "java/lang/IndexOutOfBoundsException", P, none) 1 6) : kL_bestName [.ref b, .int x1, .int x2, .int x3] h n (.inl (some (.long (-9000000000000000001))), P', none) 1 6 := by
  refine eM.ofH RL "bestName" [(0, .ref b), (1, .int x1), (2, .int x2), (3, .int x3)] pn_L rfl rfl (Nat.le_of_ble_eq_true rfl) rfl ?_
  refine ev_aload_n dL_bestName_0 rfl rfl ?_
  refine ev_iload_n dL_bestName_1 rfl rfl ?_
  refine ev_iload_n dL_bestName_2 rfl rfl ?_
  refine ev_iload_n dL_bestName_3 rfl rfl ?_
  refine ev_callVc dL_bestName_4 hc rfl lk_L_79 hb ⟨Nat.le_of_ble_eq_true rfl, Nat.le_of_ble_eq_true rfl⟩ rfl (Nat.le_of_ble_eq_true rfl) ⟨by show 0 + _ ≤ _; omega, by show 0 + _ ≤ _; omega⟩ [] ⟨0, 8, 9, 34⟩ [⟨0, 8, 15, 15⟩] rfl (fun z hz => absurd hz List.not_mem_nil) (by decide) (by decide) wk_L_34 wp_IndexOutOfBoundsException (fun q n9 g hg => ?_)
  refine ev_astore dL_bestName_9 (Nat.le_of_ble_eq_true rfl) ?_
  refine ev_ldc2 dL_bestName_11 wq_L_36 ?_
  exact ev_lret dL_bestName_14 rfl rfl (hP g hg) (fun _ e => nomatch e) (by omega) (by omega)
set_option maxHeartbeats 1000000 in
theorem v_bestName_2 {h : eH} {n b : Nat} {fs : List Value} {P P' : eH → Prop} {x1 : Int32} {x2 : Int32} {x3 : Int32} (hb : h b = some (.inr (7, fs))) (hP : ∀ g, P g → P' g) (hc : kX10_bestName [.ref b, .int x1, .int x2, .int x3] h n (.inr "java/lang/IllegalArgumentException", P, none) 1 6) : kL_bestName [.ref b, .int x1, .int x2, .int x3] h n (.inl (some (.long (-9000000000000000002))), P', none) 1 6 := by
  refine eM.ofH RL "bestName" [(0, .ref b), (1, .int x1), (2, .int x2), (3, .int x3)] pn_L rfl rfl (Nat.le_of_ble_eq_true rfl) rfl ?_
  refine ev_aload_n dL_bestName_0 rfl rfl ?_
  refine ev_iload_n dL_bestName_1 rfl rfl ?_
  refine ev_iload_n dL_bestName_2 rfl rfl ?_
  refine ev_iload_n dL_bestName_3 rfl rfl ?_
  refine ev_callVc dL_bestName_4 hc rfl lk_L_79 hb ⟨Nat.le_of_ble_eq_true rfl, Nat.le_of_ble_eq_true rfl⟩ rfl (Nat.le_of_ble_eq_true rfl) ⟨by show 0 + _ ≤ _; omega, by show 0 + _ ≤ _; omega⟩ [⟨0, 8, 9, 34⟩] ⟨0, 8, 15, 15⟩ [] rfl (fun z hz => by
    simp only [List.mem_cons, List.not_mem_nil, or_false] at hz
    rcases hz with rfl
    · exact Or.inr ⟨by decide, _, wk_L_34, by decide⟩) (by decide) (by decide) wk_L_15 wp_IllegalArgumentException (fun q n9 g hg => ?_)
  refine ev_astore dL_bestName_15 (Nat.le_of_ble_eq_true rfl) ?_
  refine ev_ldc2 dL_bestName_17 wq_L_17 ?_
  exact ev_lret dL_bestName_20 rfl rfl (hP g hg) (fun _ e => nomatch e) (by omega) (by omega)
set_option maxHeartbeats 1000000 in
theorem v_save {h : eH} {n b : Nat} {fs : List Value} {P P' : eH → Prop} {x1 : Int32} {v : Int32} {y : Int64} (hv : v.toInt64 = y) (hb : h b = some (.inr (7, fs))) (hP : ∀ g, P g → P' g) (hc : kX10_save [.ref b, .int x1] h n (.inl (some (.int v)), P, some n) 0 0) : kL_save [.ref b, .int x1] h n (.inl (some (.long y)), P', none) 1 6 := by
  refine eM.ofH RL "save" [(0, .ref b), (1, .int x1)] pn_L rfl rfl (Nat.le_of_ble_eq_true rfl) rfl ?_
  refine ev_aload_n dL_save_0 rfl rfl ?_
  refine ev_iload_n dL_save_1 rfl rfl ?_
  refine ev_callVi dL_save_2 hc rfl lk_L_90 hb ⟨Nat.le_of_ble_eq_true rfl, Nat.le_of_ble_eq_true rfl⟩ rfl (Nat.le_of_ble_eq_true rfl) ⟨by show 0 + _ ≤ _; omega, by show 0 + _ ≤ _; omega⟩ (fun g hg => ?_)
  refine ev_i2l dL_save_5 hv ?_
  exact ev_lret dL_save_6 rfl rfl (hP g hg) (fun _ e => nomatch e) (by omega) (by omega)
set_option maxHeartbeats 1000000 in
theorem v_save_1 {h : eH} {n b : Nat} {fs : List Value} {P P' : eH → Prop} {x1 : Int32} (hb : h b = some (.inr (7, fs))) (hP : ∀ g, P g → P' g) (hc : kX10_save [.ref b, .int x1] h n (.inr "java/lang/IndexOutOfBoundsException", P, none) 1 6) : kL_save [.ref b, .int x1] h n (.inl (some (.long (-9000000000000000001))), P', none) 1 6 := by
  refine eM.ofH RL "save" [(0, .ref b), (1, .int x1)] pn_L rfl rfl (Nat.le_of_ble_eq_true rfl) rfl ?_
  refine ev_aload_n dL_save_0 rfl rfl ?_
  refine ev_iload_n dL_save_1 rfl rfl ?_
  refine ev_callVc dL_save_2 hc rfl lk_L_90 hb ⟨Nat.le_of_ble_eq_true rfl, Nat.le_of_ble_eq_true rfl⟩ rfl (Nat.le_of_ble_eq_true rfl) ⟨by show 0 + _ ≤ _; omega, by show 0 + _ ≤ _; omega⟩ [] ⟨0, 6, 7, 34⟩ [] rfl (fun z hz => absurd hz List.not_mem_nil) (by decide) (by decide) wk_L_34 wp_IndexOutOfBoundsException (fun q n9 g hg => ?_)
  refine ev_astore_n dL_save_7 rfl (Nat.le_of_ble_eq_true rfl) ?_
  refine ev_ldc2 dL_save_8 wq_L_36 ?_
  exact ev_lret dL_save_11 rfl rfl (hP g hg) (fun _ e => nomatch e) (by omega) (by omega)
set_option maxHeartbeats 1000000 in
theorem v_restore {h : eH} {n b : Nat} {fs : List Value} {P P' : eH → Prop} {x1 : Int32} {v : Int32} {y : Int64} (hv : v.toInt64 = y) (hb : h b = some (.inr (7, fs))) (hP : ∀ g, P g → P' g) (hc : kX10_restore [.ref b, .int x1] h n (.inl (some (.int v)), P, some n) 0 0) : kL_restore [.ref b, .int x1] h n (.inl (some (.long y)), P', none) 1 6 := by
  refine eM.ofH RL "restore" [(0, .ref b), (1, .int x1)] pn_L rfl rfl (Nat.le_of_ble_eq_true rfl) rfl ?_
  refine ev_aload_n dL_restore_0 rfl rfl ?_
  refine ev_iload_n dL_restore_1 rfl rfl ?_
  refine ev_callVi dL_restore_2 hc rfl lk_L_93 hb ⟨Nat.le_of_ble_eq_true rfl, Nat.le_of_ble_eq_true rfl⟩ rfl (Nat.le_of_ble_eq_true rfl) ⟨by show 0 + _ ≤ _; omega, by show 0 + _ ≤ _; omega⟩ (fun g hg => ?_)
  refine ev_i2l dL_restore_5 hv ?_
  exact ev_lret dL_restore_6 rfl rfl (hP g hg) (fun _ e => nomatch e) (by omega) (by omega)
set_option maxHeartbeats 1000000 in
theorem v_restore_1 {h : eH} {n b : Nat} {fs : List Value} {P P' : eH → Prop} {x1 : Int32} (hb : h b = some (.inr (7, fs))) (hP : ∀ g, P g → P' g) (hc : kX10_restore [.ref b, .int x1] h n (.inr "java/lang/IndexOutOfBoundsException", P, none) 1 6) : kL_restore [.ref b, .int x1] h n (.inl (some (.long (-9000000000000000001))), P', none) 1 6 := by
  refine eM.ofH RL "restore" [(0, .ref b), (1, .int x1)] pn_L rfl rfl (Nat.le_of_ble_eq_true rfl) rfl ?_
  refine ev_aload_n dL_restore_0 rfl rfl ?_
  refine ev_iload_n dL_restore_1 rfl rfl ?_
  refine ev_callVc dL_restore_2 hc rfl lk_L_93 hb ⟨Nat.le_of_ble_eq_true rfl, Nat.le_of_ble_eq_true rfl⟩ rfl (Nat.le_of_ble_eq_true rfl) ⟨by show 0 + _ ≤ _; omega, by show 0 + _ ≤ _; omega⟩ [] ⟨0, 6, 7, 34⟩ [⟨0, 6, 12, 19⟩] rfl (fun z hz => absurd hz List.not_mem_nil) (by decide) (by decide) wk_L_34 wp_IndexOutOfBoundsException (fun q n9 g hg => ?_)
  refine ev_astore_n dL_restore_7 rfl (Nat.le_of_ble_eq_true rfl) ?_
  refine ev_ldc2 dL_restore_8 wq_L_36 ?_
  exact ev_lret dL_restore_11 rfl rfl (hP g hg) (fun _ e => nomatch e) (by omega) (by omega)
set_option maxHeartbeats 1000000 in
theorem v_restore_2 {h : eH} {n b : Nat} {fs : List Value} {P P' : eH → Prop} {x1 : Int32} (hb : h b = some (.inr (7, fs))) (hP : ∀ g, P g → P' g) (hc : kX10_restore [.ref b, .int x1] h n (.inr "java/lang/IllegalStateException", P, none) 1 6) : kL_restore [.ref b, .int x1] h n (.inl (some (.long (-9000000000000000003))), P', none) 1 6 := by
  refine eM.ofH RL "restore" [(0, .ref b), (1, .int x1)] pn_L rfl rfl (Nat.le_of_ble_eq_true rfl) rfl ?_
  refine ev_aload_n dL_restore_0 rfl rfl ?_
  refine ev_iload_n dL_restore_1 rfl rfl ?_
  refine ev_callVc dL_restore_2 hc rfl lk_L_93 hb ⟨Nat.le_of_ble_eq_true rfl, Nat.le_of_ble_eq_true rfl⟩ rfl (Nat.le_of_ble_eq_true rfl) ⟨by show 0 + _ ≤ _; omega, by show 0 + _ ≤ _; omega⟩ [⟨0, 6, 7, 34⟩] ⟨0, 6, 12, 19⟩ [] rfl (fun z hz => by
    simp only [List.mem_cons, List.not_mem_nil, or_false] at hz
    rcases hz with rfl
    · exact Or.inr ⟨by decide, _, wk_L_34, by decide⟩) (by decide) (by decide) wk_L_19 wp_IllegalStateException (fun q n9 g hg => ?_)
  refine ev_astore_n dL_restore_12 rfl (Nat.le_of_ble_eq_true rfl) ?_
  refine ev_ldc2 dL_restore_13 wq_L_21 ?_
  exact ev_lret dL_restore_16 rfl rfl (hP g hg) (fun _ e => nomatch e) (by omega) (by omega)
def gU (σ : St) (c : Nat) (τ : Nat → St) (us : Nat → Nat) (τs : Nat → St) (T : Nat) : Prop := gI σ T ∧ (∀ j, j < c → gI (τ j) T) ∧ ∀ i, i < 2 → us i ≠ 0 → gI (τs i) T
theorem gU.mono {σ : St} {c T U : Nat} {τ τs : Nat → St} {us : Nat → Nat} (h : gU σ c τ us τs T) (hT : T ≤ U) : gU σ c τ us τs U := ⟨h.1.mono hT, fun j hj => (h.2.1 j hj).mono hT, fun i hi hu => (h.2.2 i hi hu).mono hT⟩
theorem gU.put {σ σ' : St} {c T U : Nat} {τ τs : Nat → St} {us : Nat → Nat} (h : gU σ c τ us τs T) (hc : c ≤ 14) (hn : gI σ' U) (hT : T ≤ U) : gU σ' (sRemC c) (sRem c τ σ) us τs U := by
  refine ⟨hn, fun j hj => ?_, (h.mono hT).2.2⟩
  unfold sRemC at hj
  unfold sRem
  by_cases h14 : c < 14
  · rw [if_pos h14] at hj ⊢
    by_cases e : j = c
    · simp only [e, if_true]
      exact h.1.mono hT
    · simp only [if_neg e]
      exact (h.2.1 j (by omega)).mono hT
  · rw [if_neg h14] at hj ⊢
    by_cases e : j = 13
    · simp only [e, if_true]
      exact h.1.mono hT
    · simp only [if_neg e]
      exact (h.2.1 (j + 1) (by omega)).mono hT
theorem gU.undo {σ : St} {c T : Nat} {τ τs : Nat → St} {us : Nat → Nat} (h : gU σ (c + 1) τ us τs T) : gU (τ c) c τ us τs T := ⟨h.2.1 c (by omega), fun j hj => h.2.1 j (by omega), h.2.2⟩
theorem gU.load {σ σ' : St} {c T U : Nat} {τ τs : Nat → St} {us : Nat → Nat} (_ : gU σ c τ us τs T) (hn : gI σ' U) : gU σ' 0 τ (fun _ => 0) τs U := ⟨hn, fun j hj => absurd hj (Nat.not_lt_zero j), fun i _ hu => absurd rfl hu⟩
theorem gU.save {σ : St} {c s T : Nat} {τ τs : Nat → St} {us : Nat → Nat} (h : gU σ c τ us τs T) : gU σ c τ (fun i => if i = s then 1 else us i) (fun i => if i = s then σ else τs i) T := by
  refine ⟨h.1, h.2.1, fun i hi hu => ?_⟩
  by_cases e : i = s
  · simp only [e, if_true]
    exact h.1
  · simp only [if_neg e] at hu ⊢
    exact h.2.2 i hi hu
theorem gU.restore {σ : St} {c s T : Nat} {τ τs : Nat → St} {us : Nat → Nat} (h : gU σ c τ us τs T) (hs : s < 2) (hu : us s ≠ 0) : gU (τs s) 0 τ us τs T := ⟨h.2.2 s hs hu, fun j hj => absurd hj (Nat.not_lt_zero j), h.2.2⟩
/-- a call that is answered alike by every object in this state, and leaves each in the same one -/
def uOk (K : List Value → eH → Nat → eRes → Nat → Nat → Prop) (as : List Value) (σ : St) (x : Nat → Nat) (ℓ c : Nat) (τ : Nat → St) (us : Nat → Nat) (τs : Nat → St) (U : Nat) : Prop :=
  ∃ (v : Int64) (σ' : St) (c' : Nat) (τ' : Nat → St) (us' : Nat → Nat) (τs' : Nat → St), gU σ' c' τ' us' τs' U ∧ ∀ (h : eH) (b n : Nat), eNB h b σ x ℓ c τ us τs → K (.ref b :: as) h n (.inl (some (.long v)), (fun g => eNB g b σ' x ℓ c' τ' us' τs' ∧ eFr h g b (b + 317)), none) 1 6
theorem uOk.same {h : eH} {b ℓ c : Nat} {σ : St} {x : Nat → Nat} {τ τs : Nat → St} {us : Nat → Nat} (hO : eNB h b σ x ℓ c τ us τs) : ∀ g, g = h → eNB g b σ x ℓ c τ us τs ∧ eFr h g b (b + 317) := fun g e => by subst e; exact ⟨hO, eFr.rf⟩
theorem nI_no {k m : Nat} (hk : k < 2 ^ 31) (h : ¬ k < m) : ¬ (0 ≤ (nI k).toInt ∧ (nI k).toInt < (m : Int)) := by
  rw [nI_toInt hk]
  omega
theorem u_bestName {σ : St} {x : Nat → Nat} {ℓ c T : Nat} {τ τs : Nat → St} {us : Nat → Nat} (hI : gI σ T) (hT : T < 2 ^ 20) {g p m : Nat} (hg : g < 2 ^ 31) (hp : p < 2 ^ 31) (hm : 1 ≤ m ∧ m ≤ 2) : ∃ v : Int64, ∀ (h : eH) (b n : Nat), eNB h b σ x ℓ c τ us τs → kL_bestName [.ref b, .int (nI g), .int (nI p), .int (nI m)] h n (.inl (some (.long v)), (fun g => eNB g b σ x ℓ c τ us τs ∧ eFr h g b (b + 317)), none) 1 6 := by
  have hK := hI.ok hT
  by_cases z1 : g < σ 0 0
  · by_cases z2 : p < σ 0 0
    · exact ⟨_, fun h b n hO => v_bestName rfl hO.1 (fun _ q => q) (c_X10_bestName hO hK z1 z2 hm)⟩
    · exact ⟨_, fun h b n hO => v_bestName_1 hO.1 (uOk.same hO) (c_X10_bestName_2 hO hK.1 z1 (nI_no hp z2))⟩
  · exact ⟨_, fun h b n hO => v_bestName_1 hO.1 (uOk.same hO) (c_X10_bestName_1 hO hK.1 (nI_no hg z1))⟩
theorem u_person {σ : St} {x : Nat → Nat} {ℓ c T : Nat} {τ τs : Nat → St} {us : Nat → Nat} (hV : gU σ c τ us τs T) (hc : c ≤ 14) (hT : T < 2 ^ 20) {a f d : Nat} (ha : a < 100) (hf : f < 6) (hd : d < 4) : uOk kL_person [.int (nI a), .int (nI f), .int (nI d)] σ x ℓ c τ us τs (T + 2) := by
  have hI := hV.1
  have hK := hI.ok hT
  by_cases z : σ 0 0 < 12
  · exact ⟨_, _, _, _, _, _, hV.put hc ⟨(hI.1.addP (by omega) hf hd z).mono (by omega), hI.2.1.addP hI.1.ho, hI.2.2.addP⟩ (by omega), fun h b n hO => v_person rfl hO.1 (fun _ q => q) (c_X10_person hO hK.1 ha hf hd z)⟩
  · exact ⟨_, _, _, _, _, _, hV.mono (by omega), fun h b n hO => v_person_3 hO.1 (uOk.same hO) (c_X10_person_4 hO hK.1 ha hf hd (by omega))⟩
theorem u_give {σ : St} {x : Nat → Nat} {ℓ c T : Nat} {τ τs : Nat → St} {us : Nat → Nat} (hV : gU σ c τ us τs T) (hc : c ≤ 14) (hT : T < 2 ^ 20) {g p m k : Nat} (hg : g < 2 ^ 31) (hp : p < 2 ^ 31) (hmc : sCode m k = true) : uOk kL_give [.int (nI g), .int (nI p), .int (nI m), .int (nI k)] σ x ℓ c τ us τs (T + 2) := by
  have hI := hV.1
  have hK := hI.ok hT
  by_cases z1 : g < σ 0 0
  · by_cases z2 : p < σ 0 0
    · exact ⟨_, _, _, _, _, _, hV.put hc ⟨(hI.1.giveT z1 z2 hmc).mono (by omega), hI.2.1.giveT, hI.2.2.giveT⟩ (by omega), fun h b n hO => v_give rfl hO.1 (fun _ q => q) (c_X10_give hO hK z1 z2 (sCode_b hmc).1 (sCode_b hmc).2 hmc)⟩
    · exact ⟨_, _, _, _, _, _, hV.mono (by omega), fun h b n hO => v_give_1 hO.1 (uOk.same hO) (c_X10_give_2 hO hK.1 z1 (nI_no hp z2))⟩
  · exact ⟨_, _, _, _, _, _, hV.mono (by omega), fun h b n hO => v_give_1 hO.1 (uOk.same hO) (c_X10_give_1 hO hK.1 (nI_no hg z1))⟩
theorem u_call {σ : St} {x : Nat → Nat} {ℓ c T : Nat} {τ τs : Nat → St} {us : Nat → Nat} (hV : gU σ c τ us τs T) (hc : c ≤ 14) (hT : T < 2 ^ 20) {d m k : Nat} (hd : d < 4) (hmc : sCode m k = true) : uOk kL_call [.int (nI d), .int (nI m), .int (nI k)] σ x ℓ c τ us τs (T + 2) := by
  have hI := hV.1
  exact ⟨_, _, _, _, _, _, hV.put hc ⟨hI.1.callT, hI.2.1.callT, hI.2.2.callT⟩ (by omega), fun h b n hO => v_call rfl hO.1 (fun _ q => q) (c_X10_call hO hI.1 (by omega) hd (sCode_b hmc).1 (sCode_b hmc).2 hmc)⟩
theorem u_sit {σ : St} {x : Nat → Nat} {ℓ c T : Nat} {τ τs : Nat → St} {us : Nat → Nat} (hV : gU σ c τ us τs T) (hc : c ≤ 14) (hT : T < 2 ^ 20) {p d : Nat} (hp : p < 2 ^ 31) (hd : d < 4) : uOk kL_sit [.int (nI p), .int (nI d)] σ x ℓ c τ us τs (T + 2) := by
  have hI := hV.1
  have hK := hI.ok hT
  by_cases z1 : p < σ 0 0
  · cases z2 : sKept σ p d with
    | false => exact ⟨_, _, _, _, _, _, hV.put hc ⟨(hI.1.sit hd).mono (by omega), hI.2.1.sit z2, hI.2.2.sit⟩ (by omega), fun h b n hO => v_sit rfl hO.1 (fun _ q => q) (c_X10_sit hO hK z1 hd z2)⟩
    | true => exact ⟨_, _, _, _, _, _, hV.mono (by omega), fun h b n hO => v_sit_2 hO.1 (uOk.same hO) (c_X10_sit_3 hO hK z1 hd z2)⟩
  · exact ⟨_, _, _, _, _, _, hV.mono (by omega), fun h b n hO => v_sit_1 hO.1 (uOk.same hO) (c_X10_sit_1 hO hK.1 (nI_no hp z1))⟩
theorem u_set {σ : St} {x : Nat → Nat} {ℓ c T : Nat} {τ τs : Nat → St} {us : Nat → Nat} (hV : gU σ c τ us τs T) (hc : c ≤ 14) {w v : Nat} (hw : w < 3) (hv : 1 ≤ v ∧ v ≤ 9) : uOk kL_set [.int (nI w), .int (nI v)] σ x ℓ c τ us τs (T + 2) := by
  have hI := hV.1
  have hs : sSetOK w v = true := decide_eq_true ⟨hw, by split <;> omega, hv.2⟩
  exact ⟨_, _, _, _, _, _, hV.put hc ⟨(hI.1.set hs).mono (by omega), hI.2.1.set, hI.2.2.set⟩ (by omega), fun h b n hO => v_set rfl hO.1 (fun _ q => q) (c_X10_set hO (by omega) (by omega) hs)⟩
theorem u_years {σ : St} {x : Nat → Nat} {ℓ c T : Nat} {τ τs : Nat → St} {us : Nat → Nat} (hV : gU σ c τ us τs T) (hc : c ≤ 14) (hT : T < 2 ^ 20) {y : Nat} (hy : 1 ≤ y ∧ y < 10) : uOk kL_years [.int (nI y)] σ x ℓ c τ us τs (T + 2) := by
  have hI := hV.1
  by_cases z : σ 0 2 + y ≤ 999
  · exact ⟨_, _, _, _, _, _, hV.put hc ⟨hI.1.pass.mono (by omega), hI.2.1.pass hI.1, hI.2.2.pass hI.1⟩ (by omega), fun h b n hO => v_years rfl hO.1 (fun _ q => q) (c_X10_years hO hI.1 (by omega) hy z)⟩
  · exact ⟨_, _, _, _, _, _, hV.mono (by omega), fun h b n hO => v_years_2 hO.1 (uOk.same hO) (c_X10_years_2 hO hI.1 hy (by omega))⟩
theorem u_undo {σ : St} {x : Nat → Nat} {ℓ c T : Nat} {τ τs : Nat → St} {us : Nat → Nat} (hV : gU σ c τ us τs T) : uOk kL_undo [] σ x ℓ c τ us τs (T + 2) := by
  cases c with
  | zero => exact ⟨_, _, _, _, _, _, hV.mono (by omega), fun h b n hO => v_undo_1 hO.1 (uOk.same hO) (c_X10_undo_1 hO)⟩
  | succ c => exact ⟨_, _, _, _, _, _, hV.undo.mono (by omega), fun h b n hO => v_undo rfl hO.1 (fun _ q => q) (c_X10_undo hO)⟩
theorem u_save {σ : St} {x : Nat → Nat} {ℓ c T : Nat} {τ τs : Nat → St} {us : Nat → Nat} (hV : gU σ c τ us τs T) {s : Nat} (hs : s < 2) : uOk kL_save [.int (nI s)] σ x ℓ c τ us τs (T + 2) :=
  ⟨_, _, _, _, _, _, (hV.save (s := s)).mono (by omega), fun h b n hO => v_save rfl hO.1 (fun _ q => q) (c_X10_save hO hs)⟩
theorem u_restore {σ : St} {x : Nat → Nat} {ℓ c T : Nat} {τ τs : Nat → St} {us : Nat → Nat} (hV : gU σ c τ us τs T) {s : Nat} (hs : s < 2) : uOk kL_restore [.int (nI s)] σ x ℓ c τ us τs (T + 2) := by
  by_cases z : us s = 0
  · exact ⟨_, _, _, _, _, _, hV.mono (by omega), fun h b n hO => v_restore_2 hO.1 (uOk.same hO) (c_X10_restore_2 hO hs z)⟩
  · exact ⟨_, _, _, _, _, _, (hV.restore hs z).mono (by omega), fun h b n hO => v_restore rfl hO.1 (fun _ q => q) (c_X10_restore hO hs z)⟩
set_option maxHeartbeats 4000000 in
set_option maxRecDepth 20000 in
theorem act_108 {b X Y n : Nat} {h : eH} {v : Int64} {P : eH → Prop} (hY : Y < 2 ^ 31) (hk : kL_person [.ref b, .int (nI (Y % 30)), .int (nI ((Y / 32) % 3)), .int (nI ((Y / 32) / 3 % 2))] h n (.inl (some (.long v)), P, none) 1 6) : eV mL_act 108 [(0, .ref b), (1, .int (nI X)), (2, .int (nI Y)), (3, .int (nI (Y / 32)))] [] (h, n, 0, 0) (.inl (some (.long v)), P, none) 1 6 := by
  refine ev_aload_n dL_act_108 rfl rfl ?_
  refine ev_iload_n dL_act_109 rfl rfl ?_
  refine ev_bipush (v := nI 30) dL_act_110 rfl ?_
  refine ev_iremN dL_act_112 (by omega) (by first | assumption | omega) (by omega) ?_
  refine ev_iload_n dL_act_113 rfl rfl ?_
  refine ev_iconst (v := nI 3) dL_act_114 rfl ?_
  refine ev_iremN dL_act_115 (by omega) (by first | assumption | omega) (by omega) ?_
  refine ev_iload_n dL_act_116 rfl rfl ?_
  refine ev_iconst (v := nI 3) dL_act_117 rfl ?_
  refine ev_idivN dL_act_118 (by omega) (by first | assumption | omega) (by omega) ?_
  refine ev_iconst (v := nI 2) dL_act_119 rfl ?_
  refine ev_iremN dL_act_120 (by omega) (by first | assumption | omega) (by omega) ?_
  refine ev_sxW dL_act_121 (hk) lk_L_121 ⟨Nat.le_of_ble_eq_true rfl, Nat.le_of_ble_eq_true rfl⟩ rfl (Nat.le_of_ble_eq_true rfl) ⟨by first | exact Nat.le_of_ble_eq_true rfl | omega, by first | exact Nat.le_of_ble_eq_true rfl | omega⟩ (fun n_121 g_121 hg_121 => ?_)
  exact ev_lret dL_act_124 rfl (by rfl) (by exact hg_121) (fun _ e => nomatch e) (by first | exact Nat.le_of_ble_eq_true rfl | omega) (by first | exact Nat.le_of_ble_eq_true rfl | omega)
set_option maxHeartbeats 4000000 in
set_option maxRecDepth 20000 in
theorem act_125 {b X Y n : Nat} {h : eH} {v : Int64} {P : eH → Prop} (hY : Y < 2 ^ 31) (hk : kL_give [.ref b, .int (nI (Y % 6)), .int (nI ((Y / 32) % 6)), .int (nI 1), .int (nI ((Y / 32) / 8 % 5))] h n (.inl (some (.long v)), P, none) 1 6) : eV mL_act 125 [(0, .ref b), (1, .int (nI X)), (2, .int (nI Y)), (3, .int (nI (Y / 32)))] [] (h, n, 0, 0) (.inl (some (.long v)), P, none) 1 6 := by
  refine ev_aload_n dL_act_125 rfl rfl ?_
  refine ev_iload_n dL_act_126 rfl rfl ?_
  refine ev_bipush (v := nI 6) dL_act_127 rfl ?_
  refine ev_iremN dL_act_129 (by omega) (by first | assumption | omega) (by omega) ?_
  refine ev_iload_n dL_act_130 rfl rfl ?_
  refine ev_bipush (v := nI 6) dL_act_131 rfl ?_
  refine ev_iremN dL_act_133 (by omega) (by first | assumption | omega) (by omega) ?_
  refine ev_iconst (v := nI 1) dL_act_134 rfl ?_
  refine ev_iload_n dL_act_135 rfl rfl ?_
  refine ev_bipush (v := nI 8) dL_act_136 rfl ?_
  refine ev_idivN dL_act_138 (by omega) (by first | assumption | omega) (by omega) ?_
  refine ev_iconst (v := nI 5) dL_act_139 rfl ?_
  refine ev_iremN dL_act_140 (by omega) (by first | assumption | omega) (by omega) ?_
  refine ev_sxW dL_act_141 (hk) lk_L_126 ⟨Nat.le_of_ble_eq_true rfl, Nat.le_of_ble_eq_true rfl⟩ rfl (Nat.le_of_ble_eq_true rfl) ⟨by first | exact Nat.le_of_ble_eq_true rfl | omega, by first | exact Nat.le_of_ble_eq_true rfl | omega⟩ (fun n_141 g_141 hg_141 => ?_)
  exact ev_lret dL_act_144 rfl (by rfl) (by exact hg_141) (fun _ e => nomatch e) (by first | exact Nat.le_of_ble_eq_true rfl | omega) (by first | exact Nat.le_of_ble_eq_true rfl | omega)
set_option maxHeartbeats 4000000 in
set_option maxRecDepth 20000 in
theorem act_145 {b X Y n : Nat} {h : eH} {v : Int64} {P : eH → Prop} (hY : Y < 2 ^ 31) (hk : kL_give [.ref b, .int (nI (Y % 6)), .int (nI ((Y / 32) % 6)), .int (nI 2), .int (nI ((Y / 32) / 8 % 676))] h n (.inl (some (.long v)), P, none) 1 6) : eV mL_act 145 [(0, .ref b), (1, .int (nI X)), (2, .int (nI Y)), (3, .int (nI (Y / 32)))] [] (h, n, 0, 0) (.inl (some (.long v)), P, none) 1 6 := by
  refine ev_aload_n dL_act_145 rfl rfl ?_
  refine ev_iload_n dL_act_146 rfl rfl ?_
  refine ev_bipush (v := nI 6) dL_act_147 rfl ?_
  refine ev_iremN dL_act_149 (by omega) (by first | assumption | omega) (by omega) ?_
  refine ev_iload_n dL_act_150 rfl rfl ?_
  refine ev_bipush (v := nI 6) dL_act_151 rfl ?_
  refine ev_iremN dL_act_153 (by omega) (by first | assumption | omega) (by omega) ?_
  refine ev_iconst (v := nI 2) dL_act_154 rfl ?_
  refine ev_iload_n dL_act_155 rfl rfl ?_
  refine ev_bipush (v := nI 8) dL_act_156 rfl ?_
  refine ev_idivN dL_act_158 (by omega) (by first | assumption | omega) (by omega) ?_
  refine ev_sipush (v := nI 676) dL_act_159 rfl ?_
  refine ev_iremN dL_act_162 (by omega) (by first | assumption | omega) (by omega) ?_
  refine ev_sxW dL_act_163 (hk) lk_L_126 ⟨Nat.le_of_ble_eq_true rfl, Nat.le_of_ble_eq_true rfl⟩ rfl (Nat.le_of_ble_eq_true rfl) ⟨by first | exact Nat.le_of_ble_eq_true rfl | omega, by first | exact Nat.le_of_ble_eq_true rfl | omega⟩ (fun n_163 g_163 hg_163 => ?_)
  exact ev_lret dL_act_166 rfl (by rfl) (by exact hg_163) (fun _ e => nomatch e) (by first | exact Nat.le_of_ble_eq_true rfl | omega) (by first | exact Nat.le_of_ble_eq_true rfl | omega)
set_option maxHeartbeats 4000000 in
set_option maxRecDepth 20000 in
theorem act_167 {b X Y n : Nat} {h : eH} {v : Int64} {P : eH → Prop} (hY : Y < 2 ^ 31) (hk : kL_call [.ref b, .int (nI (Y % 3)), .int (nI 1), .int (nI ((Y / 32) % 5))] h n (.inl (some (.long v)), P, none) 1 6) : eV mL_act 167 [(0, .ref b), (1, .int (nI X)), (2, .int (nI Y)), (3, .int (nI (Y / 32)))] [] (h, n, 0, 0) (.inl (some (.long v)), P, none) 1 6 := by
  refine ev_aload_n dL_act_167 rfl rfl ?_
  refine ev_iload_n dL_act_168 rfl rfl ?_
  refine ev_iconst (v := nI 3) dL_act_169 rfl ?_
  refine ev_iremN dL_act_170 (by omega) (by first | assumption | omega) (by omega) ?_
  refine ev_iconst (v := nI 1) dL_act_171 rfl ?_
  refine ev_iload_n dL_act_172 rfl rfl ?_
  refine ev_iconst (v := nI 5) dL_act_173 rfl ?_
  refine ev_iremN dL_act_174 (by omega) (by first | assumption | omega) (by omega) ?_
  refine ev_sxW dL_act_175 (hk) lk_L_128 ⟨Nat.le_of_ble_eq_true rfl, Nat.le_of_ble_eq_true rfl⟩ rfl (Nat.le_of_ble_eq_true rfl) ⟨by first | exact Nat.le_of_ble_eq_true rfl | omega, by first | exact Nat.le_of_ble_eq_true rfl | omega⟩ (fun n_175 g_175 hg_175 => ?_)
  exact ev_lret dL_act_178 rfl (by rfl) (by exact hg_175) (fun _ e => nomatch e) (by first | exact Nat.le_of_ble_eq_true rfl | omega) (by first | exact Nat.le_of_ble_eq_true rfl | omega)
set_option maxHeartbeats 4000000 in
set_option maxRecDepth 20000 in
theorem act_179 {b X Y n : Nat} {h : eH} {v : Int64} {P : eH → Prop} (hY : Y < 2 ^ 31) (hk : kL_sit [.ref b, .int (nI (Y % 6)), .int (nI ((Y / 32) % 3))] h n (.inl (some (.long v)), P, none) 1 6) : eV mL_act 179 [(0, .ref b), (1, .int (nI X)), (2, .int (nI Y)), (3, .int (nI (Y / 32)))] [] (h, n, 0, 0) (.inl (some (.long v)), P, none) 1 6 := by
  refine ev_aload_n dL_act_179 rfl rfl ?_
  refine ev_iload_n dL_act_180 rfl rfl ?_
  refine ev_bipush (v := nI 6) dL_act_181 rfl ?_
  refine ev_iremN dL_act_183 (by omega) (by first | assumption | omega) (by omega) ?_
  refine ev_iload_n dL_act_184 rfl rfl ?_
  refine ev_iconst (v := nI 3) dL_act_185 rfl ?_
  refine ev_iremN dL_act_186 (by omega) (by first | assumption | omega) (by omega) ?_
  refine ev_sxW dL_act_187 (hk) lk_L_124 ⟨Nat.le_of_ble_eq_true rfl, Nat.le_of_ble_eq_true rfl⟩ rfl (Nat.le_of_ble_eq_true rfl) ⟨by first | exact Nat.le_of_ble_eq_true rfl | omega, by first | exact Nat.le_of_ble_eq_true rfl | omega⟩ (fun n_187 g_187 hg_187 => ?_)
  exact ev_lret dL_act_190 rfl (by rfl) (by exact hg_187) (fun _ e => nomatch e) (by first | exact Nat.le_of_ble_eq_true rfl | omega) (by first | exact Nat.le_of_ble_eq_true rfl | omega)
set_option maxHeartbeats 4000000 in
set_option maxRecDepth 20000 in
theorem act_191 {b X Y n : Nat} {h : eH} {v : Int64} {P : eH → Prop} (hY : Y < 2 ^ 31) (hk : kL_set [.ref b, .int (nI (Y % 3)), .int (nI (1 + (Y / 32) % 6))] h n (.inl (some (.long v)), P, none) 1 6) : eV mL_act 191 [(0, .ref b), (1, .int (nI X)), (2, .int (nI Y)), (3, .int (nI (Y / 32)))] [] (h, n, 0, 0) (.inl (some (.long v)), P, none) 1 6 := by
  refine ev_aload_n dL_act_191 rfl rfl ?_
  refine ev_iload_n dL_act_192 rfl rfl ?_
  refine ev_iconst (v := nI 3) dL_act_193 rfl ?_
  refine ev_iremN dL_act_194 (by omega) (by first | assumption | omega) (by omega) ?_
  refine ev_iconst (v := nI 1) dL_act_195 rfl ?_
  refine ev_iload_n dL_act_196 rfl rfl ?_
  refine ev_bipush (v := nI 6) dL_act_197 rfl ?_
  refine ev_iremN dL_act_199 (by omega) (by first | assumption | omega) (by omega) ?_
  refine ev_iaddN dL_act_200 ?_
  refine ev_sxW dL_act_201 (hk) lk_L_132 ⟨Nat.le_of_ble_eq_true rfl, Nat.le_of_ble_eq_true rfl⟩ rfl (Nat.le_of_ble_eq_true rfl) ⟨by first | exact Nat.le_of_ble_eq_true rfl | omega, by first | exact Nat.le_of_ble_eq_true rfl | omega⟩ (fun n_201 g_201 hg_201 => ?_)
  exact ev_lret dL_act_204 rfl (by rfl) (by exact hg_201) (fun _ e => nomatch e) (by first | exact Nat.le_of_ble_eq_true rfl | omega) (by first | exact Nat.le_of_ble_eq_true rfl | omega)
set_option maxHeartbeats 4000000 in
set_option maxRecDepth 20000 in
theorem act_205 {b X Y n : Nat} {h : eH} {v : Int64} {P : eH → Prop} (hY : Y < 2 ^ 31) (hk : kL_undo [.ref b] h n (.inl (some (.long v)), P, none) 1 6) : eV mL_act 205 [(0, .ref b), (1, .int (nI X)), (2, .int (nI Y)), (3, .int (nI (Y / 32)))] [] (h, n, 0, 0) (.inl (some (.long v)), P, none) 1 6 := by
  refine ev_aload_n dL_act_205 rfl rfl ?_
  refine ev_sxW dL_act_206 (hk) lk_L_177 ⟨Nat.le_of_ble_eq_true rfl, Nat.le_of_ble_eq_true rfl⟩ rfl (Nat.le_of_ble_eq_true rfl) ⟨by first | exact Nat.le_of_ble_eq_true rfl | omega, by first | exact Nat.le_of_ble_eq_true rfl | omega⟩ (fun n_206 g_206 hg_206 => ?_)
  exact ev_lret dL_act_209 rfl (by rfl) (by exact hg_206) (fun _ e => nomatch e) (by first | exact Nat.le_of_ble_eq_true rfl | omega) (by first | exact Nat.le_of_ble_eq_true rfl | omega)
set_option maxHeartbeats 4000000 in
set_option maxRecDepth 20000 in
theorem act_238 {b X Y n : Nat} {h : eH} {v : Int64} {P : eH → Prop} (hY : Y < 2 ^ 31) (hk : kL_years [.ref b, .int (nI (1 + Y % 2))] h n (.inl (some (.long v)), P, none) 1 6) : eV mL_act 238 [(0, .ref b), (1, .int (nI X)), (2, .int (nI Y)), (3, .int (nI (Y / 32)))] [] (h, n, 0, 0) (.inl (some (.long v)), P, none) 1 6 := by
  refine ev_aload_n dL_act_238 rfl rfl ?_
  refine ev_iconst (v := nI 1) dL_act_239 rfl ?_
  refine ev_iload_n dL_act_240 rfl rfl ?_
  refine ev_iconst (v := nI 2) dL_act_241 rfl ?_
  refine ev_iremN dL_act_242 (by omega) (by first | assumption | omega) (by omega) ?_
  refine ev_iaddN dL_act_243 ?_
  refine ev_sxW dL_act_244 (hk) lk_L_130 ⟨Nat.le_of_ble_eq_true rfl, Nat.le_of_ble_eq_true rfl⟩ rfl (Nat.le_of_ble_eq_true rfl) ⟨by first | exact Nat.le_of_ble_eq_true rfl | omega, by first | exact Nat.le_of_ble_eq_true rfl | omega⟩ (fun n_244 g_244 hg_244 => ?_)
  exact ev_lret dL_act_247 rfl (by rfl) (by exact hg_244) (fun _ e => nomatch e) (by first | exact Nat.le_of_ble_eq_true rfl | omega) (by first | exact Nat.le_of_ble_eq_true rfl | omega)
set_option maxHeartbeats 4000000 in
set_option maxRecDepth 20000 in
theorem act_210_save {b X Y n : Nat} {h : eH} {v : Int64} {P : eH → Prop} (hY : Y < 2 ^ 31) (hw : Y / 32 % 2 = 0) (hk : kL_save [.ref b, .int (nI (Y / 32 / 2 % 2))] h n (.inl (some (.long v)), P, none) 1 6) : eV mL_act 210 [(0, .ref b), (1, .int (nI X)), (2, .int (nI Y)), (3, .int (nI (Y / 32)))] [] (h, n, 0, 0) (.inl (some (.long v)), P, none) 1 6 := by
  refine ev_iload_n dL_act_210 rfl rfl ?_
  refine ev_iconst (v := nI 2) dL_act_211 rfl ?_
  refine ev_iremN dL_act_212 (by omega) (by first | assumption | omega) (by omega) ?_
  refine ev_if_neN (tgt := 228) dL_act_213 (by decide) (by omega) (fun c_213 => absurd c_213 (by omega)) (fun c_213 => ?_)
  refine ev_aload_n dL_act_216 rfl rfl ?_
  refine ev_iload_n dL_act_217 rfl rfl ?_
  refine ev_iconst (v := nI 2) dL_act_218 rfl ?_
  refine ev_idivN dL_act_219 (by omega) (by first | assumption | omega) (by omega) ?_
  refine ev_iconst (v := nI 1) dL_act_220 rfl ?_
  refine ev_iand dL_act_221 ?_
  rw [show nI (Y / 32 / 2) &&& nI 1 = nI (Y / 32 / 2 % 2) from pk_andN (by omega) 1 (by decide)]
  refine ev_sxW dL_act_222 (hk) lk_L_149 ⟨Nat.le_of_ble_eq_true rfl, Nat.le_of_ble_eq_true rfl⟩ rfl (Nat.le_of_ble_eq_true rfl) ⟨by first | exact Nat.le_of_ble_eq_true rfl | omega, by first | exact Nat.le_of_ble_eq_true rfl | omega⟩ (fun n_222 g_222 hg_222 => ?_)
  refine ev_goto (tgt := 237) dL_act_225 (by decide) ?_
  exact ev_lret dL_act_237 rfl (by rfl) (by exact hg_222) (fun _ e => nomatch e) (by first | exact Nat.le_of_ble_eq_true rfl | omega) (by first | exact Nat.le_of_ble_eq_true rfl | omega)
set_option maxHeartbeats 4000000 in
set_option maxRecDepth 20000 in
theorem act_210_restore {b X Y n : Nat} {h : eH} {v : Int64} {P : eH → Prop} (hY : Y < 2 ^ 31) (hw : ¬ Y / 32 % 2 = 0) (hk : kL_restore [.ref b, .int (nI (Y / 32 / 2 % 2))] h n (.inl (some (.long v)), P, none) 1 6) : eV mL_act 210 [(0, .ref b), (1, .int (nI X)), (2, .int (nI Y)), (3, .int (nI (Y / 32)))] [] (h, n, 0, 0) (.inl (some (.long v)), P, none) 1 6 := by
  refine ev_iload_n dL_act_210 rfl rfl ?_
  refine ev_iconst (v := nI 2) dL_act_211 rfl ?_
  refine ev_iremN dL_act_212 (by omega) (by first | assumption | omega) (by omega) ?_
  refine ev_if_neN (tgt := 228) dL_act_213 (by decide) (by omega) (fun c_213 => ?_) (fun c_213 => absurd c_213 (by omega))
  refine ev_aload_n dL_act_228 rfl rfl ?_
  refine ev_iload_n dL_act_229 rfl rfl ?_
  refine ev_iconst (v := nI 2) dL_act_230 rfl ?_
  refine ev_idivN dL_act_231 (by omega) (by first | assumption | omega) (by omega) ?_
  refine ev_iconst (v := nI 1) dL_act_232 rfl ?_
  refine ev_iand dL_act_233 ?_
  rw [show nI (Y / 32 / 2) &&& nI 1 = nI (Y / 32 / 2 % 2) from pk_andN (by omega) 1 (by decide)]
  refine ev_sxW dL_act_234 (hk) lk_L_151 ⟨Nat.le_of_ble_eq_true rfl, Nat.le_of_ble_eq_true rfl⟩ rfl (Nat.le_of_ble_eq_true rfl) ⟨by first | exact Nat.le_of_ble_eq_true rfl | omega, by first | exact Nat.le_of_ble_eq_true rfl | omega⟩ (fun n_234 g_234 hg_234 => ?_)
  exact ev_lret dL_act_237 rfl (by rfl) (by exact hg_234) (fun _ e => nomatch e) (by first | exact Nat.le_of_ble_eq_true rfl | omega) (by first | exact Nat.le_of_ble_eq_true rfl | omega)
set_option maxHeartbeats 4000000 in
set_option maxRecDepth 20000 in
theorem c_L_act {σ : St} {x : Nat → Nat} {ℓ c T : Nat} {τ τs : Nat → St} {us : Nat → Nat} {X Y : Nat} (hV : gU σ c τ us τs T) (hc : c ≤ 14) (hT : T < 2 ^ 20) (hX : X < 2 ^ 31) (hY : Y < 2 ^ 31) : uOk kL_act [.int (nI X), .int (nI Y)] σ x ℓ c τ us τs (T + 2) := by
  have hm : X % 24 < 24 := Nat.mod_lt _ (by decide)
  by_cases hd : 20 < X % 24
  · obtain ⟨v, σ', c', τ', us', τs', g0, g1⟩ := (show uOk kL_years [.int (nI (1 + Y % 2))] σ x ℓ c τ us τs (T + 2) from u_years hV hc hT (by omega))
    refine ⟨v, σ', c', τ', us', τs', g0, fun h b n hO => ?_⟩
    refine eM.of RL "act" [(0, .ref b), (1, .int (nI X)), (2, .int (nI Y))] pn_L rfl rfl (Nat.le_of_ble_eq_true rfl) rfl ?_
    refine ev_iload_n dL_act_0 rfl rfl ?_
    refine ev_bipush (v := nI 32) dL_act_1 rfl ?_
    refine ev_idivN dL_act_3 (by omega) (by decide) (by decide) ?_
    refine ev_istore_n dL_act_4 rfl (Nat.le_of_ble_eq_true rfl) ?_
    refine ev_iload_n dL_act_5 rfl rfl ?_
    refine ev_bipush (v := nI 24) dL_act_6 rfl ?_
    refine ev_iremN dL_act_8 (by omega) (by decide) (by decide) ?_
    refine ev_tabOutN (tgt := 238) dL_act_9 (by omega) (by omega) (by decide) ?_
    exact (act_238 hY (g1 h b n hO)).sub1 ⟨rfl, rfl, rfl, rfl, trivial⟩ rfl
  by_cases z0 : X % 24 = 0
  · obtain ⟨v, σ', c', τ', us', τs', g0, g1⟩ := (show uOk kL_person [.int (nI (Y % 30)), .int (nI ((Y / 32) % 3)), .int (nI ((Y / 32) / 3 % 2))] σ x ℓ c τ us τs (T + 2) from u_person hV hc hT (by omega) (by omega) (by omega))
    refine ⟨v, σ', c', τ', us', τs', g0, fun h b n hO => ?_⟩
    refine eM.of RL "act" [(0, .ref b), (1, .int (nI X)), (2, .int (nI Y))] pn_L rfl rfl (Nat.le_of_ble_eq_true rfl) rfl ?_
    refine ev_iload_n dL_act_0 rfl rfl ?_
    refine ev_bipush (v := nI 32) dL_act_1 rfl ?_
    refine ev_idivN dL_act_3 (by omega) (by decide) (by decide) ?_
    refine ev_istore_n dL_act_4 rfl (Nat.le_of_ble_eq_true rfl) ?_
    refine ev_iload_n dL_act_5 rfl rfl ?_
    refine ev_bipush (v := nI 24) dL_act_6 rfl ?_
    refine ev_iremN dL_act_8 (by omega) (by decide) (by decide) ?_
    refine ev_tabN (off := 99) (tgt := 108) dL_act_9 (by rw [z0]; decide) (by rw [z0]; decide) (by rw [z0]; decide) (by rw [z0]; rfl) (by decide) ?_
    exact (act_108 hY (g1 h b n hO)).sub1 ⟨rfl, rfl, rfl, rfl, trivial⟩ rfl
  by_cases z1 : X % 24 = 1
  · obtain ⟨v, σ', c', τ', us', τs', g0, g1⟩ := (show uOk kL_person [.int (nI (Y % 30)), .int (nI ((Y / 32) % 3)), .int (nI ((Y / 32) / 3 % 2))] σ x ℓ c τ us τs (T + 2) from u_person hV hc hT (by omega) (by omega) (by omega))
    refine ⟨v, σ', c', τ', us', τs', g0, fun h b n hO => ?_⟩
    refine eM.of RL "act" [(0, .ref b), (1, .int (nI X)), (2, .int (nI Y))] pn_L rfl rfl (Nat.le_of_ble_eq_true rfl) rfl ?_
    refine ev_iload_n dL_act_0 rfl rfl ?_
    refine ev_bipush (v := nI 32) dL_act_1 rfl ?_
    refine ev_idivN dL_act_3 (by omega) (by decide) (by decide) ?_
    refine ev_istore_n dL_act_4 rfl (Nat.le_of_ble_eq_true rfl) ?_
    refine ev_iload_n dL_act_5 rfl rfl ?_
    refine ev_bipush (v := nI 24) dL_act_6 rfl ?_
    refine ev_iremN dL_act_8 (by omega) (by decide) (by decide) ?_
    refine ev_tabN (off := 99) (tgt := 108) dL_act_9 (by rw [z1]; decide) (by rw [z1]; decide) (by rw [z1]; decide) (by rw [z1]; rfl) (by decide) ?_
    exact (act_108 hY (g1 h b n hO)).sub1 ⟨rfl, rfl, rfl, rfl, trivial⟩ rfl
  by_cases z2 : X % 24 = 2
  · obtain ⟨v, σ', c', τ', us', τs', g0, g1⟩ := (show uOk kL_give [.int (nI (Y % 6)), .int (nI ((Y / 32) % 6)), .int (nI 1), .int (nI ((Y / 32) / 8 % 5))] σ x ℓ c τ us τs (T + 2) from u_give hV hc hT (by omega) (by omega) (decide_eq_true ⟨by omega, by omega, by show _ < 26; omega⟩))
    refine ⟨v, σ', c', τ', us', τs', g0, fun h b n hO => ?_⟩
    refine eM.of RL "act" [(0, .ref b), (1, .int (nI X)), (2, .int (nI Y))] pn_L rfl rfl (Nat.le_of_ble_eq_true rfl) rfl ?_
    refine ev_iload_n dL_act_0 rfl rfl ?_
    refine ev_bipush (v := nI 32) dL_act_1 rfl ?_
    refine ev_idivN dL_act_3 (by omega) (by decide) (by decide) ?_
    refine ev_istore_n dL_act_4 rfl (Nat.le_of_ble_eq_true rfl) ?_
    refine ev_iload_n dL_act_5 rfl rfl ?_
    refine ev_bipush (v := nI 24) dL_act_6 rfl ?_
    refine ev_iremN dL_act_8 (by omega) (by decide) (by decide) ?_
    refine ev_tabN (off := 116) (tgt := 125) dL_act_9 (by rw [z2]; decide) (by rw [z2]; decide) (by rw [z2]; decide) (by rw [z2]; rfl) (by decide) ?_
    exact (act_125 hY (g1 h b n hO)).sub1 ⟨rfl, rfl, rfl, rfl, trivial⟩ rfl
  by_cases z3 : X % 24 = 3
  · obtain ⟨v, σ', c', τ', us', τs', g0, g1⟩ := (show uOk kL_give [.int (nI (Y % 6)), .int (nI ((Y / 32) % 6)), .int (nI 1), .int (nI ((Y / 32) / 8 % 5))] σ x ℓ c τ us τs (T + 2) from u_give hV hc hT (by omega) (by omega) (decide_eq_true ⟨by omega, by omega, by show _ < 26; omega⟩))
    refine ⟨v, σ', c', τ', us', τs', g0, fun h b n hO => ?_⟩
    refine eM.of RL "act" [(0, .ref b), (1, .int (nI X)), (2, .int (nI Y))] pn_L rfl rfl (Nat.le_of_ble_eq_true rfl) rfl ?_
    refine ev_iload_n dL_act_0 rfl rfl ?_
    refine ev_bipush (v := nI 32) dL_act_1 rfl ?_
    refine ev_idivN dL_act_3 (by omega) (by decide) (by decide) ?_
    refine ev_istore_n dL_act_4 rfl (Nat.le_of_ble_eq_true rfl) ?_
    refine ev_iload_n dL_act_5 rfl rfl ?_
    refine ev_bipush (v := nI 24) dL_act_6 rfl ?_
    refine ev_iremN dL_act_8 (by omega) (by decide) (by decide) ?_
    refine ev_tabN (off := 116) (tgt := 125) dL_act_9 (by rw [z3]; decide) (by rw [z3]; decide) (by rw [z3]; decide) (by rw [z3]; rfl) (by decide) ?_
    exact (act_125 hY (g1 h b n hO)).sub1 ⟨rfl, rfl, rfl, rfl, trivial⟩ rfl
  by_cases z4 : X % 24 = 4
  · obtain ⟨v, σ', c', τ', us', τs', g0, g1⟩ := (show uOk kL_give [.int (nI (Y % 6)), .int (nI ((Y / 32) % 6)), .int (nI 1), .int (nI ((Y / 32) / 8 % 5))] σ x ℓ c τ us τs (T + 2) from u_give hV hc hT (by omega) (by omega) (decide_eq_true ⟨by omega, by omega, by show _ < 26; omega⟩))
    refine ⟨v, σ', c', τ', us', τs', g0, fun h b n hO => ?_⟩
    refine eM.of RL "act" [(0, .ref b), (1, .int (nI X)), (2, .int (nI Y))] pn_L rfl rfl (Nat.le_of_ble_eq_true rfl) rfl ?_
    refine ev_iload_n dL_act_0 rfl rfl ?_
    refine ev_bipush (v := nI 32) dL_act_1 rfl ?_
    refine ev_idivN dL_act_3 (by omega) (by decide) (by decide) ?_
    refine ev_istore_n dL_act_4 rfl (Nat.le_of_ble_eq_true rfl) ?_
    refine ev_iload_n dL_act_5 rfl rfl ?_
    refine ev_bipush (v := nI 24) dL_act_6 rfl ?_
    refine ev_iremN dL_act_8 (by omega) (by decide) (by decide) ?_
    refine ev_tabN (off := 116) (tgt := 125) dL_act_9 (by rw [z4]; decide) (by rw [z4]; decide) (by rw [z4]; decide) (by rw [z4]; rfl) (by decide) ?_
    exact (act_125 hY (g1 h b n hO)).sub1 ⟨rfl, rfl, rfl, rfl, trivial⟩ rfl
  by_cases z5 : X % 24 = 5
  · obtain ⟨v, σ', c', τ', us', τs', g0, g1⟩ := (show uOk kL_give [.int (nI (Y % 6)), .int (nI ((Y / 32) % 6)), .int (nI 1), .int (nI ((Y / 32) / 8 % 5))] σ x ℓ c τ us τs (T + 2) from u_give hV hc hT (by omega) (by omega) (decide_eq_true ⟨by omega, by omega, by show _ < 26; omega⟩))
    refine ⟨v, σ', c', τ', us', τs', g0, fun h b n hO => ?_⟩
    refine eM.of RL "act" [(0, .ref b), (1, .int (nI X)), (2, .int (nI Y))] pn_L rfl rfl (Nat.le_of_ble_eq_true rfl) rfl ?_
    refine ev_iload_n dL_act_0 rfl rfl ?_
    refine ev_bipush (v := nI 32) dL_act_1 rfl ?_
    refine ev_idivN dL_act_3 (by omega) (by decide) (by decide) ?_
    refine ev_istore_n dL_act_4 rfl (Nat.le_of_ble_eq_true rfl) ?_
    refine ev_iload_n dL_act_5 rfl rfl ?_
    refine ev_bipush (v := nI 24) dL_act_6 rfl ?_
    refine ev_iremN dL_act_8 (by omega) (by decide) (by decide) ?_
    refine ev_tabN (off := 116) (tgt := 125) dL_act_9 (by rw [z5]; decide) (by rw [z5]; decide) (by rw [z5]; decide) (by rw [z5]; rfl) (by decide) ?_
    exact (act_125 hY (g1 h b n hO)).sub1 ⟨rfl, rfl, rfl, rfl, trivial⟩ rfl
  by_cases z6 : X % 24 = 6
  · obtain ⟨v, σ', c', τ', us', τs', g0, g1⟩ := (show uOk kL_give [.int (nI (Y % 6)), .int (nI ((Y / 32) % 6)), .int (nI 1), .int (nI ((Y / 32) / 8 % 5))] σ x ℓ c τ us τs (T + 2) from u_give hV hc hT (by omega) (by omega) (decide_eq_true ⟨by omega, by omega, by show _ < 26; omega⟩))
    refine ⟨v, σ', c', τ', us', τs', g0, fun h b n hO => ?_⟩
    refine eM.of RL "act" [(0, .ref b), (1, .int (nI X)), (2, .int (nI Y))] pn_L rfl rfl (Nat.le_of_ble_eq_true rfl) rfl ?_
    refine ev_iload_n dL_act_0 rfl rfl ?_
    refine ev_bipush (v := nI 32) dL_act_1 rfl ?_
    refine ev_idivN dL_act_3 (by omega) (by decide) (by decide) ?_
    refine ev_istore_n dL_act_4 rfl (Nat.le_of_ble_eq_true rfl) ?_
    refine ev_iload_n dL_act_5 rfl rfl ?_
    refine ev_bipush (v := nI 24) dL_act_6 rfl ?_
    refine ev_iremN dL_act_8 (by omega) (by decide) (by decide) ?_
    refine ev_tabN (off := 116) (tgt := 125) dL_act_9 (by rw [z6]; decide) (by rw [z6]; decide) (by rw [z6]; decide) (by rw [z6]; rfl) (by decide) ?_
    exact (act_125 hY (g1 h b n hO)).sub1 ⟨rfl, rfl, rfl, rfl, trivial⟩ rfl
  by_cases z7 : X % 24 = 7
  · obtain ⟨v, σ', c', τ', us', τs', g0, g1⟩ := (show uOk kL_give [.int (nI (Y % 6)), .int (nI ((Y / 32) % 6)), .int (nI 1), .int (nI ((Y / 32) / 8 % 5))] σ x ℓ c τ us τs (T + 2) from u_give hV hc hT (by omega) (by omega) (decide_eq_true ⟨by omega, by omega, by show _ < 26; omega⟩))
    refine ⟨v, σ', c', τ', us', τs', g0, fun h b n hO => ?_⟩
    refine eM.of RL "act" [(0, .ref b), (1, .int (nI X)), (2, .int (nI Y))] pn_L rfl rfl (Nat.le_of_ble_eq_true rfl) rfl ?_
    refine ev_iload_n dL_act_0 rfl rfl ?_
    refine ev_bipush (v := nI 32) dL_act_1 rfl ?_
    refine ev_idivN dL_act_3 (by omega) (by decide) (by decide) ?_
    refine ev_istore_n dL_act_4 rfl (Nat.le_of_ble_eq_true rfl) ?_
    refine ev_iload_n dL_act_5 rfl rfl ?_
    refine ev_bipush (v := nI 24) dL_act_6 rfl ?_
    refine ev_iremN dL_act_8 (by omega) (by decide) (by decide) ?_
    refine ev_tabN (off := 116) (tgt := 125) dL_act_9 (by rw [z7]; decide) (by rw [z7]; decide) (by rw [z7]; decide) (by rw [z7]; rfl) (by decide) ?_
    exact (act_125 hY (g1 h b n hO)).sub1 ⟨rfl, rfl, rfl, rfl, trivial⟩ rfl
  by_cases z8 : X % 24 = 8
  · obtain ⟨v, σ', c', τ', us', τs', g0, g1⟩ := (show uOk kL_give [.int (nI (Y % 6)), .int (nI ((Y / 32) % 6)), .int (nI 2), .int (nI ((Y / 32) / 8 % 676))] σ x ℓ c τ us τs (T + 2) from u_give hV hc hT (by omega) (by omega) (decide_eq_true ⟨by omega, by omega, by show _ < 676; omega⟩))
    refine ⟨v, σ', c', τ', us', τs', g0, fun h b n hO => ?_⟩
    refine eM.of RL "act" [(0, .ref b), (1, .int (nI X)), (2, .int (nI Y))] pn_L rfl rfl (Nat.le_of_ble_eq_true rfl) rfl ?_
    refine ev_iload_n dL_act_0 rfl rfl ?_
    refine ev_bipush (v := nI 32) dL_act_1 rfl ?_
    refine ev_idivN dL_act_3 (by omega) (by decide) (by decide) ?_
    refine ev_istore_n dL_act_4 rfl (Nat.le_of_ble_eq_true rfl) ?_
    refine ev_iload_n dL_act_5 rfl rfl ?_
    refine ev_bipush (v := nI 24) dL_act_6 rfl ?_
    refine ev_iremN dL_act_8 (by omega) (by decide) (by decide) ?_
    refine ev_tabN (off := 136) (tgt := 145) dL_act_9 (by rw [z8]; decide) (by rw [z8]; decide) (by rw [z8]; decide) (by rw [z8]; rfl) (by decide) ?_
    exact (act_145 hY (g1 h b n hO)).sub1 ⟨rfl, rfl, rfl, rfl, trivial⟩ rfl
  by_cases z9 : X % 24 = 9
  · obtain ⟨v, σ', c', τ', us', τs', g0, g1⟩ := (show uOk kL_call [.int (nI (Y % 3)), .int (nI 1), .int (nI ((Y / 32) % 5))] σ x ℓ c τ us τs (T + 2) from u_call hV hc hT (by omega) (decide_eq_true ⟨by omega, by omega, by show _ < 26; omega⟩))
    refine ⟨v, σ', c', τ', us', τs', g0, fun h b n hO => ?_⟩
    refine eM.of RL "act" [(0, .ref b), (1, .int (nI X)), (2, .int (nI Y))] pn_L rfl rfl (Nat.le_of_ble_eq_true rfl) rfl ?_
    refine ev_iload_n dL_act_0 rfl rfl ?_
    refine ev_bipush (v := nI 32) dL_act_1 rfl ?_
    refine ev_idivN dL_act_3 (by omega) (by decide) (by decide) ?_
    refine ev_istore_n dL_act_4 rfl (Nat.le_of_ble_eq_true rfl) ?_
    refine ev_iload_n dL_act_5 rfl rfl ?_
    refine ev_bipush (v := nI 24) dL_act_6 rfl ?_
    refine ev_iremN dL_act_8 (by omega) (by decide) (by decide) ?_
    refine ev_tabN (off := 158) (tgt := 167) dL_act_9 (by rw [z9]; decide) (by rw [z9]; decide) (by rw [z9]; decide) (by rw [z9]; rfl) (by decide) ?_
    exact (act_167 hY (g1 h b n hO)).sub1 ⟨rfl, rfl, rfl, rfl, trivial⟩ rfl
  by_cases z10 : X % 24 = 10
  · obtain ⟨v, σ', c', τ', us', τs', g0, g1⟩ := (show uOk kL_call [.int (nI (Y % 3)), .int (nI 1), .int (nI ((Y / 32) % 5))] σ x ℓ c τ us τs (T + 2) from u_call hV hc hT (by omega) (decide_eq_true ⟨by omega, by omega, by show _ < 26; omega⟩))
    refine ⟨v, σ', c', τ', us', τs', g0, fun h b n hO => ?_⟩
    refine eM.of RL "act" [(0, .ref b), (1, .int (nI X)), (2, .int (nI Y))] pn_L rfl rfl (Nat.le_of_ble_eq_true rfl) rfl ?_
    refine ev_iload_n dL_act_0 rfl rfl ?_
    refine ev_bipush (v := nI 32) dL_act_1 rfl ?_
    refine ev_idivN dL_act_3 (by omega) (by decide) (by decide) ?_
    refine ev_istore_n dL_act_4 rfl (Nat.le_of_ble_eq_true rfl) ?_
    refine ev_iload_n dL_act_5 rfl rfl ?_
    refine ev_bipush (v := nI 24) dL_act_6 rfl ?_
    refine ev_iremN dL_act_8 (by omega) (by decide) (by decide) ?_
    refine ev_tabN (off := 158) (tgt := 167) dL_act_9 (by rw [z10]; decide) (by rw [z10]; decide) (by rw [z10]; decide) (by rw [z10]; rfl) (by decide) ?_
    exact (act_167 hY (g1 h b n hO)).sub1 ⟨rfl, rfl, rfl, rfl, trivial⟩ rfl
  by_cases z11 : X % 24 = 11
  · obtain ⟨v, σ', c', τ', us', τs', g0, g1⟩ := (show uOk kL_call [.int (nI (Y % 3)), .int (nI 1), .int (nI ((Y / 32) % 5))] σ x ℓ c τ us τs (T + 2) from u_call hV hc hT (by omega) (decide_eq_true ⟨by omega, by omega, by show _ < 26; omega⟩))
    refine ⟨v, σ', c', τ', us', τs', g0, fun h b n hO => ?_⟩
    refine eM.of RL "act" [(0, .ref b), (1, .int (nI X)), (2, .int (nI Y))] pn_L rfl rfl (Nat.le_of_ble_eq_true rfl) rfl ?_
    refine ev_iload_n dL_act_0 rfl rfl ?_
    refine ev_bipush (v := nI 32) dL_act_1 rfl ?_
    refine ev_idivN dL_act_3 (by omega) (by decide) (by decide) ?_
    refine ev_istore_n dL_act_4 rfl (Nat.le_of_ble_eq_true rfl) ?_
    refine ev_iload_n dL_act_5 rfl rfl ?_
    refine ev_bipush (v := nI 24) dL_act_6 rfl ?_
    refine ev_iremN dL_act_8 (by omega) (by decide) (by decide) ?_
    refine ev_tabN (off := 158) (tgt := 167) dL_act_9 (by rw [z11]; decide) (by rw [z11]; decide) (by rw [z11]; decide) (by rw [z11]; rfl) (by decide) ?_
    exact (act_167 hY (g1 h b n hO)).sub1 ⟨rfl, rfl, rfl, rfl, trivial⟩ rfl
  by_cases z12 : X % 24 = 12
  · obtain ⟨v, σ', c', τ', us', τs', g0, g1⟩ := (show uOk kL_call [.int (nI (Y % 3)), .int (nI 1), .int (nI ((Y / 32) % 5))] σ x ℓ c τ us τs (T + 2) from u_call hV hc hT (by omega) (decide_eq_true ⟨by omega, by omega, by show _ < 26; omega⟩))
    refine ⟨v, σ', c', τ', us', τs', g0, fun h b n hO => ?_⟩
    refine eM.of RL "act" [(0, .ref b), (1, .int (nI X)), (2, .int (nI Y))] pn_L rfl rfl (Nat.le_of_ble_eq_true rfl) rfl ?_
    refine ev_iload_n dL_act_0 rfl rfl ?_
    refine ev_bipush (v := nI 32) dL_act_1 rfl ?_
    refine ev_idivN dL_act_3 (by omega) (by decide) (by decide) ?_
    refine ev_istore_n dL_act_4 rfl (Nat.le_of_ble_eq_true rfl) ?_
    refine ev_iload_n dL_act_5 rfl rfl ?_
    refine ev_bipush (v := nI 24) dL_act_6 rfl ?_
    refine ev_iremN dL_act_8 (by omega) (by decide) (by decide) ?_
    refine ev_tabN (off := 158) (tgt := 167) dL_act_9 (by rw [z12]; decide) (by rw [z12]; decide) (by rw [z12]; decide) (by rw [z12]; rfl) (by decide) ?_
    exact (act_167 hY (g1 h b n hO)).sub1 ⟨rfl, rfl, rfl, rfl, trivial⟩ rfl
  by_cases z13 : X % 24 = 13
  · obtain ⟨v, σ', c', τ', us', τs', g0, g1⟩ := (show uOk kL_call [.int (nI (Y % 3)), .int (nI 1), .int (nI ((Y / 32) % 5))] σ x ℓ c τ us τs (T + 2) from u_call hV hc hT (by omega) (decide_eq_true ⟨by omega, by omega, by show _ < 26; omega⟩))
    refine ⟨v, σ', c', τ', us', τs', g0, fun h b n hO => ?_⟩
    refine eM.of RL "act" [(0, .ref b), (1, .int (nI X)), (2, .int (nI Y))] pn_L rfl rfl (Nat.le_of_ble_eq_true rfl) rfl ?_
    refine ev_iload_n dL_act_0 rfl rfl ?_
    refine ev_bipush (v := nI 32) dL_act_1 rfl ?_
    refine ev_idivN dL_act_3 (by omega) (by decide) (by decide) ?_
    refine ev_istore_n dL_act_4 rfl (Nat.le_of_ble_eq_true rfl) ?_
    refine ev_iload_n dL_act_5 rfl rfl ?_
    refine ev_bipush (v := nI 24) dL_act_6 rfl ?_
    refine ev_iremN dL_act_8 (by omega) (by decide) (by decide) ?_
    refine ev_tabN (off := 158) (tgt := 167) dL_act_9 (by rw [z13]; decide) (by rw [z13]; decide) (by rw [z13]; decide) (by rw [z13]; rfl) (by decide) ?_
    exact (act_167 hY (g1 h b n hO)).sub1 ⟨rfl, rfl, rfl, rfl, trivial⟩ rfl
  by_cases z14 : X % 24 = 14
  · obtain ⟨v, σ', c', τ', us', τs', g0, g1⟩ := (show uOk kL_call [.int (nI (Y % 3)), .int (nI 1), .int (nI ((Y / 32) % 5))] σ x ℓ c τ us τs (T + 2) from u_call hV hc hT (by omega) (decide_eq_true ⟨by omega, by omega, by show _ < 26; omega⟩))
    refine ⟨v, σ', c', τ', us', τs', g0, fun h b n hO => ?_⟩
    refine eM.of RL "act" [(0, .ref b), (1, .int (nI X)), (2, .int (nI Y))] pn_L rfl rfl (Nat.le_of_ble_eq_true rfl) rfl ?_
    refine ev_iload_n dL_act_0 rfl rfl ?_
    refine ev_bipush (v := nI 32) dL_act_1 rfl ?_
    refine ev_idivN dL_act_3 (by omega) (by decide) (by decide) ?_
    refine ev_istore_n dL_act_4 rfl (Nat.le_of_ble_eq_true rfl) ?_
    refine ev_iload_n dL_act_5 rfl rfl ?_
    refine ev_bipush (v := nI 24) dL_act_6 rfl ?_
    refine ev_iremN dL_act_8 (by omega) (by decide) (by decide) ?_
    refine ev_tabN (off := 158) (tgt := 167) dL_act_9 (by rw [z14]; decide) (by rw [z14]; decide) (by rw [z14]; decide) (by rw [z14]; rfl) (by decide) ?_
    exact (act_167 hY (g1 h b n hO)).sub1 ⟨rfl, rfl, rfl, rfl, trivial⟩ rfl
  by_cases z15 : X % 24 = 15
  · obtain ⟨v, σ', c', τ', us', τs', g0, g1⟩ := (show uOk kL_call [.int (nI (Y % 3)), .int (nI 1), .int (nI ((Y / 32) % 5))] σ x ℓ c τ us τs (T + 2) from u_call hV hc hT (by omega) (decide_eq_true ⟨by omega, by omega, by show _ < 26; omega⟩))
    refine ⟨v, σ', c', τ', us', τs', g0, fun h b n hO => ?_⟩
    refine eM.of RL "act" [(0, .ref b), (1, .int (nI X)), (2, .int (nI Y))] pn_L rfl rfl (Nat.le_of_ble_eq_true rfl) rfl ?_
    refine ev_iload_n dL_act_0 rfl rfl ?_
    refine ev_bipush (v := nI 32) dL_act_1 rfl ?_
    refine ev_idivN dL_act_3 (by omega) (by decide) (by decide) ?_
    refine ev_istore_n dL_act_4 rfl (Nat.le_of_ble_eq_true rfl) ?_
    refine ev_iload_n dL_act_5 rfl rfl ?_
    refine ev_bipush (v := nI 24) dL_act_6 rfl ?_
    refine ev_iremN dL_act_8 (by omega) (by decide) (by decide) ?_
    refine ev_tabN (off := 158) (tgt := 167) dL_act_9 (by rw [z15]; decide) (by rw [z15]; decide) (by rw [z15]; decide) (by rw [z15]; rfl) (by decide) ?_
    exact (act_167 hY (g1 h b n hO)).sub1 ⟨rfl, rfl, rfl, rfl, trivial⟩ rfl
  by_cases z16 : X % 24 = 16
  · obtain ⟨v, σ', c', τ', us', τs', g0, g1⟩ := (show uOk kL_sit [.int (nI (Y % 6)), .int (nI ((Y / 32) % 3))] σ x ℓ c τ us τs (T + 2) from u_sit hV hc hT (by omega) (by omega))
    refine ⟨v, σ', c', τ', us', τs', g0, fun h b n hO => ?_⟩
    refine eM.of RL "act" [(0, .ref b), (1, .int (nI X)), (2, .int (nI Y))] pn_L rfl rfl (Nat.le_of_ble_eq_true rfl) rfl ?_
    refine ev_iload_n dL_act_0 rfl rfl ?_
    refine ev_bipush (v := nI 32) dL_act_1 rfl ?_
    refine ev_idivN dL_act_3 (by omega) (by decide) (by decide) ?_
    refine ev_istore_n dL_act_4 rfl (Nat.le_of_ble_eq_true rfl) ?_
    refine ev_iload_n dL_act_5 rfl rfl ?_
    refine ev_bipush (v := nI 24) dL_act_6 rfl ?_
    refine ev_iremN dL_act_8 (by omega) (by decide) (by decide) ?_
    refine ev_tabN (off := 170) (tgt := 179) dL_act_9 (by rw [z16]; decide) (by rw [z16]; decide) (by rw [z16]; decide) (by rw [z16]; rfl) (by decide) ?_
    exact (act_179 hY (g1 h b n hO)).sub1 ⟨rfl, rfl, rfl, rfl, trivial⟩ rfl
  by_cases z17 : X % 24 = 17
  · obtain ⟨v, σ', c', τ', us', τs', g0, g1⟩ := (show uOk kL_set [.int (nI (Y % 3)), .int (nI (1 + (Y / 32) % 6))] σ x ℓ c τ us τs (T + 2) from u_set hV hc (by omega) (by omega))
    refine ⟨v, σ', c', τ', us', τs', g0, fun h b n hO => ?_⟩
    refine eM.of RL "act" [(0, .ref b), (1, .int (nI X)), (2, .int (nI Y))] pn_L rfl rfl (Nat.le_of_ble_eq_true rfl) rfl ?_
    refine ev_iload_n dL_act_0 rfl rfl ?_
    refine ev_bipush (v := nI 32) dL_act_1 rfl ?_
    refine ev_idivN dL_act_3 (by omega) (by decide) (by decide) ?_
    refine ev_istore_n dL_act_4 rfl (Nat.le_of_ble_eq_true rfl) ?_
    refine ev_iload_n dL_act_5 rfl rfl ?_
    refine ev_bipush (v := nI 24) dL_act_6 rfl ?_
    refine ev_iremN dL_act_8 (by omega) (by decide) (by decide) ?_
    refine ev_tabN (off := 182) (tgt := 191) dL_act_9 (by rw [z17]; decide) (by rw [z17]; decide) (by rw [z17]; decide) (by rw [z17]; rfl) (by decide) ?_
    exact (act_191 hY (g1 h b n hO)).sub1 ⟨rfl, rfl, rfl, rfl, trivial⟩ rfl
  by_cases z18 : X % 24 = 18
  · obtain ⟨v, σ', c', τ', us', τs', g0, g1⟩ := (show uOk kL_undo [] σ x ℓ c τ us τs (T + 2) from u_undo hV)
    refine ⟨v, σ', c', τ', us', τs', g0, fun h b n hO => ?_⟩
    refine eM.of RL "act" [(0, .ref b), (1, .int (nI X)), (2, .int (nI Y))] pn_L rfl rfl (Nat.le_of_ble_eq_true rfl) rfl ?_
    refine ev_iload_n dL_act_0 rfl rfl ?_
    refine ev_bipush (v := nI 32) dL_act_1 rfl ?_
    refine ev_idivN dL_act_3 (by omega) (by decide) (by decide) ?_
    refine ev_istore_n dL_act_4 rfl (Nat.le_of_ble_eq_true rfl) ?_
    refine ev_iload_n dL_act_5 rfl rfl ?_
    refine ev_bipush (v := nI 24) dL_act_6 rfl ?_
    refine ev_iremN dL_act_8 (by omega) (by decide) (by decide) ?_
    refine ev_tabN (off := 196) (tgt := 205) dL_act_9 (by rw [z18]; decide) (by rw [z18]; decide) (by rw [z18]; decide) (by rw [z18]; rfl) (by decide) ?_
    exact (act_205 hY (g1 h b n hO)).sub1 ⟨rfl, rfl, rfl, rfl, trivial⟩ rfl
  by_cases z19 : X % 24 = 19
  · obtain ⟨v, σ', c', τ', us', τs', g0, g1⟩ := (show uOk kL_undo [] σ x ℓ c τ us τs (T + 2) from u_undo hV)
    refine ⟨v, σ', c', τ', us', τs', g0, fun h b n hO => ?_⟩
    refine eM.of RL "act" [(0, .ref b), (1, .int (nI X)), (2, .int (nI Y))] pn_L rfl rfl (Nat.le_of_ble_eq_true rfl) rfl ?_
    refine ev_iload_n dL_act_0 rfl rfl ?_
    refine ev_bipush (v := nI 32) dL_act_1 rfl ?_
    refine ev_idivN dL_act_3 (by omega) (by decide) (by decide) ?_
    refine ev_istore_n dL_act_4 rfl (Nat.le_of_ble_eq_true rfl) ?_
    refine ev_iload_n dL_act_5 rfl rfl ?_
    refine ev_bipush (v := nI 24) dL_act_6 rfl ?_
    refine ev_iremN dL_act_8 (by omega) (by decide) (by decide) ?_
    refine ev_tabN (off := 196) (tgt := 205) dL_act_9 (by rw [z19]; decide) (by rw [z19]; decide) (by rw [z19]; decide) (by rw [z19]; rfl) (by decide) ?_
    exact (act_205 hY (g1 h b n hO)).sub1 ⟨rfl, rfl, rfl, rfl, trivial⟩ rfl
  by_cases z20 : X % 24 = 20
  · by_cases hw : Y / 32 % 2 = 0
    · obtain ⟨v, σ', c', τ', us', τs', g0, g1⟩ := (show uOk kL_save [.int (nI (Y / 32 / 2 % 2))] σ x ℓ c τ us τs (T + 2) from u_save hV (by omega))
      refine ⟨v, σ', c', τ', us', τs', g0, fun h b n hO => ?_⟩
      refine eM.of RL "act" [(0, .ref b), (1, .int (nI X)), (2, .int (nI Y))] pn_L rfl rfl (Nat.le_of_ble_eq_true rfl) rfl ?_
      refine ev_iload_n dL_act_0 rfl rfl ?_
      refine ev_bipush (v := nI 32) dL_act_1 rfl ?_
      refine ev_idivN dL_act_3 (by omega) (by decide) (by decide) ?_
      refine ev_istore_n dL_act_4 rfl (Nat.le_of_ble_eq_true rfl) ?_
      refine ev_iload_n dL_act_5 rfl rfl ?_
      refine ev_bipush (v := nI 24) dL_act_6 rfl ?_
      refine ev_iremN dL_act_8 (by omega) (by decide) (by decide) ?_
      refine ev_tabN (off := 201) (tgt := 210) dL_act_9 (by rw [z20]; decide) (by rw [z20]; decide) (by rw [z20]; decide) (by rw [z20]; rfl) (by decide) ?_
      exact (act_210_save hY hw (g1 h b n hO)).sub1 ⟨rfl, rfl, rfl, rfl, trivial⟩ rfl
    · obtain ⟨v, σ', c', τ', us', τs', g0, g1⟩ := (show uOk kL_restore [.int (nI (Y / 32 / 2 % 2))] σ x ℓ c τ us τs (T + 2) from u_restore hV (by omega))
      refine ⟨v, σ', c', τ', us', τs', g0, fun h b n hO => ?_⟩
      refine eM.of RL "act" [(0, .ref b), (1, .int (nI X)), (2, .int (nI Y))] pn_L rfl rfl (Nat.le_of_ble_eq_true rfl) rfl ?_
      refine ev_iload_n dL_act_0 rfl rfl ?_
      refine ev_bipush (v := nI 32) dL_act_1 rfl ?_
      refine ev_idivN dL_act_3 (by omega) (by decide) (by decide) ?_
      refine ev_istore_n dL_act_4 rfl (Nat.le_of_ble_eq_true rfl) ?_
      refine ev_iload_n dL_act_5 rfl rfl ?_
      refine ev_bipush (v := nI 24) dL_act_6 rfl ?_
      refine ev_iremN dL_act_8 (by omega) (by decide) (by decide) ?_
      refine ev_tabN (off := 201) (tgt := 210) dL_act_9 (by rw [z20]; decide) (by rw [z20]; decide) (by rw [z20]; decide) (by rw [z20]; rfl) (by decide) ?_
      exact (act_210_restore hY hw (g1 h b n hO)).sub1 ⟨rfl, rfl, rfl, rfl, trivial⟩ rfl
  omega
