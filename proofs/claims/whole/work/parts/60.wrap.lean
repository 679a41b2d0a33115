def eOut (o : Nat) (F : Nat → Int64) (v : Int32) (P : eH → Prop) : eH → Prop := fun g' => ∃ g, P g ∧ g' = eU g o (.inl (4, 1, .inr (.inl (vp_updL F (nI 0).toNatClampNeg v.toInt64))))
set_option maxHeartbeats 1000000 in
theorem w_append {h : eH} {n b o : Nat} {fs : List Value} {F : Nat → Int64} {P : eH → Prop} {x1 : Int32} {v : Int32} (hb : h b = some (.inr (7, fs))) (hc : kX10_append [.ref b, .int x1] h n (.inl (some (.int v)), P, some n) 0 0) (hP : ∀ g, P g → g o = some (.inl (4, 1, .inr (.inl F)))) : kL_append [.ref b, .int x1, .ref o] h n (.inl (some (.int (nI 0))), eOut o F v P, some n) 0 0 := by
  refine eM.ofH RL "append" [(0, .ref b), (1, .int x1), (2, .ref o)] pn_L rfl rfl (Nat.le_of_ble_eq_true rfl) rfl ?_
  refine ev_aload_n dL_append_0 rfl rfl ?_
  refine ev_iconst (v := nI 0) dL_append_1 rfl ?_
  refine ev_aload_n dL_append_2 rfl rfl ?_
  refine ev_iload_n dL_append_3 rfl rfl ?_
  refine ev_callVi dL_append_4 hc rfl lk_L_7 hb ⟨Nat.le_of_ble_eq_true rfl, Nat.le_of_ble_eq_true rfl⟩ rfl (Nat.le_of_ble_eq_true rfl) ⟨by show 0 + _ ≤ _; omega, by show 0 + _ ≤ _; omega⟩ (fun g hg => ?_)
  refine ev_i2l dL_append_7 rfl ?_
  refine ev_lastore dL_append_8 (hP g hg) (by unfold vp_in; decide) ?_
  refine ev_goto (tgt := 18) dL_append_9 (by decide) ?_
  refine ev_iconst (v := nI 0) dL_append_18 rfl ?_
  exact ev_iret dL_append_19 rfl rfl rfl ⟨g, hg, rfl⟩ (fun _ e => Option.some.inj e) (by omega) (by omega)
set_option maxHeartbeats 1000000 in
theorem w_append_1 {h : eH} {n b o : Nat} {fs : List Value} {P : eH → Prop} {x1 : Int32} (hb : h b = some (.inr (7, fs))) (hc : kX10_append [.ref b, .int x1] h n (.inr "java/lang/IllegalArgumentException", P, none) 1 6) : kL_append [.ref b, .int x1, .ref o] h n (.inl (some (.int (nI 1))), P, none) 1 6 := by
  refine eM.ofH RL "append" [(0, .ref b), (1, .int x1), (2, .ref o)] pn_L rfl rfl (Nat.le_of_ble_eq_true rfl) rfl ?_
  refine ev_aload_n dL_append_0 rfl rfl ?_
  refine ev_iconst (v := nI 0) dL_append_1 rfl ?_
  refine ev_aload_n dL_append_2 rfl rfl ?_
  refine ev_iload_n dL_append_3 rfl rfl ?_
  refine ev_callVc dL_append_4 hc rfl lk_L_7 hb ⟨Nat.le_of_ble_eq_true rfl, Nat.le_of_ble_eq_true rfl⟩ rfl (Nat.le_of_ble_eq_true rfl) ⟨by show 0 + _ ≤ _; omega, by show 0 + _ ≤ _; omega⟩ [] ⟨0, 9, 12, 13⟩ [⟨0, 9, 15, 15⟩] rfl (fun z hz => absurd hz List.not_mem_nil) (by decide) (by decide) wk_L_13 wp_IllegalArgumentException (fun q n9 g hg => ?_)
  refine ev_astore_n dL_append_12 rfl (Nat.le_of_ble_eq_true rfl) ?_
  refine ev_iconst (v := nI 1) dL_append_13 rfl ?_
  exact ev_iret dL_append_14 rfl rfl rfl hg (fun _ e => nomatch e) (by omega) (by omega)
set_option maxHeartbeats 1000000 in
theorem w_append_2 {h : eH} {n b o : Nat} {fs : List Value} {P : eH → Prop} {x1 : Int32} (hb : h b = some (.inr (7, fs))) (hc : kX10_append [.ref b, .int x1] h n (.inr "java/lang/IllegalStateException", P, none) 1 6) : kL_append [.ref b, .int x1, .ref o] h n (.inl (some (.int (nI 2))), P, none) 1 6 := by
  refine eM.ofH RL "append" [(0, .ref b), (1, .int x1), (2, .ref o)] pn_L rfl rfl (Nat.le_of_ble_eq_true rfl) rfl ?_
  refine ev_aload_n dL_append_0 rfl rfl ?_
  refine ev_iconst (v := nI 0) dL_append_1 rfl ?_
  refine ev_aload_n dL_append_2 rfl rfl ?_
  refine ev_iload_n dL_append_3 rfl rfl ?_
  refine ev_callVc dL_append_4 hc rfl lk_L_7 hb ⟨Nat.le_of_ble_eq_true rfl, Nat.le_of_ble_eq_true rfl⟩ rfl (Nat.le_of_ble_eq_true rfl) ⟨by show 0 + _ ≤ _; omega, by show 0 + _ ≤ _; omega⟩ [⟨0, 9, 12, 13⟩] ⟨0, 9, 15, 15⟩ [] rfl (fun z hz => by
    simp only [List.mem_cons, List.not_mem_nil, or_false] at hz
    rcases hz with rfl
    · exact Or.inr ⟨by decide, _, wk_L_13, by decide⟩) (by decide) (by decide) wk_L_15 wp_IllegalStateException (fun q n9 g hg => ?_)
  refine ev_astore_n dL_append_15 rfl (Nat.le_of_ble_eq_true rfl) ?_
  refine ev_iconst (v := nI 2) dL_append_16 rfl ?_
  exact ev_iret dL_append_17 rfl rfl rfl hg (fun _ e => nomatch e) (by omega) (by omega)
set_option maxHeartbeats 1000000 in
theorem w_load {h : eH} {n b o : Nat} {fs : List Value} {F : Nat → Int64} {P : eH → Prop}  {v : Int32} (hb : h b = some (.inr (7, fs))) (hc : kX10_load [.ref b] h n (.inl (some (.int v)), P, some n) 0 0) (hP : ∀ g, P g → g o = some (.inl (4, 1, .inr (.inl F)))) : kL_load [.ref b, .ref o] h n (.inl (some (.int (nI 0))), eOut o F v P, some n) 0 0 := by
  refine eM.ofH RL "load" [(0, .ref b), (1, .ref o)] pn_L rfl rfl (Nat.le_of_ble_eq_true rfl) rfl ?_
  refine ev_aload_n dL_load_0 rfl rfl ?_
  refine ev_iconst (v := nI 0) dL_load_1 rfl ?_
  refine ev_aload_n dL_load_2 rfl rfl ?_
  refine ev_callVi dL_load_3 hc rfl lk_L_17 hb ⟨Nat.le_of_ble_eq_true rfl, Nat.le_of_ble_eq_true rfl⟩ rfl (Nat.le_of_ble_eq_true rfl) ⟨by show 0 + _ ≤ _; omega, by show 0 + _ ≤ _; omega⟩ (fun g hg => ?_)
  refine ev_i2l dL_load_6 rfl ?_
  refine ev_lastore dL_load_7 (hP g hg) (by unfold vp_in; decide) ?_
  refine ev_goto (tgt := 14) dL_load_8 (by decide) ?_
  refine ev_iconst (v := nI 0) dL_load_14 rfl ?_
  exact ev_iret dL_load_15 rfl rfl rfl ⟨g, hg, rfl⟩ (fun _ e => Option.some.inj e) (by omega) (by omega)
set_option maxHeartbeats 1000000 in
theorem w_load_1 {h : eH} {n b o : Nat} {fs : List Value} {P : eH → Prop}  (hb : h b = some (.inr (7, fs))) (hc : kX10_load [.ref b] h n (.inr "java/lang/IllegalStateException", P, none) 1 6) : kL_load [.ref b, .ref o] h n (.inl (some (.int (nI 1))), P, none) 1 6 := by
  refine eM.ofH RL "load" [(0, .ref b), (1, .ref o)] pn_L rfl rfl (Nat.le_of_ble_eq_true rfl) rfl ?_
  refine ev_aload_n dL_load_0 rfl rfl ?_
  refine ev_iconst (v := nI 0) dL_load_1 rfl ?_
  refine ev_aload_n dL_load_2 rfl rfl ?_
  refine ev_callVc dL_load_3 hc rfl lk_L_17 hb ⟨Nat.le_of_ble_eq_true rfl, Nat.le_of_ble_eq_true rfl⟩ rfl (Nat.le_of_ble_eq_true rfl) ⟨by show 0 + _ ≤ _; omega, by show 0 + _ ≤ _; omega⟩ [] ⟨0, 8, 11, 15⟩ [] rfl (fun z hz => absurd hz List.not_mem_nil) (by decide) (by decide) wk_L_15 wp_IllegalStateException (fun q n9 g hg => ?_)
  refine ev_astore_n dL_load_11 rfl (Nat.le_of_ble_eq_true rfl) ?_
  refine ev_iconst (v := nI 1) dL_load_12 rfl ?_
  exact ev_iret dL_load_13 rfl rfl rfl hg (fun _ e => nomatch e) (by omega) (by omega)
set_option maxHeartbeats 1000000 in
theorem w_about {h : eH} {n b o : Nat} {fs : List Value} {F : Nat → Int64} {P : eH → Prop} {x1 : Int32} {v : Int32} (hb : h b = some (.inr (7, fs))) (hc : kX10_about [.ref b, .int x1] h n (.inl (some (.int v)), P, some n) 0 0) (hP : ∀ g, P g → g o = some (.inl (4, 1, .inr (.inl F)))) : kL_about [.ref b, .int x1, .ref o] h n (.inl (some (.int (nI 0))), eOut o F v P, some n) 0 0 := by
  refine eM.ofH RL "about" [(0, .ref b), (1, .int x1), (2, .ref o)] pn_L rfl rfl (Nat.le_of_ble_eq_true rfl) rfl ?_
  refine ev_aload_n dL_about_0 rfl rfl ?_
  refine ev_iconst (v := nI 0) dL_about_1 rfl ?_
  refine ev_aload_n dL_about_2 rfl rfl ?_
  refine ev_iload_n dL_about_3 rfl rfl ?_
  refine ev_callVi dL_about_4 hc rfl lk_L_21 hb ⟨Nat.le_of_ble_eq_true rfl, Nat.le_of_ble_eq_true rfl⟩ rfl (Nat.le_of_ble_eq_true rfl) ⟨by show 0 + _ ≤ _; omega, by show 0 + _ ≤ _; omega⟩ (fun g hg => ?_)
  refine ev_i2l dL_about_7 rfl ?_
  refine ev_lastore dL_about_8 (hP g hg) (by unfold vp_in; decide) ?_
  refine ev_goto (tgt := 15) dL_about_9 (by decide) ?_
  refine ev_iconst (v := nI 0) dL_about_15 rfl ?_
  exact ev_iret dL_about_16 rfl rfl rfl ⟨g, hg, rfl⟩ (fun _ e => Option.some.inj e) (by omega) (by omega)
set_option maxHeartbeats 1000000 in
theorem w_about_1 {h : eH} {n b o : Nat} {fs : List Value} {P : eH → Prop} {x1 : Int32} (hb : h b = some (.inr (7, fs))) (hc : kX10_about [.ref b, .int x1] h n (.inr "java/lang/IllegalArgumentException", P, none) 1 6) : kL_about [.ref b, .int x1, .ref o] h n (.inl (some (.int (nI 1))), P, none) 1 6 := by
  refine eM.ofH RL "about" [(0, .ref b), (1, .int x1), (2, .ref o)] pn_L rfl rfl (Nat.le_of_ble_eq_true rfl) rfl ?_
  refine ev_aload_n dL_about_0 rfl rfl ?_
  refine ev_iconst (v := nI 0) dL_about_1 rfl ?_
  refine ev_aload_n dL_about_2 rfl rfl ?_
  refine ev_iload_n dL_about_3 rfl rfl ?_
  refine ev_callVc dL_about_4 hc rfl lk_L_21 hb ⟨Nat.le_of_ble_eq_true rfl, Nat.le_of_ble_eq_true rfl⟩ rfl (Nat.le_of_ble_eq_true rfl) ⟨by show 0 + _ ≤ _; omega, by show 0 + _ ≤ _; omega⟩ [] ⟨0, 9, 12, 13⟩ [] rfl (fun z hz => absurd hz List.not_mem_nil) (by decide) (by decide) wk_L_13 wp_IllegalArgumentException (fun q n9 g hg => ?_)
  refine ev_astore_n dL_about_12 rfl (Nat.le_of_ble_eq_true rfl) ?_
  refine ev_iconst (v := nI 1) dL_about_13 rfl ?_
  exact ev_iret dL_about_14 rfl rfl rfl hg (fun _ e => nomatch e) (by omega) (by omega)
set_option maxHeartbeats 1000000 in
theorem w_personOf {h : eH} {n b o : Nat} {fs : List Value} {F : Nat → Int64} {P : eH → Prop} {x1 : Int32} {x2 : Int32} {v : Int32} (hb : h b = some (.inr (7, fs))) (hc : kX10_personOf [.ref b, .int x1, .int x2] h n (.inl (some (.int v)), P, some n) 0 0) (hP : ∀ g, P g → g o = some (.inl (4, 1, .inr (.inl F)))) : kL_personOf [.ref b, .int x1, .int x2, .ref o] h n (.inl (some (.int (nI 0))), eOut o F v P, some n) 0 0 := by
  refine eM.ofH RL "personOf" [(0, .ref b), (1, .int x1), (2, .int x2), (3, .ref o)] pn_L rfl rfl (Nat.le_of_ble_eq_true rfl) rfl ?_
  refine ev_aload_n dL_personOf_0 rfl rfl ?_
  refine ev_iconst (v := nI 0) dL_personOf_1 rfl ?_
  refine ev_aload_n dL_personOf_2 rfl rfl ?_
  refine ev_iload_n dL_personOf_3 rfl rfl ?_
  refine ev_iload_n dL_personOf_4 rfl rfl ?_
  refine ev_callVi dL_personOf_5 hc rfl lk_L_24 hb ⟨Nat.le_of_ble_eq_true rfl, Nat.le_of_ble_eq_true rfl⟩ rfl (Nat.le_of_ble_eq_true rfl) ⟨by show 0 + _ ≤ _; omega, by show 0 + _ ≤ _; omega⟩ (fun g hg => ?_)
  refine ev_i2l dL_personOf_8 rfl ?_
  refine ev_lastore dL_personOf_9 (hP g hg) (by unfold vp_in; decide) ?_
  refine ev_goto (tgt := 21) dL_personOf_10 (by decide) ?_
  refine ev_iconst (v := nI 0) dL_personOf_21 rfl ?_
  exact ev_iret dL_personOf_22 rfl rfl rfl ⟨g, hg, rfl⟩ (fun _ e => Option.some.inj e) (by omega) (by omega)
set_option maxHeartbeats 1000000 in
theorem w_personOf_1 {h : eH} {n b o : Nat} {fs : List Value} {P : eH → Prop} {x1 : Int32} {x2 : Int32} (hb : h b = some (.inr (7, fs))) (hc : kX10_personOf [.ref b, .int x1, .int x2] h n (.inr "java/lang/IndexOutOfBoundsException", P, none) 1 6) : kL_personOf [.ref b, .int x1, .int x2, .ref o] h n (.inl (some (.int (nI 1))), P, none) 1 6 := by
  refine eM.ofH RL "personOf" [(0, .ref b), (1, .int x1), (2, .int x2), (3, .ref o)] pn_L rfl rfl (Nat.le_of_ble_eq_true rfl) rfl ?_
  refine ev_aload_n dL_personOf_0 rfl rfl ?_
  refine ev_iconst (v := nI 0) dL_personOf_1 rfl ?_
  refine ev_aload_n dL_personOf_2 rfl rfl ?_
  refine ev_iload_n dL_personOf_3 rfl rfl ?_
  refine ev_iload_n dL_personOf_4 rfl rfl ?_
  refine ev_callVc dL_personOf_5 hc rfl lk_L_24 hb ⟨Nat.le_of_ble_eq_true rfl, Nat.le_of_ble_eq_true rfl⟩ rfl (Nat.le_of_ble_eq_true rfl) ⟨by show 0 + _ ≤ _; omega, by show 0 + _ ≤ _; omega⟩ [] ⟨0, 10, 13, 28⟩ [⟨0, 10, 17, 13⟩] rfl (fun z hz => absurd hz List.not_mem_nil) (by decide) (by decide) wk_L_28 wp_IndexOutOfBoundsException (fun q n9 g hg => ?_)
  refine ev_astore dL_personOf_13 (Nat.le_of_ble_eq_true rfl) ?_
  refine ev_iconst (v := nI 1) dL_personOf_15 rfl ?_
  exact ev_iret dL_personOf_16 rfl rfl rfl hg (fun _ e => nomatch e) (by omega) (by omega)
set_option maxHeartbeats 1000000 in
theorem w_personOf_2 {h : eH} {n b o : Nat} {fs : List Value} {P : eH → Prop} {x1 : Int32} {x2 : Int32} (hb : h b = some (.inr (7, fs))) (hc : kX10_personOf [.ref b, .int x1, .int x2] h n (.inr "java/lang/IllegalArgumentException", P, none) 1 6) : kL_personOf [.ref b, .int x1, .int x2, .ref o] h n (.inl (some (.int (nI 2))), P, none) 1 6 := by
  refine eM.ofH RL "personOf" [(0, .ref b), (1, .int x1), (2, .int x2), (3, .ref o)] pn_L rfl rfl (Nat.le_of_ble_eq_true rfl) rfl ?_
  refine ev_aload_n dL_personOf_0 rfl rfl ?_
  refine ev_iconst (v := nI 0) dL_personOf_1 rfl ?_
  refine ev_aload_n dL_personOf_2 rfl rfl ?_
  refine ev_iload_n dL_personOf_3 rfl rfl ?_
  refine ev_iload_n dL_personOf_4 rfl rfl ?_
  refine ev_callVc dL_personOf_5 hc rfl lk_L_24 hb ⟨Nat.le_of_ble_eq_true rfl, Nat.le_of_ble_eq_true rfl⟩ rfl (Nat.le_of_ble_eq_true rfl) ⟨by show 0 + _ ≤ _; omega, by show 0 + _ ≤ _; omega⟩ [⟨0, 10, 13, 28⟩] ⟨0, 10, 17, 13⟩ [] rfl (fun z hz => by
    simp only [List.mem_cons, List.not_mem_nil, or_false] at hz
    rcases hz with rfl
    · exact Or.inr ⟨by decide, _, wk_L_28, by decide⟩) (by decide) (by decide) wk_L_13 wp_IllegalArgumentException (fun q n9 g hg => ?_)
  refine ev_astore dL_personOf_17 (Nat.le_of_ble_eq_true rfl) ?_
  refine ev_iconst (v := nI 2) dL_personOf_19 rfl ?_
  exact ev_iret dL_personOf_20 rfl rfl rfl hg (fun _ e => nomatch e) (by omega) (by omega)
set_option maxHeartbeats 1000000 in
theorem w_nameOf {h : eH} {n b o : Nat} {fs : List Value} {F : Nat → Int64} {P : eH → Prop} {x1 : Int32} {x2 : Int32} {v : Int32} (hb : h b = some (.inr (7, fs))) (hc : kX10_nameOf [.ref b, .int x1, .int x2] h n (.inl (some (.int v)), P, some n) 0 0) (hP : ∀ g, P g → g o = some (.inl (4, 1, .inr (.inl F)))) : kL_nameOf [.ref b, .int x1, .int x2, .ref o] h n (.inl (some (.int (nI 0))), eOut o F v P, some n) 0 0 := by
  refine eM.ofH RL "nameOf" [(0, .ref b), (1, .int x1), (2, .int x2), (3, .ref o)] pn_L rfl rfl (Nat.le_of_ble_eq_true rfl) rfl ?_
  refine ev_aload_n dL_nameOf_0 rfl rfl ?_
  refine ev_iconst (v := nI 0) dL_nameOf_1 rfl ?_
  refine ev_aload_n dL_nameOf_2 rfl rfl ?_
  refine ev_iload_n dL_nameOf_3 rfl rfl ?_
  refine ev_iload_n dL_nameOf_4 rfl rfl ?_
  refine ev_callVi dL_nameOf_5 hc rfl lk_L_30 hb ⟨Nat.le_of_ble_eq_true rfl, Nat.le_of_ble_eq_true rfl⟩ rfl (Nat.le_of_ble_eq_true rfl) ⟨by show 0 + _ ≤ _; omega, by show 0 + _ ≤ _; omega⟩ (fun g hg => ?_)
  refine ev_i2l dL_nameOf_8 rfl ?_
  refine ev_lastore dL_nameOf_9 (hP g hg) (by unfold vp_in; decide) ?_
  refine ev_goto (tgt := 21) dL_nameOf_10 (by decide) ?_
  refine ev_iconst (v := nI 0) dL_nameOf_21 rfl ?_
  exact ev_iret dL_nameOf_22 rfl rfl rfl ⟨g, hg, rfl⟩ (fun _ e => Option.some.inj e) (by omega) (by omega)
set_option maxHeartbeats 1000000 in
theorem w_nameOf_1 {h : eH} {n b o : Nat} {fs : List Value} {P : eH → Prop} {x1 : Int32} {x2 : Int32} (hb : h b = some (.inr (7, fs))) (hc : kX10_nameOf [.ref b, .int x1, .int x2] h n (.inr "java/lang/IndexOutOfBoundsException", P, none) 1 6) : kL_nameOf [.ref b, .int x1, .int x2, .ref o] h n (.inl (some (.int (nI 1))), P, none) 1 6 := by
  refine eM.ofH RL "nameOf" [(0, .ref b), (1, .int x1), (2, .int x2), (3, .ref o)] pn_L rfl rfl (Nat.le_of_ble_eq_true rfl) rfl ?_
  refine ev_aload_n dL_nameOf_0 rfl rfl ?_
  refine ev_iconst (v := nI 0) dL_nameOf_1 rfl ?_
  refine ev_aload_n dL_nameOf_2 rfl rfl ?_
  refine ev_iload_n dL_nameOf_3 rfl rfl ?_
  refine ev_iload_n dL_nameOf_4 rfl rfl ?_
  refine ev_callVc dL_nameOf_5 hc rfl lk_L_30 hb ⟨Nat.le_of_ble_eq_true rfl, Nat.le_of_ble_eq_true rfl⟩ rfl (Nat.le_of_ble_eq_true rfl) ⟨by show 0 + _ ≤ _; omega, by show 0 + _ ≤ _; omega⟩ [] ⟨0, 10, 13, 28⟩ [⟨0, 10, 17, 13⟩] rfl (fun z hz => absurd hz List.not_mem_nil) (by decide) (by decide) wk_L_28 wp_IndexOutOfBoundsException (fun q n9 g hg => ?_)
  refine ev_astore dL_nameOf_13 (Nat.le_of_ble_eq_true rfl) ?_
  refine ev_iconst (v := nI 1) dL_nameOf_15 rfl ?_
  exact ev_iret dL_nameOf_16 rfl rfl rfl hg (fun _ e => nomatch e) (by omega) (by omega)
set_option maxHeartbeats 1000000 in
theorem w_nameOf_2 {h : eH} {n b o : Nat} {fs : List Value} {P : eH → Prop} {x1 : Int32} {x2 : Int32} (hb : h b = some (.inr (7, fs))) (hc : kX10_nameOf [.ref b, .int x1, .int x2] h n (.inr "java/lang/IllegalArgumentException", P, none) 1 6) : kL_nameOf [.ref b, .int x1, .int x2, .ref o] h n (.inl (some (.int (nI 2))), P, none) 1 6 := by
  refine eM.ofH RL "nameOf" [(0, .ref b), (1, .int x1), (2, .int x2), (3, .ref o)] pn_L rfl rfl (Nat.le_of_ble_eq_true rfl) rfl ?_
  refine ev_aload_n dL_nameOf_0 rfl rfl ?_
  refine ev_iconst (v := nI 0) dL_nameOf_1 rfl ?_
  refine ev_aload_n dL_nameOf_2 rfl rfl ?_
  refine ev_iload_n dL_nameOf_3 rfl rfl ?_
  refine ev_iload_n dL_nameOf_4 rfl rfl ?_
  refine ev_callVc dL_nameOf_5 hc rfl lk_L_30 hb ⟨Nat.le_of_ble_eq_true rfl, Nat.le_of_ble_eq_true rfl⟩ rfl (Nat.le_of_ble_eq_true rfl) ⟨by show 0 + _ ≤ _; omega, by show 0 + _ ≤ _; omega⟩ [⟨0, 10, 13, 28⟩] ⟨0, 10, 17, 13⟩ [] rfl (fun z hz => by
    simp only [List.mem_cons, List.not_mem_nil, or_false] at hz
    rcases hz with rfl
    · exact Or.inr ⟨by decide, _, wk_L_28, by decide⟩) (by decide) (by decide) wk_L_13 wp_IllegalArgumentException (fun q n9 g hg => ?_)
  refine ev_astore dL_nameOf_17 (Nat.le_of_ble_eq_true rfl) ?_
  refine ev_iconst (v := nI 2) dL_nameOf_19 rfl ?_
  exact ev_iret dL_nameOf_20 rfl rfl rfl hg (fun _ e => nomatch e) (by omega) (by omega)
set_option maxHeartbeats 1000000 in
theorem w_letter {h : eH} {n b o : Nat} {fs : List Value} {F : Nat → Int64} {P : eH → Prop} {x1 : Int32} {x2 : Int32} {v : Int32} (hb : h b = some (.inr (7, fs))) (hc : kX10_letter [.ref b, .int x1, .int x2] h n (.inl (some (.int v)), P, some n) 0 0) (hP : ∀ g, P g → g o = some (.inl (4, 1, .inr (.inl F)))) : kL_letter [.ref b, .int x1, .int x2, .ref o] h n (.inl (some (.int (nI 0))), eOut o F v P, some n) 0 0 := by
  refine eM.ofH RL "letter" [(0, .ref b), (1, .int x1), (2, .int x2), (3, .ref o)] pn_L rfl rfl (Nat.le_of_ble_eq_true rfl) rfl ?_
  refine ev_aload_n dL_letter_0 rfl rfl ?_
  refine ev_iconst (v := nI 0) dL_letter_1 rfl ?_
  refine ev_aload_n dL_letter_2 rfl rfl ?_
  refine ev_iload_n dL_letter_3 rfl rfl ?_
  refine ev_iload_n dL_letter_4 rfl rfl ?_
  refine ev_callVi dL_letter_5 hc rfl lk_L_33 hb ⟨Nat.le_of_ble_eq_true rfl, Nat.le_of_ble_eq_true rfl⟩ rfl (Nat.le_of_ble_eq_true rfl) ⟨by show 0 + _ ≤ _; omega, by show 0 + _ ≤ _; omega⟩ (fun g hg => ?_)
  refine ev_i2l dL_letter_8 rfl ?_
  refine ev_lastore dL_letter_9 (hP g hg) (by unfold vp_in; decide) ?_
  refine ev_goto (tgt := 17) dL_letter_10 (by decide) ?_
  refine ev_iconst (v := nI 0) dL_letter_17 rfl ?_
  exact ev_iret dL_letter_18 rfl rfl rfl ⟨g, hg, rfl⟩ (fun _ e => Option.some.inj e) (by omega) (by omega)
set_option maxHeartbeats 1000000 in
theorem w_letter_1 {h : eH} {n b o : Nat} {fs : List Value} {P : eH → Prop} {x1 : Int32} {x2 : Int32} (hb : h b = some (.inr (7, fs))) (hc : kX10_letter [.ref b, .int x1, .int x2] h n (.inr "java/lang/IndexOutOfBoundsException", P, none) 1 6) : kL_letter [.ref b, .int x1, .int x2, .ref o] h n (.inl (some (.int (nI 1))), P, none) 1 6 := by
  refine eM.ofH RL "letter" [(0, .ref b), (1, .int x1), (2, .int x2), (3, .ref o)] pn_L rfl rfl (Nat.le_of_ble_eq_true rfl) rfl ?_
  refine ev_aload_n dL_letter_0 rfl rfl ?_
  refine ev_iconst (v := nI 0) dL_letter_1 rfl ?_
  refine ev_aload_n dL_letter_2 rfl rfl ?_
  refine ev_iload_n dL_letter_3 rfl rfl ?_
  refine ev_iload_n dL_letter_4 rfl rfl ?_
  refine ev_callVc dL_letter_5 hc rfl lk_L_33 hb ⟨Nat.le_of_ble_eq_true rfl, Nat.le_of_ble_eq_true rfl⟩ rfl (Nat.le_of_ble_eq_true rfl) ⟨by show 0 + _ ≤ _; omega, by show 0 + _ ≤ _; omega⟩ [] ⟨0, 10, 13, 28⟩ [] rfl (fun z hz => absurd hz List.not_mem_nil) (by decide) (by decide) wk_L_28 wp_IndexOutOfBoundsException (fun q n9 g hg => ?_)
  refine ev_astore dL_letter_13 (Nat.le_of_ble_eq_true rfl) ?_
  refine ev_iconst (v := nI 1) dL_letter_15 rfl ?_
  exact ev_iret dL_letter_16 rfl rfl rfl hg (fun _ e => nomatch e) (by omega) (by omega)
set_option maxHeartbeats 1000000 in
theorem w_roll {h : eH} {n b o : Nat} {fs : List Value} {F : Nat → Int64} {P : eH → Prop} {x1 : Int32} {v : Int32} (hb : h b = some (.inr (7, fs))) (hc : kX10_roll [.ref b, .int x1] h n (.inl (some (.int v)), P, some n) 0 0) (hP : ∀ g, P g → g o = some (.inl (4, 1, .inr (.inl F)))) : kL_roll [.ref b, .int x1, .ref o] h n (.inl (some (.int (nI 0))), eOut o F v P, some n) 0 0 := by
  refine eM.ofH RL "roll" [(0, .ref b), (1, .int x1), (2, .ref o)] pn_L rfl rfl (Nat.le_of_ble_eq_true rfl) rfl ?_
  refine ev_aload_n dL_roll_0 rfl rfl ?_
  refine ev_iconst (v := nI 0) dL_roll_1 rfl ?_
  refine ev_aload_n dL_roll_2 rfl rfl ?_
  refine ev_iload_n dL_roll_3 rfl rfl ?_
  refine ev_callVi dL_roll_4 hc rfl lk_L_36 hb ⟨Nat.le_of_ble_eq_true rfl, Nat.le_of_ble_eq_true rfl⟩ rfl (Nat.le_of_ble_eq_true rfl) ⟨by show 0 + _ ≤ _; omega, by show 0 + _ ≤ _; omega⟩ (fun g hg => ?_)
  refine ev_i2l dL_roll_7 rfl ?_
  refine ev_lastore dL_roll_8 (hP g hg) (by unfold vp_in; decide) ?_
  refine ev_goto (tgt := 15) dL_roll_9 (by decide) ?_
  refine ev_iconst (v := nI 0) dL_roll_15 rfl ?_
  exact ev_iret dL_roll_16 rfl rfl rfl ⟨g, hg, rfl⟩ (fun _ e => Option.some.inj e) (by omega) (by omega)
set_option maxHeartbeats 1000000 in
theorem w_roll_1 {h : eH} {n b o : Nat} {fs : List Value} {P : eH → Prop} {x1 : Int32} (hb : h b = some (.inr (7, fs))) (hc : kX10_roll [.ref b, .int x1] h n (.inr "java/lang/IllegalArgumentException", P, none) 1 6) : kL_roll [.ref b, .int x1, .ref o] h n (.inl (some (.int (nI 1))), P, none) 1 6 := by
  refine eM.ofH RL "roll" [(0, .ref b), (1, .int x1), (2, .ref o)] pn_L rfl rfl (Nat.le_of_ble_eq_true rfl) rfl ?_
  refine ev_aload_n dL_roll_0 rfl rfl ?_
  refine ev_iconst (v := nI 0) dL_roll_1 rfl ?_
  refine ev_aload_n dL_roll_2 rfl rfl ?_
  refine ev_iload_n dL_roll_3 rfl rfl ?_
  refine ev_callVc dL_roll_4 hc rfl lk_L_36 hb ⟨Nat.le_of_ble_eq_true rfl, Nat.le_of_ble_eq_true rfl⟩ rfl (Nat.le_of_ble_eq_true rfl) ⟨by show 0 + _ ≤ _; omega, by show 0 + _ ≤ _; omega⟩ [] ⟨0, 9, 12, 13⟩ [] rfl (fun z hz => absurd hz List.not_mem_nil) (by decide) (by decide) wk_L_13 wp_IllegalArgumentException (fun q n9 g hg => ?_)
  refine ev_astore_n dL_roll_12 rfl (Nat.le_of_ble_eq_true rfl) ?_
  refine ev_iconst (v := nI 1) dL_roll_13 rfl ?_
  exact ev_iret dL_roll_14 rfl rfl rfl hg (fun _ e => nomatch e) (by omega) (by omega)
set_option maxHeartbeats 1000000 in
theorem w_meant {h : eH} {n b o : Nat} {fs : List Value} {F : Nat → Int64} {P : eH → Prop} {x1 : Int32} {x2 : Int32} {x3 : Int32} {x4 : Int32} {v : Int32} (hb : h b = some (.inr (7, fs))) (hc : kX10_meant [.ref b, .int x1, .int x2, .int x3, .int x4] h n (.inl (some (.int v)), P, some n) 0 0) (hP : ∀ g, P g → g o = some (.inl (4, 1, .inr (.inl F)))) : kL_meant [.ref b, .int x1, .int x2, .int x3, .int x4, .ref o] h n (.inl (some (.int (nI 0))), eOut o F v P, some n) 0 0 := by
  refine eM.ofH RL "meant" [(0, .ref b), (1, .int x1), (2, .int x2), (3, .int x3), (4, .int x4), (5, .ref o)] pn_L rfl rfl (Nat.le_of_ble_eq_true rfl) rfl ?_
  refine ev_aload dL_meant_0 rfl ?_
  refine ev_iconst (v := nI 0) dL_meant_2 rfl ?_
  refine ev_aload_n dL_meant_3 rfl rfl ?_
  refine ev_iload_n dL_meant_4 rfl rfl ?_
  refine ev_iload_n dL_meant_5 rfl rfl ?_
  refine ev_iload_n dL_meant_6 rfl rfl ?_
  refine ev_iload dL_meant_7 rfl ?_
  refine ev_callVi dL_meant_9 hc rfl lk_L_39 hb ⟨Nat.le_of_ble_eq_true rfl, Nat.le_of_ble_eq_true rfl⟩ rfl (Nat.le_of_ble_eq_true rfl) ⟨by show 0 + _ ≤ _; omega, by show 0 + _ ≤ _; omega⟩ (fun g hg => ?_)
  refine ev_i2l dL_meant_12 rfl ?_
  refine ev_lastore dL_meant_13 (hP g hg) (by unfold vp_in; decide) ?_
  refine ev_goto (tgt := 25) dL_meant_14 (by decide) ?_
  refine ev_iconst (v := nI 0) dL_meant_25 rfl ?_
  exact ev_iret dL_meant_26 rfl rfl rfl ⟨g, hg, rfl⟩ (fun _ e => Option.some.inj e) (by omega) (by omega)
set_option maxHeartbeats 1000000 in
theorem w_meant_1 {h : eH} {n b o : Nat} {fs : List Value} {P : eH → Prop} {x1 : Int32} {x2 : Int32} {x3 : Int32} {x4 : Int32} (hb : h b = some (.inr (7, fs))) (hc : kX10_meant [.ref b, .int x1, .int x2, .int x3, .int x4] h n (.inr "java/lang/IndexOutOfBoundsException", P, none) 1 6) : kL_meant [.ref b, .int x1, .int x2, .int x3, .int x4, .ref o] h n (.inl (some (.int (nI 1))), P, none) 1 6 := by
  refine eM.ofH RL "meant" [(0, .ref b), (1, .int x1), (2, .int x2), (3, .int x3), (4, .int x4), (5, .ref o)] pn_L rfl rfl (Nat.le_of_ble_eq_true rfl) rfl ?_
  refine ev_aload dL_meant_0 rfl ?_
  refine ev_iconst (v := nI 0) dL_meant_2 rfl ?_
  refine ev_aload_n dL_meant_3 rfl rfl ?_
  refine ev_iload_n dL_meant_4 rfl rfl ?_
  refine ev_iload_n dL_meant_5 rfl rfl ?_
  refine ev_iload_n dL_meant_6 rfl rfl ?_
  refine ev_iload dL_meant_7 rfl ?_
  refine ev_callVc dL_meant_9 hc rfl lk_L_39 hb ⟨Nat.le_of_ble_eq_true rfl, Nat.le_of_ble_eq_true rfl⟩ rfl (Nat.le_of_ble_eq_true rfl) ⟨by show 0 + _ ≤ _; omega, by show 0 + _ ≤ _; omega⟩ [] ⟨0, 14, 17, 28⟩ [⟨0, 14, 21, 13⟩] rfl (fun z hz => absurd hz List.not_mem_nil) (by decide) (by decide) wk_L_28 wp_IndexOutOfBoundsException (fun q n9 g hg => ?_)
  refine ev_astore dL_meant_17 (Nat.le_of_ble_eq_true rfl) ?_
  refine ev_iconst (v := nI 1) dL_meant_19 rfl ?_
  exact ev_iret dL_meant_20 rfl rfl rfl hg (fun _ e => nomatch e) (by omega) (by omega)
set_option maxHeartbeats 1000000 in
theorem w_meant_2 {h : eH} {n b o : Nat} {fs : List Value} {P : eH → Prop} {x1 : Int32} {x2 : Int32} {x3 : Int32} {x4 : Int32} (hb : h b = some (.inr (7, fs))) (hc : kX10_meant [.ref b, .int x1, .int x2, .int x3, .int x4] h n (.inr "java/lang/IllegalArgumentException", P, none) 1 6) : kL_meant [.ref b, .int x1, .int x2, .int x3, .int x4, .ref o] h n (.inl (some (.int (nI 2))), P, none) 1 6 := by
  refine eM.ofH RL "meant" [(0, .ref b), (1, .int x1), (2, .int x2), (3, .int x3), (4, .int x4), (5, .ref o)] pn_L rfl rfl (Nat.le_of_ble_eq_true rfl) rfl ?_
  refine ev_aload dL_meant_0 rfl ?_
  refine ev_iconst (v := nI 0) dL_meant_2 rfl ?_
  refine ev_aload_n dL_meant_3 rfl rfl ?_
  refine ev_iload_n dL_meant_4 rfl rfl ?_
  refine ev_iload_n dL_meant_5 rfl rfl ?_
  refine ev_iload_n dL_meant_6 rfl rfl ?_
  refine ev_iload dL_meant_7 rfl ?_
  refine ev_callVc dL_meant_9 hc rfl lk_L_39 hb ⟨Nat.le_of_ble_eq_true rfl, Nat.le_of_ble_eq_true rfl⟩ rfl (Nat.le_of_ble_eq_true rfl) ⟨by show 0 + _ ≤ _; omega, by show 0 + _ ≤ _; omega⟩ [⟨0, 14, 17, 28⟩] ⟨0, 14, 21, 13⟩ [] rfl (fun z hz => by
    simp only [List.mem_cons, List.not_mem_nil, or_false] at hz
    rcases hz with rfl
    · exact Or.inr ⟨by decide, _, wk_L_28, by decide⟩) (by decide) (by decide) wk_L_13 wp_IllegalArgumentException (fun q n9 g hg => ?_)
  refine ev_astore dL_meant_21 (Nat.le_of_ble_eq_true rfl) ?_
  refine ev_iconst (v := nI 2) dL_meant_23 rfl ?_
  exact ev_iret dL_meant_24 rfl rfl rfl hg (fun _ e => nomatch e) (by omega) (by omega)
set_option maxHeartbeats 1000000 in
theorem w_person {h : eH} {n b o : Nat} {fs : List Value} {F : Nat → Int64} {P : eH → Prop} {x1 : Int32} {x2 : Int32} {x3 : Int32} {v : Int32} (hb : h b = some (.inr (7, fs))) (hc : kX10_person [.ref b, .int x1, .int x2, .int x3] h n (.inl (some (.int v)), P, some n) 0 0) (hP : ∀ g, P g → g o = some (.inl (4, 1, .inr (.inl F)))) : kL_person [.ref b, .int x1, .int x2, .int x3, .ref o] h n (.inl (some (.int (nI 0))), eOut o F v P, some n) 0 0 := by
  refine eM.ofH RL "person" [(0, .ref b), (1, .int x1), (2, .int x2), (3, .int x3), (4, .ref o)] pn_L rfl rfl (Nat.le_of_ble_eq_true rfl) rfl ?_
  refine ev_aload dL_person_0 rfl ?_
  refine ev_iconst (v := nI 0) dL_person_2 rfl ?_
  refine ev_aload_n dL_person_3 rfl rfl ?_
  refine ev_iload_n dL_person_4 rfl rfl ?_
  refine ev_iload_n dL_person_5 rfl rfl ?_
  refine ev_iload_n dL_person_6 rfl rfl ?_
  refine ev_callVi dL_person_7 hc rfl lk_L_43 hb ⟨Nat.le_of_ble_eq_true rfl, Nat.le_of_ble_eq_true rfl⟩ rfl (Nat.le_of_ble_eq_true rfl) ⟨by show 0 + _ ≤ _; omega, by show 0 + _ ≤ _; omega⟩ (fun g hg => ?_)
  refine ev_i2l dL_person_10 rfl ?_
  refine ev_lastore dL_person_11 (hP g hg) (by unfold vp_in; decide) ?_
  refine ev_goto (tgt := 27) dL_person_12 (by decide) ?_
  refine ev_iconst (v := nI 0) dL_person_27 rfl ?_
  exact ev_iret dL_person_28 rfl rfl rfl ⟨g, hg, rfl⟩ (fun _ e => Option.some.inj e) (by omega) (by omega)
set_option maxHeartbeats 1000000 in
theorem w_person_1 {h : eH} {n b o : Nat} {fs : List Value} {P : eH → Prop} {x1 : Int32} {x2 : Int32} {x3 : Int32} (hb : h b = some (.inr (7, fs))) (hc : kX10_person [.ref b, .int x1, .int x2, .int x3] h n (.inr "java/lang/IndexOutOfBoundsException", P, none) 1 6) : kL_person [.ref b, .int x1, .int x2, .int x3, .ref o] h n (.inl (some (.int (nI 1))), P, none) 1 6 := by
  refine eM.ofH RL "person" [(0, .ref b), (1, .int x1), (2, .int x2), (3, .int x3), (4, .ref o)] pn_L rfl rfl (Nat.le_of_ble_eq_true rfl) rfl ?_
  refine ev_aload dL_person_0 rfl ?_
  refine ev_iconst (v := nI 0) dL_person_2 rfl ?_
  refine ev_aload_n dL_person_3 rfl rfl ?_
  refine ev_iload_n dL_person_4 rfl rfl ?_
  refine ev_iload_n dL_person_5 rfl rfl ?_
  refine ev_iload_n dL_person_6 rfl rfl ?_
  refine ev_callVc dL_person_7 hc rfl lk_L_43 hb ⟨Nat.le_of_ble_eq_true rfl, Nat.le_of_ble_eq_true rfl⟩ rfl (Nat.le_of_ble_eq_true rfl) ⟨by show 0 + _ ≤ _; omega, by show 0 + _ ≤ _; omega⟩ [] ⟨0, 12, 15, 28⟩ [⟨0, 12, 19, 13⟩, ⟨0, 12, 23, 15⟩] rfl (fun z hz => absurd hz List.not_mem_nil) (by decide) (by decide) wk_L_28 wp_IndexOutOfBoundsException (fun q n9 g hg => ?_)
  refine ev_astore dL_person_15 (Nat.le_of_ble_eq_true rfl) ?_
  refine ev_iconst (v := nI 1) dL_person_17 rfl ?_
  exact ev_iret dL_person_18 rfl rfl rfl hg (fun _ e => nomatch e) (by omega) (by omega)
set_option maxHeartbeats 1000000 in
theorem w_person_2 {h : eH} {n b o : Nat} {fs : List Value} {P : eH → Prop} {x1 : Int32} {x2 : Int32} {x3 : Int32} (hb : h b = some (.inr (7, fs))) (hc : kX10_person [.ref b, .int x1, .int x2, .int x3] h n (.inr "java/lang/IllegalArgumentException", P, none) 1 6) : kL_person [.ref b, .int x1, .int x2, .int x3, .ref o] h n (.inl (some (.int (nI 2))), P, none) 1 6 := by
  refine eM.ofH RL "person" [(0, .ref b), (1, .int x1), (2, .int x2), (3, .int x3), (4, .ref o)] pn_L rfl rfl (Nat.le_of_ble_eq_true rfl) rfl ?_
  refine ev_aload dL_person_0 rfl ?_
  refine ev_iconst (v := nI 0) dL_person_2 rfl ?_
  refine ev_aload_n dL_person_3 rfl rfl ?_
  refine ev_iload_n dL_person_4 rfl rfl ?_
  refine ev_iload_n dL_person_5 rfl rfl ?_
  refine ev_iload_n dL_person_6 rfl rfl ?_
  refine ev_callVc dL_person_7 hc rfl lk_L_43 hb ⟨Nat.le_of_ble_eq_true rfl, Nat.le_of_ble_eq_true rfl⟩ rfl (Nat.le_of_ble_eq_true rfl) ⟨by show 0 + _ ≤ _; omega, by show 0 + _ ≤ _; omega⟩ [⟨0, 12, 15, 28⟩] ⟨0, 12, 19, 13⟩ [⟨0, 12, 23, 15⟩] rfl (fun z hz => by
    simp only [List.mem_cons, List.not_mem_nil, or_false] at hz
    rcases hz with rfl
    · exact Or.inr ⟨by decide, _, wk_L_28, by decide⟩) (by decide) (by decide) wk_L_13 wp_IllegalArgumentException (fun q n9 g hg => ?_)
  refine ev_astore dL_person_19 (Nat.le_of_ble_eq_true rfl) ?_
  refine ev_iconst (v := nI 2) dL_person_21 rfl ?_
  exact ev_iret dL_person_22 rfl rfl rfl hg (fun _ e => nomatch e) (by omega) (by omega)
set_option maxHeartbeats 1000000 in
theorem w_person_3 {h : eH} {n b o : Nat} {fs : List Value} {P : eH → Prop} {x1 : Int32} {x2 : Int32} {x3 : Int32} (hb : h b = some (.inr (7, fs))) (hc : kX10_person [.ref b, .int x1, .int x2, .int x3] h n (.inr "java/lang/IllegalStateException", P, none) 1 6) : kL_person [.ref b, .int x1, .int x2, .int x3, .ref o] h n (.inl (some (.int (nI 3))), P, none) 1 6 := by
  refine eM.ofH RL "person" [(0, .ref b), (1, .int x1), (2, .int x2), (3, .int x3), (4, .ref o)] pn_L rfl rfl (Nat.le_of_ble_eq_true rfl) rfl ?_
  refine ev_aload dL_person_0 rfl ?_
  refine ev_iconst (v := nI 0) dL_person_2 rfl ?_
  refine ev_aload_n dL_person_3 rfl rfl ?_
  refine ev_iload_n dL_person_4 rfl rfl ?_
  refine ev_iload_n dL_person_5 rfl rfl ?_
  refine ev_iload_n dL_person_6 rfl rfl ?_
  refine ev_callVc dL_person_7 hc rfl lk_L_43 hb ⟨Nat.le_of_ble_eq_true rfl, Nat.le_of_ble_eq_true rfl⟩ rfl (Nat.le_of_ble_eq_true rfl) ⟨by show 0 + _ ≤ _; omega, by show 0 + _ ≤ _; omega⟩ [⟨0, 12, 15, 28⟩, ⟨0, 12, 19, 13⟩] ⟨0, 12, 23, 15⟩ [] rfl (fun z hz => by
    simp only [List.mem_cons, List.not_mem_nil, or_false] at hz
    rcases hz with rfl | rfl
    · exact Or.inr ⟨by decide, _, wk_L_28, by decide⟩
    · exact Or.inr ⟨by decide, _, wk_L_13, by decide⟩) (by decide) (by decide) wk_L_15 wp_IllegalStateException (fun q n9 g hg => ?_)
  refine ev_astore dL_person_23 (Nat.le_of_ble_eq_true rfl) ?_
  refine ev_iconst (v := nI 3) dL_person_25 rfl ?_
  exact ev_iret dL_person_26 rfl rfl rfl hg (fun _ e => nomatch e) (by omega) (by omega)
set_option maxHeartbeats 1000000 in
theorem w_sit {h : eH} {n b o : Nat} {fs : List Value} {F : Nat → Int64} {P : eH → Prop} {x1 : Int32} {x2 : Int32} {v : Int32} (hb : h b = some (.inr (7, fs))) (hc : kX10_sit [.ref b, .int x1, .int x2] h n (.inl (some (.int v)), P, some n) 0 0) (hP : ∀ g, P g → g o = some (.inl (4, 1, .inr (.inl F)))) : kL_sit [.ref b, .int x1, .int x2, .ref o] h n (.inl (some (.int (nI 0))), eOut o F v P, some n) 0 0 := by
  refine eM.ofH RL "sit" [(0, .ref b), (1, .int x1), (2, .int x2), (3, .ref o)] pn_L rfl rfl (Nat.le_of_ble_eq_true rfl) rfl ?_
  refine ev_aload_n dL_sit_0 rfl rfl ?_
  refine ev_iconst (v := nI 0) dL_sit_1 rfl ?_
  refine ev_aload_n dL_sit_2 rfl rfl ?_
  refine ev_iload_n dL_sit_3 rfl rfl ?_
  refine ev_iload_n dL_sit_4 rfl rfl ?_
  refine ev_callVi dL_sit_5 hc rfl lk_L_47 hb ⟨Nat.le_of_ble_eq_true rfl, Nat.le_of_ble_eq_true rfl⟩ rfl (Nat.le_of_ble_eq_true rfl) ⟨by show 0 + _ ≤ _; omega, by show 0 + _ ≤ _; omega⟩ (fun g hg => ?_)
  refine ev_i2l dL_sit_8 rfl ?_
  refine ev_lastore dL_sit_9 (hP g hg) (by unfold vp_in; decide) ?_
  refine ev_goto (tgt := 21) dL_sit_10 (by decide) ?_
  refine ev_iconst (v := nI 0) dL_sit_21 rfl ?_
  exact ev_iret dL_sit_22 rfl rfl rfl ⟨g, hg, rfl⟩ (fun _ e => Option.some.inj e) (by omega) (by omega)
set_option maxHeartbeats 1000000 in
theorem w_sit_1 {h : eH} {n b o : Nat} {fs : List Value} {P : eH → Prop} {x1 : Int32} {x2 : Int32} (hb : h b = some (.inr (7, fs))) (hc : kX10_sit [.ref b, .int x1, .int x2] h n (.inr "java/lang/IndexOutOfBoundsException", P, none) 1 6) : kL_sit [.ref b, .int x1, .int x2, .ref o] h n (.inl (some (.int (nI 1))), P, none) 1 6 := by
  refine eM.ofH RL "sit" [(0, .ref b), (1, .int x1), (2, .int x2), (3, .ref o)] pn_L rfl rfl (Nat.le_of_ble_eq_true rfl) rfl ?_
  refine ev_aload_n dL_sit_0 rfl rfl ?_
  refine ev_iconst (v := nI 0) dL_sit_1 rfl ?_
  refine ev_aload_n dL_sit_2 rfl rfl ?_
  refine ev_iload_n dL_sit_3 rfl rfl ?_
  refine ev_iload_n dL_sit_4 rfl rfl ?_
  refine ev_callVc dL_sit_5 hc rfl lk_L_47 hb ⟨Nat.le_of_ble_eq_true rfl, Nat.le_of_ble_eq_true rfl⟩ rfl (Nat.le_of_ble_eq_true rfl) ⟨by show 0 + _ ≤ _; omega, by show 0 + _ ≤ _; omega⟩ [] ⟨0, 10, 13, 28⟩ [⟨0, 10, 17, 15⟩] rfl (fun z hz => absurd hz List.not_mem_nil) (by decide) (by decide) wk_L_28 wp_IndexOutOfBoundsException (fun q n9 g hg => ?_)
  refine ev_astore dL_sit_13 (Nat.le_of_ble_eq_true rfl) ?_
  refine ev_iconst (v := nI 1) dL_sit_15 rfl ?_
  exact ev_iret dL_sit_16 rfl rfl rfl hg (fun _ e => nomatch e) (by omega) (by omega)
set_option maxHeartbeats 1000000 in
theorem w_sit_2 {h : eH} {n b o : Nat} {fs : List Value} {P : eH → Prop} {x1 : Int32} {x2 : Int32} (hb : h b = some (.inr (7, fs))) (hc : kX10_sit [.ref b, .int x1, .int x2] h n (.inr "java/lang/IllegalStateException", P, none) 1 6) : kL_sit [.ref b, .int x1, .int x2, .ref o] h n (.inl (some (.int (nI 2))), P, none) 1 6 := by
  refine eM.ofH RL "sit" [(0, .ref b), (1, .int x1), (2, .int x2), (3, .ref o)] pn_L rfl rfl (Nat.le_of_ble_eq_true rfl) rfl ?_
  refine ev_aload_n dL_sit_0 rfl rfl ?_
  refine ev_iconst (v := nI 0) dL_sit_1 rfl ?_
  refine ev_aload_n dL_sit_2 rfl rfl ?_
  refine ev_iload_n dL_sit_3 rfl rfl ?_
  refine ev_iload_n dL_sit_4 rfl rfl ?_
  refine ev_callVc dL_sit_5 hc rfl lk_L_47 hb ⟨Nat.le_of_ble_eq_true rfl, Nat.le_of_ble_eq_true rfl⟩ rfl (Nat.le_of_ble_eq_true rfl) ⟨by show 0 + _ ≤ _; omega, by show 0 + _ ≤ _; omega⟩ [⟨0, 10, 13, 28⟩] ⟨0, 10, 17, 15⟩ [] rfl (fun z hz => by
    simp only [List.mem_cons, List.not_mem_nil, or_false] at hz
    rcases hz with rfl
    · exact Or.inr ⟨by decide, _, wk_L_28, by decide⟩) (by decide) (by decide) wk_L_15 wp_IllegalStateException (fun q n9 g hg => ?_)
  refine ev_astore dL_sit_17 (Nat.le_of_ble_eq_true rfl) ?_
  refine ev_iconst (v := nI 2) dL_sit_19 rfl ?_
  exact ev_iret dL_sit_20 rfl rfl rfl hg (fun _ e => nomatch e) (by omega) (by omega)
set_option maxHeartbeats 1000000 in
theorem w_give {h : eH} {n b o : Nat} {fs : List Value} {F : Nat → Int64} {P : eH → Prop} {x1 : Int32} {x2 : Int32} {x3 : Int32} {x4 : Int32} {v : Int32} (hb : h b = some (.inr (7, fs))) (hc : kX10_give [.ref b, .int x1, .int x2, .int x3, .int x4] h n (.inl (some (.int v)), P, some n) 0 0) (hP : ∀ g, P g → g o = some (.inl (4, 1, .inr (.inl F)))) : kL_give [.ref b, .int x1, .int x2, .int x3, .int x4, .ref o] h n (.inl (some (.int (nI 0))), eOut o F v P, some n) 0 0 := by
  refine eM.ofH RL "give" [(0, .ref b), (1, .int x1), (2, .int x2), (3, .int x3), (4, .int x4), (5, .ref o)] pn_L rfl rfl (Nat.le_of_ble_eq_true rfl) rfl ?_
  refine ev_aload dL_give_0 rfl ?_
  refine ev_iconst (v := nI 0) dL_give_2 rfl ?_
  refine ev_aload_n dL_give_3 rfl rfl ?_
  refine ev_iload_n dL_give_4 rfl rfl ?_
  refine ev_iload_n dL_give_5 rfl rfl ?_
  refine ev_iload_n dL_give_6 rfl rfl ?_
  refine ev_iload dL_give_7 rfl ?_
  refine ev_callVi dL_give_9 hc rfl lk_L_50 hb ⟨Nat.le_of_ble_eq_true rfl, Nat.le_of_ble_eq_true rfl⟩ rfl (Nat.le_of_ble_eq_true rfl) ⟨by show 0 + _ ≤ _; omega, by show 0 + _ ≤ _; omega⟩ (fun g hg => ?_)
  refine ev_i2l dL_give_12 rfl ?_
  refine ev_lastore dL_give_13 (hP g hg) (by unfold vp_in; decide) ?_
  refine ev_goto (tgt := 25) dL_give_14 (by decide) ?_
  refine ev_iconst (v := nI 0) dL_give_25 rfl ?_
  exact ev_iret dL_give_26 rfl rfl rfl ⟨g, hg, rfl⟩ (fun _ e => Option.some.inj e) (by omega) (by omega)
set_option maxHeartbeats 1000000 in
theorem w_give_1 {h : eH} {n b o : Nat} {fs : List Value} {P : eH → Prop} {x1 : Int32} {x2 : Int32} {x3 : Int32} {x4 : Int32} (hb : h b = some (.inr (7, fs))) (hc : kX10_give [.ref b, .int x1, .int x2, .int x3, .int x4] h n (.inr "java/lang/IndexOutOfBoundsException", P, none) 1 6) : kL_give [.ref b, .int x1, .int x2, .int x3, .int x4, .ref o] h n (.inl (some (.int (nI 1))), P, none) 1 6 := by
  refine eM.ofH RL "give" [(0, .ref b), (1, .int x1), (2, .int x2), (3, .int x3), (4, .int x4), (5, .ref o)] pn_L rfl rfl (Nat.le_of_ble_eq_true rfl) rfl ?_
  refine ev_aload dL_give_0 rfl ?_
  refine ev_iconst (v := nI 0) dL_give_2 rfl ?_
  refine ev_aload_n dL_give_3 rfl rfl ?_
  refine ev_iload_n dL_give_4 rfl rfl ?_
  refine ev_iload_n dL_give_5 rfl rfl ?_
  refine ev_iload_n dL_give_6 rfl rfl ?_
  refine ev_iload dL_give_7 rfl ?_
  refine ev_callVc dL_give_9 hc rfl lk_L_50 hb ⟨Nat.le_of_ble_eq_true rfl, Nat.le_of_ble_eq_true rfl⟩ rfl (Nat.le_of_ble_eq_true rfl) ⟨by show 0 + _ ≤ _; omega, by show 0 + _ ≤ _; omega⟩ [] ⟨0, 14, 17, 28⟩ [⟨0, 14, 21, 13⟩] rfl (fun z hz => absurd hz List.not_mem_nil) (by decide) (by decide) wk_L_28 wp_IndexOutOfBoundsException (fun q n9 g hg => ?_)
  refine ev_astore dL_give_17 (Nat.le_of_ble_eq_true rfl) ?_
  refine ev_iconst (v := nI 1) dL_give_19 rfl ?_
  exact ev_iret dL_give_20 rfl rfl rfl hg (fun _ e => nomatch e) (by omega) (by omega)
set_option maxHeartbeats 1000000 in
theorem w_give_2 {h : eH} {n b o : Nat} {fs : List Value} {P : eH → Prop} {x1 : Int32} {x2 : Int32} {x3 : Int32} {x4 : Int32} (hb : h b = some (.inr (7, fs))) (hc : kX10_give [.ref b, .int x1, .int x2, .int x3, .int x4] h n (.inr "java/lang/IllegalArgumentException", P, none) 1 6) : kL_give [.ref b, .int x1, .int x2, .int x3, .int x4, .ref o] h n (.inl (some (.int (nI 2))), P, none) 1 6 := by
  refine eM.ofH RL "give" [(0, .ref b), (1, .int x1), (2, .int x2), (3, .int x3), (4, .int x4), (5, .ref o)] pn_L rfl rfl (Nat.le_of_ble_eq_true rfl) rfl ?_
  refine ev_aload dL_give_0 rfl ?_
  refine ev_iconst (v := nI 0) dL_give_2 rfl ?_
  refine ev_aload_n dL_give_3 rfl rfl ?_
  refine ev_iload_n dL_give_4 rfl rfl ?_
  refine ev_iload_n dL_give_5 rfl rfl ?_
  refine ev_iload_n dL_give_6 rfl rfl ?_
  refine ev_iload dL_give_7 rfl ?_
  refine ev_callVc dL_give_9 hc rfl lk_L_50 hb ⟨Nat.le_of_ble_eq_true rfl, Nat.le_of_ble_eq_true rfl⟩ rfl (Nat.le_of_ble_eq_true rfl) ⟨by show 0 + _ ≤ _; omega, by show 0 + _ ≤ _; omega⟩ [⟨0, 14, 17, 28⟩] ⟨0, 14, 21, 13⟩ [] rfl (fun z hz => by
    simp only [List.mem_cons, List.not_mem_nil, or_false] at hz
    rcases hz with rfl
    · exact Or.inr ⟨by decide, _, wk_L_28, by decide⟩) (by decide) (by decide) wk_L_13 wp_IllegalArgumentException (fun q n9 g hg => ?_)
  refine ev_astore dL_give_21 (Nat.le_of_ble_eq_true rfl) ?_
  refine ev_iconst (v := nI 2) dL_give_23 rfl ?_
  exact ev_iret dL_give_24 rfl rfl rfl hg (fun _ e => nomatch e) (by omega) (by omega)
set_option maxHeartbeats 1000000 in
theorem w_call {h : eH} {n b o : Nat} {fs : List Value} {F : Nat → Int64} {P : eH → Prop} {x1 : Int32} {x2 : Int32} {x3 : Int32} {v : Int32} (hb : h b = some (.inr (7, fs))) (hc : kX10_call [.ref b, .int x1, .int x2, .int x3] h n (.inl (some (.int v)), P, some n) 0 0) (hP : ∀ g, P g → g o = some (.inl (4, 1, .inr (.inl F)))) : kL_call [.ref b, .int x1, .int x2, .int x3, .ref o] h n (.inl (some (.int (nI 0))), eOut o F v P, some n) 0 0 := by
  refine eM.ofH RL "call" [(0, .ref b), (1, .int x1), (2, .int x2), (3, .int x3), (4, .ref o)] pn_L rfl rfl (Nat.le_of_ble_eq_true rfl) rfl ?_
  refine ev_aload dL_call_0 rfl ?_
  refine ev_iconst (v := nI 0) dL_call_2 rfl ?_
  refine ev_aload_n dL_call_3 rfl rfl ?_
  refine ev_iload_n dL_call_4 rfl rfl ?_
  refine ev_iload_n dL_call_5 rfl rfl ?_
  refine ev_iload_n dL_call_6 rfl rfl ?_
  refine ev_callVi dL_call_7 hc rfl lk_L_53 hb ⟨Nat.le_of_ble_eq_true rfl, Nat.le_of_ble_eq_true rfl⟩ rfl (Nat.le_of_ble_eq_true rfl) ⟨by show 0 + _ ≤ _; omega, by show 0 + _ ≤ _; omega⟩ (fun g hg => ?_)
  refine ev_i2l dL_call_10 rfl ?_
  refine ev_lastore dL_call_11 (hP g hg) (by unfold vp_in; decide) ?_
  refine ev_goto (tgt := 23) dL_call_12 (by decide) ?_
  refine ev_iconst (v := nI 0) dL_call_23 rfl ?_
  exact ev_iret dL_call_24 rfl rfl rfl ⟨g, hg, rfl⟩ (fun _ e => Option.some.inj e) (by omega) (by omega)
set_option maxHeartbeats 1000000 in
theorem w_call_1 {h : eH} {n b o : Nat} {fs : List Value} {P : eH → Prop} {x1 : Int32} {x2 : Int32} {x3 : Int32} (hb : h b = some (.inr (7, fs))) (hc : kX10_call [.ref b, .int x1, .int x2, .int x3] h n (.inr "java/lang/IndexOutOfBoundsException", P, none) 1 6) : kL_call [.ref b, .int x1, .int x2, .int x3, .ref o] h n (.inl (some (.int (nI 1))), P, none) 1 6 := by
  refine eM.ofH RL "call" [(0, .ref b), (1, .int x1), (2, .int x2), (3, .int x3), (4, .ref o)] pn_L rfl rfl (Nat.le_of_ble_eq_true rfl) rfl ?_
  refine ev_aload dL_call_0 rfl ?_
  refine ev_iconst (v := nI 0) dL_call_2 rfl ?_
  refine ev_aload_n dL_call_3 rfl rfl ?_
  refine ev_iload_n dL_call_4 rfl rfl ?_
  refine ev_iload_n dL_call_5 rfl rfl ?_
  refine ev_iload_n dL_call_6 rfl rfl ?_
  refine ev_callVc dL_call_7 hc rfl lk_L_53 hb ⟨Nat.le_of_ble_eq_true rfl, Nat.le_of_ble_eq_true rfl⟩ rfl (Nat.le_of_ble_eq_true rfl) ⟨by show 0 + _ ≤ _; omega, by show 0 + _ ≤ _; omega⟩ [] ⟨0, 12, 15, 28⟩ [⟨0, 12, 19, 13⟩] rfl (fun z hz => absurd hz List.not_mem_nil) (by decide) (by decide) wk_L_28 wp_IndexOutOfBoundsException (fun q n9 g hg => ?_)
  refine ev_astore dL_call_15 (Nat.le_of_ble_eq_true rfl) ?_
  refine ev_iconst (v := nI 1) dL_call_17 rfl ?_
  exact ev_iret dL_call_18 rfl rfl rfl hg (fun _ e => nomatch e) (by omega) (by omega)
set_option maxHeartbeats 1000000 in
theorem w_call_2 {h : eH} {n b o : Nat} {fs : List Value} {P : eH → Prop} {x1 : Int32} {x2 : Int32} {x3 : Int32} (hb : h b = some (.inr (7, fs))) (hc : kX10_call [.ref b, .int x1, .int x2, .int x3] h n (.inr "java/lang/IllegalArgumentException", P, none) 1 6) : kL_call [.ref b, .int x1, .int x2, .int x3, .ref o] h n (.inl (some (.int (nI 2))), P, none) 1 6 := by
  refine eM.ofH RL "call" [(0, .ref b), (1, .int x1), (2, .int x2), (3, .int x3), (4, .ref o)] pn_L rfl rfl (Nat.le_of_ble_eq_true rfl) rfl ?_
  refine ev_aload dL_call_0 rfl ?_
  refine ev_iconst (v := nI 0) dL_call_2 rfl ?_
  refine ev_aload_n dL_call_3 rfl rfl ?_
  refine ev_iload_n dL_call_4 rfl rfl ?_
  refine ev_iload_n dL_call_5 rfl rfl ?_
  refine ev_iload_n dL_call_6 rfl rfl ?_
  refine ev_callVc dL_call_7 hc rfl lk_L_53 hb ⟨Nat.le_of_ble_eq_true rfl, Nat.le_of_ble_eq_true rfl⟩ rfl (Nat.le_of_ble_eq_true rfl) ⟨by show 0 + _ ≤ _; omega, by show 0 + _ ≤ _; omega⟩ [⟨0, 12, 15, 28⟩] ⟨0, 12, 19, 13⟩ [] rfl (fun z hz => by
    simp only [List.mem_cons, List.not_mem_nil, or_false] at hz
    rcases hz with rfl
    · exact Or.inr ⟨by decide, _, wk_L_28, by decide⟩) (by decide) (by decide) wk_L_13 wp_IllegalArgumentException (fun q n9 g hg => ?_)
  refine ev_astore dL_call_19 (Nat.le_of_ble_eq_true rfl) ?_
  refine ev_iconst (v := nI 2) dL_call_21 rfl ?_
  exact ev_iret dL_call_22 rfl rfl rfl hg (fun _ e => nomatch e) (by omega) (by omega)
set_option maxHeartbeats 1000000 in
theorem w_years {h : eH} {n b o : Nat} {fs : List Value} {F : Nat → Int64} {P : eH → Prop} {x1 : Int32} {v : Int32} (hb : h b = some (.inr (7, fs))) (hc : kX10_years [.ref b, .int x1] h n (.inl (some (.int v)), P, some n) 0 0) (hP : ∀ g, P g → g o = some (.inl (4, 1, .inr (.inl F)))) : kL_years [.ref b, .int x1, .ref o] h n (.inl (some (.int (nI 0))), eOut o F v P, some n) 0 0 := by
  refine eM.ofH RL "years" [(0, .ref b), (1, .int x1), (2, .ref o)] pn_L rfl rfl (Nat.le_of_ble_eq_true rfl) rfl ?_
  refine ev_aload_n dL_years_0 rfl rfl ?_
  refine ev_iconst (v := nI 0) dL_years_1 rfl ?_
  refine ev_aload_n dL_years_2 rfl rfl ?_
  refine ev_iload_n dL_years_3 rfl rfl ?_
  refine ev_callVi dL_years_4 hc rfl lk_L_56 hb ⟨Nat.le_of_ble_eq_true rfl, Nat.le_of_ble_eq_true rfl⟩ rfl (Nat.le_of_ble_eq_true rfl) ⟨by show 0 + _ ≤ _; omega, by show 0 + _ ≤ _; omega⟩ (fun g hg => ?_)
  refine ev_i2l dL_years_7 rfl ?_
  refine ev_lastore dL_years_8 (hP g hg) (by unfold vp_in; decide) ?_
  refine ev_goto (tgt := 18) dL_years_9 (by decide) ?_
  refine ev_iconst (v := nI 0) dL_years_18 rfl ?_
  exact ev_iret dL_years_19 rfl rfl rfl ⟨g, hg, rfl⟩ (fun _ e => Option.some.inj e) (by omega) (by omega)
set_option maxHeartbeats 1000000 in
theorem w_years_1 {h : eH} {n b o : Nat} {fs : List Value} {P : eH → Prop} {x1 : Int32} (hb : h b = some (.inr (7, fs))) (hc : kX10_years [.ref b, .int x1] h n (.inr "java/lang/IllegalArgumentException", P, none) 1 6) : kL_years [.ref b, .int x1, .ref o] h n (.inl (some (.int (nI 1))), P, none) 1 6 := by
  refine eM.ofH RL "years" [(0, .ref b), (1, .int x1), (2, .ref o)] pn_L rfl rfl (Nat.le_of_ble_eq_true rfl) rfl ?_
  refine ev_aload_n dL_years_0 rfl rfl ?_
  refine ev_iconst (v := nI 0) dL_years_1 rfl ?_
  refine ev_aload_n dL_years_2 rfl rfl ?_
  refine ev_iload_n dL_years_3 rfl rfl ?_
  refine ev_callVc dL_years_4 hc rfl lk_L_56 hb ⟨Nat.le_of_ble_eq_true rfl, Nat.le_of_ble_eq_true rfl⟩ rfl (Nat.le_of_ble_eq_true rfl) ⟨by show 0 + _ ≤ _; omega, by show 0 + _ ≤ _; omega⟩ [] ⟨0, 9, 12, 13⟩ [⟨0, 9, 15, 15⟩] rfl (fun z hz => absurd hz List.not_mem_nil) (by decide) (by decide) wk_L_13 wp_IllegalArgumentException (fun q n9 g hg => ?_)
  refine ev_astore_n dL_years_12 rfl (Nat.le_of_ble_eq_true rfl) ?_
  refine ev_iconst (v := nI 1) dL_years_13 rfl ?_
  exact ev_iret dL_years_14 rfl rfl rfl hg (fun _ e => nomatch e) (by omega) (by omega)
set_option maxHeartbeats 1000000 in
theorem w_years_2 {h : eH} {n b o : Nat} {fs : List Value} {P : eH → Prop} {x1 : Int32} (hb : h b = some (.inr (7, fs))) (hc : kX10_years [.ref b, .int x1] h n (.inr "java/lang/IllegalStateException", P, none) 1 6) : kL_years [.ref b, .int x1, .ref o] h n (.inl (some (.int (nI 2))), P, none) 1 6 := by
  refine eM.ofH RL "years" [(0, .ref b), (1, .int x1), (2, .ref o)] pn_L rfl rfl (Nat.le_of_ble_eq_true rfl) rfl ?_
  refine ev_aload_n dL_years_0 rfl rfl ?_
  refine ev_iconst (v := nI 0) dL_years_1 rfl ?_
  refine ev_aload_n dL_years_2 rfl rfl ?_
  refine ev_iload_n dL_years_3 rfl rfl ?_
  refine ev_callVc dL_years_4 hc rfl lk_L_56 hb ⟨Nat.le_of_ble_eq_true rfl, Nat.le_of_ble_eq_true rfl⟩ rfl (Nat.le_of_ble_eq_true rfl) ⟨by show 0 + _ ≤ _; omega, by show 0 + _ ≤ _; omega⟩ [⟨0, 9, 12, 13⟩] ⟨0, 9, 15, 15⟩ [] rfl (fun z hz => by
    simp only [List.mem_cons, List.not_mem_nil, or_false] at hz
    rcases hz with rfl
    · exact Or.inr ⟨by decide, _, wk_L_13, by decide⟩) (by decide) (by decide) wk_L_15 wp_IllegalStateException (fun q n9 g hg => ?_)
  refine ev_astore_n dL_years_15 rfl (Nat.le_of_ble_eq_true rfl) ?_
  refine ev_iconst (v := nI 2) dL_years_16 rfl ?_
  exact ev_iret dL_years_17 rfl rfl rfl hg (fun _ e => nomatch e) (by omega) (by omega)
set_option maxHeartbeats 1000000 in
theorem w_set {h : eH} {n b o : Nat} {fs : List Value} {F : Nat → Int64} {P : eH → Prop} {x1 : Int32} {x2 : Int32} {v : Int32} (hb : h b = some (.inr (7, fs))) (hc : kX10_set [.ref b, .int x1, .int x2] h n (.inl (some (.int v)), P, some n) 0 0) (hP : ∀ g, P g → g o = some (.inl (4, 1, .inr (.inl F)))) : kL_set [.ref b, .int x1, .int x2, .ref o] h n (.inl (some (.int (nI 0))), eOut o F v P, some n) 0 0 := by
  refine eM.ofH RL "set" [(0, .ref b), (1, .int x1), (2, .int x2), (3, .ref o)] pn_L rfl rfl (Nat.le_of_ble_eq_true rfl) rfl ?_
  refine ev_aload_n dL_set_0 rfl rfl ?_
  refine ev_iconst (v := nI 0) dL_set_1 rfl ?_
  refine ev_aload_n dL_set_2 rfl rfl ?_
  refine ev_iload_n dL_set_3 rfl rfl ?_
  refine ev_iload_n dL_set_4 rfl rfl ?_
  refine ev_callVi dL_set_5 hc rfl lk_L_59 hb ⟨Nat.le_of_ble_eq_true rfl, Nat.le_of_ble_eq_true rfl⟩ rfl (Nat.le_of_ble_eq_true rfl) ⟨by show 0 + _ ≤ _; omega, by show 0 + _ ≤ _; omega⟩ (fun g hg => ?_)
  refine ev_i2l dL_set_8 rfl ?_
  refine ev_lastore dL_set_9 (hP g hg) (by unfold vp_in; decide) ?_
  refine ev_goto (tgt := 17) dL_set_10 (by decide) ?_
  refine ev_iconst (v := nI 0) dL_set_17 rfl ?_
  exact ev_iret dL_set_18 rfl rfl rfl ⟨g, hg, rfl⟩ (fun _ e => Option.some.inj e) (by omega) (by omega)
set_option maxHeartbeats 1000000 in
theorem w_set_1 {h : eH} {n b o : Nat} {fs : List Value} {P : eH → Prop} {x1 : Int32} {x2 : Int32} (hb : h b = some (.inr (7, fs))) (hc : kX10_set [.ref b, .int x1, .int x2] h n (.inr "java/lang/IllegalArgumentException", P, none) 1 6) : kL_set [.ref b, .int x1, .int x2, .ref o] h n (.inl (some (.int (nI 1))), P, none) 1 6 := by
  refine eM.ofH RL "set" [(0, .ref b), (1, .int x1), (2, .int x2), (3, .ref o)] pn_L rfl rfl (Nat.le_of_ble_eq_true rfl) rfl ?_
  refine ev_aload_n dL_set_0 rfl rfl ?_
  refine ev_iconst (v := nI 0) dL_set_1 rfl ?_
  refine ev_aload_n dL_set_2 rfl rfl ?_
  refine ev_iload_n dL_set_3 rfl rfl ?_
  refine ev_iload_n dL_set_4 rfl rfl ?_
  refine ev_callVc dL_set_5 hc rfl lk_L_59 hb ⟨Nat.le_of_ble_eq_true rfl, Nat.le_of_ble_eq_true rfl⟩ rfl (Nat.le_of_ble_eq_true rfl) ⟨by show 0 + _ ≤ _; omega, by show 0 + _ ≤ _; omega⟩ [] ⟨0, 10, 13, 13⟩ [] rfl (fun z hz => absurd hz List.not_mem_nil) (by decide) (by decide) wk_L_13 wp_IllegalArgumentException (fun q n9 g hg => ?_)
  refine ev_astore dL_set_13 (Nat.le_of_ble_eq_true rfl) ?_
  refine ev_iconst (v := nI 1) dL_set_15 rfl ?_
  exact ev_iret dL_set_16 rfl rfl rfl hg (fun _ e => nomatch e) (by omega) (by omega)
set_option maxHeartbeats 1000000 in
theorem w_undo {h : eH} {n b o : Nat} {fs : List Value} {F : Nat → Int64} {P : eH → Prop}  {v : Int32} (hb : h b = some (.inr (7, fs))) (hc : kX10_undo [.ref b] h n (.inl (some (.int v)), P, some n) 0 0) (hP : ∀ g, P g → g o = some (.inl (4, 1, .inr (.inl F)))) : kL_undo [.ref b, .ref o] h n (.inl (some (.int (nI 0))), eOut o F v P, some n) 0 0 := by
  refine eM.ofH RL "undo" [(0, .ref b), (1, .ref o)] pn_L rfl rfl (Nat.le_of_ble_eq_true rfl) rfl ?_
  refine ev_aload_n dL_undo_0 rfl rfl ?_
  refine ev_iconst (v := nI 0) dL_undo_1 rfl ?_
  refine ev_aload_n dL_undo_2 rfl rfl ?_
  refine ev_callVi dL_undo_3 hc rfl lk_L_62 hb ⟨Nat.le_of_ble_eq_true rfl, Nat.le_of_ble_eq_true rfl⟩ rfl (Nat.le_of_ble_eq_true rfl) ⟨by show 0 + _ ≤ _; omega, by show 0 + _ ≤ _; omega⟩ (fun g hg => ?_)
  refine ev_i2l dL_undo_6 rfl ?_
  refine ev_lastore dL_undo_7 (hP g hg) (by unfold vp_in; decide) ?_
  refine ev_goto (tgt := 14) dL_undo_8 (by decide) ?_
  refine ev_iconst (v := nI 0) dL_undo_14 rfl ?_
  exact ev_iret dL_undo_15 rfl rfl rfl ⟨g, hg, rfl⟩ (fun _ e => Option.some.inj e) (by omega) (by omega)
set_option maxHeartbeats 1000000 in
theorem w_undo_1 {h : eH} {n b o : Nat} {fs : List Value} {P : eH → Prop}  (hb : h b = some (.inr (7, fs))) (hc : kX10_undo [.ref b] h n (.inr "java/lang/IllegalStateException", P, none) 1 6) : kL_undo [.ref b, .ref o] h n (.inl (some (.int (nI 1))), P, none) 1 6 := by
  refine eM.ofH RL "undo" [(0, .ref b), (1, .ref o)] pn_L rfl rfl (Nat.le_of_ble_eq_true rfl) rfl ?_
  refine ev_aload_n dL_undo_0 rfl rfl ?_
  refine ev_iconst (v := nI 0) dL_undo_1 rfl ?_
  refine ev_aload_n dL_undo_2 rfl rfl ?_
  refine ev_callVc dL_undo_3 hc rfl lk_L_62 hb ⟨Nat.le_of_ble_eq_true rfl, Nat.le_of_ble_eq_true rfl⟩ rfl (Nat.le_of_ble_eq_true rfl) ⟨by show 0 + _ ≤ _; omega, by show 0 + _ ≤ _; omega⟩ [] ⟨0, 8, 11, 15⟩ [] rfl (fun z hz => absurd hz List.not_mem_nil) (by decide) (by decide) wk_L_15 wp_IllegalStateException (fun q n9 g hg => ?_)
  refine ev_astore_n dL_undo_11 rfl (Nat.le_of_ble_eq_true rfl) ?_
  refine ev_iconst (v := nI 1) dL_undo_12 rfl ?_
  exact ev_iret dL_undo_13 rfl rfl rfl hg (fun _ e => nomatch e) (by omega) (by omega)
set_option maxHeartbeats 1000000 in
theorem w_why {h : eH} {n b o : Nat} {fs : List Value} {F : Nat → Int64} {P : eH → Prop} {x1 : Int32} {x2 : Int32} {x3 : Int32} {x4 : Int32} {v : Int32} (hb : h b = some (.inr (7, fs))) (hc : kX10_why [.ref b, .int x1, .int x2, .int x3, .int x4] h n (.inl (some (.int v)), P, some n) 0 0) (hP : ∀ g, P g → g o = some (.inl (4, 1, .inr (.inl F)))) : kL_why [.ref b, .int x1, .int x2, .int x3, .int x4, .ref o] h n (.inl (some (.int (nI 0))), eOut o F v P, some n) 0 0 := by
  refine eM.ofH RL "why" [(0, .ref b), (1, .int x1), (2, .int x2), (3, .int x3), (4, .int x4), (5, .ref o)] pn_L rfl rfl (Nat.le_of_ble_eq_true rfl) rfl ?_
  refine ev_aload dL_why_0 rfl ?_
  refine ev_iconst (v := nI 0) dL_why_2 rfl ?_
  refine ev_aload_n dL_why_3 rfl rfl ?_
  refine ev_iload_n dL_why_4 rfl rfl ?_
  refine ev_iload_n dL_why_5 rfl rfl ?_
  refine ev_iload_n dL_why_6 rfl rfl ?_
  refine ev_iload dL_why_7 rfl ?_
  refine ev_callVi dL_why_9 hc rfl lk_L_65 hb ⟨Nat.le_of_ble_eq_true rfl, Nat.le_of_ble_eq_true rfl⟩ rfl (Nat.le_of_ble_eq_true rfl) ⟨by show 0 + _ ≤ _; omega, by show 0 + _ ≤ _; omega⟩ (fun g hg => ?_)
  refine ev_i2l dL_why_12 rfl ?_
  refine ev_lastore dL_why_13 (hP g hg) (by unfold vp_in; decide) ?_
  refine ev_goto (tgt := 25) dL_why_14 (by decide) ?_
  refine ev_iconst (v := nI 0) dL_why_25 rfl ?_
  exact ev_iret dL_why_26 rfl rfl rfl ⟨g, hg, rfl⟩ (fun _ e => Option.some.inj e) (by omega) (by omega)
set_option maxHeartbeats 1000000 in
theorem w_why_1 {h : eH} {n b o : Nat} {fs : List Value} {P : eH → Prop} {x1 : Int32} {x2 : Int32} {x3 : Int32} {x4 : Int32} (hb : h b = some (.inr (7, fs))) (hc : kX10_why [.ref b, .int x1, .int x2, .int x3, .int x4] h n (.inr "java/lang/IndexOutOfBoundsException", P, none) 1 6) : kL_why [.ref b, .int x1, .int x2, .int x3, .int x4, .ref o] h n (.inl (some (.int (nI 1))), P, none) 1 6 := by
  refine eM.ofH RL "why" [(0, .ref b), (1, .int x1), (2, .int x2), (3, .int x3), (4, .int x4), (5, .ref o)] pn_L rfl rfl (Nat.le_of_ble_eq_true rfl) rfl ?_
  refine ev_aload dL_why_0 rfl ?_
  refine ev_iconst (v := nI 0) dL_why_2 rfl ?_
  refine ev_aload_n dL_why_3 rfl rfl ?_
  refine ev_iload_n dL_why_4 rfl rfl ?_
  refine ev_iload_n dL_why_5 rfl rfl ?_
  refine ev_iload_n dL_why_6 rfl rfl ?_
  refine ev_iload dL_why_7 rfl ?_
  refine ev_callVc dL_why_9 hc rfl lk_L_65 hb ⟨Nat.le_of_ble_eq_true rfl, Nat.le_of_ble_eq_true rfl⟩ rfl (Nat.le_of_ble_eq_true rfl) ⟨by show 0 + _ ≤ _; omega, by show 0 + _ ≤ _; omega⟩ [] ⟨0, 14, 17, 28⟩ [⟨0, 14, 21, 13⟩] rfl (fun z hz => absurd hz List.not_mem_nil) (by decide) (by decide) wk_L_28 wp_IndexOutOfBoundsException (fun q n9 g hg => ?_)
  refine ev_astore dL_why_17 (Nat.le_of_ble_eq_true rfl) ?_
  refine ev_iconst (v := nI 1) dL_why_19 rfl ?_
  exact ev_iret dL_why_20 rfl rfl rfl hg (fun _ e => nomatch e) (by omega) (by omega)
set_option maxHeartbeats 1000000 in
theorem w_why_2 {h : eH} {n b o : Nat} {fs : List Value} {P : eH → Prop} {x1 : Int32} {x2 : Int32} {x3 : Int32} {x4 : Int32} (hb : h b = some (.inr (7, fs))) (hc : kX10_why [.ref b, .int x1, .int x2, .int x3, .int x4] h n (.inr "java/lang/IllegalArgumentException", P, none) 1 6) : kL_why [.ref b, .int x1, .int x2, .int x3, .int x4, .ref o] h n (.inl (some (.int (nI 2))), P, none) 1 6 := by
  refine eM.ofH RL "why" [(0, .ref b), (1, .int x1), (2, .int x2), (3, .int x3), (4, .int x4), (5, .ref o)] pn_L rfl rfl (Nat.le_of_ble_eq_true rfl) rfl ?_
  refine ev_aload dL_why_0 rfl ?_
  refine ev_iconst (v := nI 0) dL_why_2 rfl ?_
  refine ev_aload_n dL_why_3 rfl rfl ?_
  refine ev_iload_n dL_why_4 rfl rfl ?_
  refine ev_iload_n dL_why_5 rfl rfl ?_
  refine ev_iload_n dL_why_6 rfl rfl ?_
  refine ev_iload dL_why_7 rfl ?_
  refine ev_callVc dL_why_9 hc rfl lk_L_65 hb ⟨Nat.le_of_ble_eq_true rfl, Nat.le_of_ble_eq_true rfl⟩ rfl (Nat.le_of_ble_eq_true rfl) ⟨by show 0 + _ ≤ _; omega, by show 0 + _ ≤ _; omega⟩ [⟨0, 14, 17, 28⟩] ⟨0, 14, 21, 13⟩ [] rfl (fun z hz => by
    simp only [List.mem_cons, List.not_mem_nil, or_false] at hz
    rcases hz with rfl
    · exact Or.inr ⟨by decide, _, wk_L_28, by decide⟩) (by decide) (by decide) wk_L_13 wp_IllegalArgumentException (fun q n9 g hg => ?_)
  refine ev_astore dL_why_21 (Nat.le_of_ble_eq_true rfl) ?_
  refine ev_iconst (v := nI 2) dL_why_23 rfl ?_
  exact ev_iret dL_why_24 rfl rfl rfl hg (fun _ e => nomatch e) (by omega) (by omega)
set_option maxHeartbeats 1000000 in
theorem w_endsIn {h : eH} {n b o : Nat} {fs : List Value} {F : Nat → Int64} {P : eH → Prop} {x1 : Int32} {v : Int32} (hb : h b = some (.inr (7, fs))) (hc : kX10_endsIn [.ref b, .int x1] h n (.inl (some (.int v)), P, some n) 0 0) (hP : ∀ g, P g → g o = some (.inl (4, 1, .inr (.inl F)))) : kL_endsIn [.ref b, .int x1, .ref o] h n (.inl (some (.int (nI 0))), eOut o F v P, some n) 0 0 := by
  refine eM.ofH RL "endsIn" [(0, .ref b), (1, .int x1), (2, .ref o)] pn_L rfl rfl (Nat.le_of_ble_eq_true rfl) rfl ?_
  refine ev_aload_n dL_endsIn_0 rfl rfl ?_
  refine ev_iconst (v := nI 0) dL_endsIn_1 rfl ?_
  refine ev_aload_n dL_endsIn_2 rfl rfl ?_
  refine ev_iload_n dL_endsIn_3 rfl rfl ?_
  refine ev_callVi dL_endsIn_4 hc rfl lk_L_68 hb ⟨Nat.le_of_ble_eq_true rfl, Nat.le_of_ble_eq_true rfl⟩ rfl (Nat.le_of_ble_eq_true rfl) ⟨by show 0 + _ ≤ _; omega, by show 0 + _ ≤ _; omega⟩ (fun g hg => ?_)
  refine ev_i2l dL_endsIn_7 rfl ?_
  refine ev_lastore dL_endsIn_8 (hP g hg) (by unfold vp_in; decide) ?_
  refine ev_goto (tgt := 15) dL_endsIn_9 (by decide) ?_
  refine ev_iconst (v := nI 0) dL_endsIn_15 rfl ?_
  exact ev_iret dL_endsIn_16 rfl rfl rfl ⟨g, hg, rfl⟩ (fun _ e => Option.some.inj e) (by omega) (by omega)
set_option maxHeartbeats 1000000 in
theorem w_endsIn_1 {h : eH} {n b o : Nat} {fs : List Value} {P : eH → Prop} {x1 : Int32} (hb : h b = some (.inr (7, fs))) (hc : kX10_endsIn [.ref b, .int x1] h n (.inr "java/lang/IndexOutOfBoundsException", P, none) 1 6) : kL_endsIn [.ref b, .int x1, .ref o] h n (.inl (some (.int (nI 1))), P, none) 1 6 := by
  refine eM.ofH RL "endsIn" [(0, .ref b), (1, .int x1), (2, .ref o)] pn_L rfl rfl (Nat.le_of_ble_eq_true rfl) rfl ?_
  refine ev_aload_n dL_endsIn_0 rfl rfl ?_
  refine ev_iconst (v := nI 0) dL_endsIn_1 rfl ?_
  refine ev_aload_n dL_endsIn_2 rfl rfl ?_
  refine ev_iload_n dL_endsIn_3 rfl rfl ?_
  refine ev_callVc dL_endsIn_4 hc rfl lk_L_68 hb ⟨Nat.le_of_ble_eq_true rfl, Nat.le_of_ble_eq_true rfl⟩ rfl (Nat.le_of_ble_eq_true rfl) ⟨by show 0 + _ ≤ _; omega, by show 0 + _ ≤ _; omega⟩ [] ⟨0, 9, 12, 28⟩ [] rfl (fun z hz => absurd hz List.not_mem_nil) (by decide) (by decide) wk_L_28 wp_IndexOutOfBoundsException (fun q n9 g hg => ?_)
  refine ev_astore_n dL_endsIn_12 rfl (Nat.le_of_ble_eq_true rfl) ?_
  refine ev_iconst (v := nI 1) dL_endsIn_13 rfl ?_
  exact ev_iret dL_endsIn_14 rfl rfl rfl hg (fun _ e => nomatch e) (by omega) (by omega)
set_option maxHeartbeats 1000000 in
theorem w_bestName {h : eH} {n b o : Nat} {fs : List Value} {F : Nat → Int64} {P : eH → Prop} {x1 : Int32} {x2 : Int32} {x3 : Int32} {v : Int32} (hb : h b = some (.inr (7, fs))) (hc : kX10_bestName [.ref b, .int x1, .int x2, .int x3] h n (.inl (some (.int v)), P, some n) 0 0) (hP : ∀ g, P g → g o = some (.inl (4, 1, .inr (.inl F)))) : kL_bestName [.ref b, .int x1, .int x2, .int x3, .ref o] h n (.inl (some (.int (nI 0))), eOut o F v P, some n) 0 0 := by
  refine eM.ofH RL "bestName" [(0, .ref b), (1, .int x1), (2, .int x2), (3, .int x3), (4, .ref o)] pn_L rfl rfl (Nat.le_of_ble_eq_true rfl) rfl ?_
  refine ev_aload dL_bestName_0 rfl ?_
  refine ev_iconst (v := nI 0) dL_bestName_2 rfl ?_
  refine ev_aload_n dL_bestName_3 rfl rfl ?_
  refine ev_iload_n dL_bestName_4 rfl rfl ?_
  refine ev_iload_n dL_bestName_5 rfl rfl ?_
  refine ev_iload_n dL_bestName_6 rfl rfl ?_
  refine ev_callVi dL_bestName_7 hc rfl lk_L_71 hb ⟨Nat.le_of_ble_eq_true rfl, Nat.le_of_ble_eq_true rfl⟩ rfl (Nat.le_of_ble_eq_true rfl) ⟨by show 0 + _ ≤ _; omega, by show 0 + _ ≤ _; omega⟩ (fun g hg => ?_)
  refine ev_i2l dL_bestName_10 rfl ?_
  refine ev_lastore dL_bestName_11 (hP g hg) (by unfold vp_in; decide) ?_
  refine ev_goto (tgt := 23) dL_bestName_12 (by decide) ?_
  refine ev_iconst (v := nI 0) dL_bestName_23 rfl ?_
  exact ev_iret dL_bestName_24 rfl rfl rfl ⟨g, hg, rfl⟩ (fun _ e => Option.some.inj e) (by omega) (by omega)
set_option maxHeartbeats 1000000 in
theorem w_bestName_1 {h : eH} {n b o : Nat} {fs : List Value} {P : eH → Prop} {x1 : Int32} {x2 : Int32} {x3 : Int32} (hb : h b = some (.inr (7, fs))) (hc : kX10_bestName [.ref b, .int x1, .int x2, .int x3] h n (.inr "java/lang/IndexOutOfBoundsException", P, none) 1 6) : kL_bestName [.ref b, .int x1, .int x2, .int x3, .ref o] h n (.inl (some (.int (nI 1))), P, none) 1 6 := by
  refine eM.ofH RL "bestName" [(0, .ref b), (1, .int x1), (2, .int x2), (3, .int x3), (4, .ref o)] pn_L rfl rfl (Nat.le_of_ble_eq_true rfl) rfl ?_
  refine ev_aload dL_bestName_0 rfl ?_
  refine ev_iconst (v := nI 0) dL_bestName_2 rfl ?_
  refine ev_aload_n dL_bestName_3 rfl rfl ?_
  refine ev_iload_n dL_bestName_4 rfl rfl ?_
  refine ev_iload_n dL_bestName_5 rfl rfl ?_
  refine ev_iload_n dL_bestName_6 rfl rfl ?_
  refine ev_callVc dL_bestName_7 hc rfl lk_L_71 hb ⟨Nat.le_of_ble_eq_true rfl, Nat.le_of_ble_eq_true rfl⟩ rfl (Nat.le_of_ble_eq_true rfl) ⟨by show 0 + _ ≤ _; omega, by show 0 + _ ≤ _; omega⟩ [] ⟨0, 12, 15, 28⟩ [⟨0, 12, 19, 13⟩] rfl (fun z hz => absurd hz List.not_mem_nil) (by decide) (by decide) wk_L_28 wp_IndexOutOfBoundsException (fun q n9 g hg => ?_)
  refine ev_astore dL_bestName_15 (Nat.le_of_ble_eq_true rfl) ?_
  refine ev_iconst (v := nI 1) dL_bestName_17 rfl ?_
  exact ev_iret dL_bestName_18 rfl rfl rfl hg (fun _ e => nomatch e) (by omega) (by omega)
set_option maxHeartbeats 1000000 in
theorem w_bestName_2 {h : eH} {n b o : Nat} {fs : List Value} {P : eH → Prop} {x1 : Int32} {x2 : Int32} {x3 : Int32} (hb : h b = some (.inr (7, fs))) (hc : kX10_bestName [.ref b, .int x1, .int x2, .int x3] h n (.inr "java/lang/IllegalArgumentException", P, none) 1 6) : kL_bestName [.ref b, .int x1, .int x2, .int x3, .ref o] h n (.inl (some (.int (nI 2))), P, none) 1 6 := by
  refine eM.ofH RL "bestName" [(0, .ref b), (1, .int x1), (2, .int x2), (3, .int x3), (4, .ref o)] pn_L rfl rfl (Nat.le_of_ble_eq_true rfl) rfl ?_
  refine ev_aload dL_bestName_0 rfl ?_
  refine ev_iconst (v := nI 0) dL_bestName_2 rfl ?_
  refine ev_aload_n dL_bestName_3 rfl rfl ?_
  refine ev_iload_n dL_bestName_4 rfl rfl ?_
  refine ev_iload_n dL_bestName_5 rfl rfl ?_
  refine ev_iload_n dL_bestName_6 rfl rfl ?_
  refine ev_callVc dL_bestName_7 hc rfl lk_L_71 hb ⟨Nat.le_of_ble_eq_true rfl, Nat.le_of_ble_eq_true rfl⟩ rfl (Nat.le_of_ble_eq_true rfl) ⟨by show 0 + _ ≤ _; omega, by show 0 + _ ≤ _; omega⟩ [⟨0, 12, 15, 28⟩] ⟨0, 12, 19, 13⟩ [] rfl (fun z hz => by
    simp only [List.mem_cons, List.not_mem_nil, or_false] at hz
    rcases hz with rfl
    · exact Or.inr ⟨by decide, _, wk_L_28, by decide⟩) (by decide) (by decide) wk_L_13 wp_IllegalArgumentException (fun q n9 g hg => ?_)
  refine ev_astore dL_bestName_19 (Nat.le_of_ble_eq_true rfl) ?_
  refine ev_iconst (v := nI 2) dL_bestName_21 rfl ?_
  exact ev_iret dL_bestName_22 rfl rfl rfl hg (fun _ e => nomatch e) (by omega) (by omega)
set_option maxHeartbeats 1000000 in
theorem w_runScript {h : eH} {n b o : Nat} {fs : List Value} {F : Nat → Int64} {P : eH → Prop} {x1 : Int32} {y2 : Int64} {v : Int32} (hb : h b = some (.inr (7, fs))) (hc : kX10_runScript [.ref b, .int x1, .long y2] h n (.inl (some (.int v)), P, some n) 0 0) (hP : ∀ g, P g → g o = some (.inl (4, 1, .inr (.inl F)))) : kL_runScript [.ref b, .int x1, .long y2, .ref o] h n (.inl (some (.int (nI 0))), eOut o F v P, some n) 0 0 := by
  refine eM.ofH RL "runScript" [(0, .ref b), (1, .int x1), (2, .long y2), (4, .ref o)] pn_L rfl rfl (Nat.le_of_ble_eq_true rfl) rfl ?_
  refine ev_aload dL_runScript_0 rfl ?_
  refine ev_iconst (v := nI 0) dL_runScript_2 rfl ?_
  refine ev_aload_n dL_runScript_3 rfl rfl ?_
  refine ev_iload_n dL_runScript_4 rfl rfl ?_
  refine ev_lload_n dL_runScript_5 rfl rfl ?_
  refine ev_callVi dL_runScript_6 hc rfl lk_L_74 hb ⟨Nat.le_of_ble_eq_true rfl, Nat.le_of_ble_eq_true rfl⟩ rfl (Nat.le_of_ble_eq_true rfl) ⟨by show 0 + _ ≤ _; omega, by show 0 + _ ≤ _; omega⟩ (fun g hg => ?_)
  refine ev_i2l dL_runScript_9 rfl ?_
  refine ev_lastore dL_runScript_10 (hP g hg) (by unfold vp_in; decide) ?_
  refine ev_goto (tgt := 18) dL_runScript_11 (by decide) ?_
  refine ev_iconst (v := nI 0) dL_runScript_18 rfl ?_
  exact ev_iret dL_runScript_19 rfl rfl rfl ⟨g, hg, rfl⟩ (fun _ e => Option.some.inj e) (by omega) (by omega)
set_option maxHeartbeats 1000000 in
theorem w_runScript_1 {h : eH} {n b o : Nat} {fs : List Value} {P : eH → Prop} {x1 : Int32} {y2 : Int64} (hb : h b = some (.inr (7, fs))) (hc : kX10_runScript [.ref b, .int x1, .long y2] h n (.inr "java/lang/IllegalArgumentException", P, none) 1 6) : kL_runScript [.ref b, .int x1, .long y2, .ref o] h n (.inl (some (.int (nI 1))), P, none) 1 6 := by
  refine eM.ofH RL "runScript" [(0, .ref b), (1, .int x1), (2, .long y2), (4, .ref o)] pn_L rfl rfl (Nat.le_of_ble_eq_true rfl) rfl ?_
  refine ev_aload dL_runScript_0 rfl ?_
  refine ev_iconst (v := nI 0) dL_runScript_2 rfl ?_
  refine ev_aload_n dL_runScript_3 rfl rfl ?_
  refine ev_iload_n dL_runScript_4 rfl rfl ?_
  refine ev_lload_n dL_runScript_5 rfl rfl ?_
  refine ev_callVc dL_runScript_6 hc rfl lk_L_74 hb ⟨Nat.le_of_ble_eq_true rfl, Nat.le_of_ble_eq_true rfl⟩ rfl (Nat.le_of_ble_eq_true rfl) ⟨by show 0 + _ ≤ _; omega, by show 0 + _ ≤ _; omega⟩ [] ⟨0, 11, 14, 13⟩ [] rfl (fun z hz => absurd hz List.not_mem_nil) (by decide) (by decide) wk_L_13 wp_IllegalArgumentException (fun q n9 g hg => ?_)
  refine ev_astore dL_runScript_14 (Nat.le_of_ble_eq_true rfl) ?_
  refine ev_iconst (v := nI 1) dL_runScript_16 rfl ?_
  exact ev_iret dL_runScript_17 rfl rfl rfl hg (fun _ e => nomatch e) (by omega) (by omega)
set_option maxHeartbeats 1000000 in
theorem w_simulate {h : eH} {n b o : Nat} {fs : List Value} {F : Nat → Int64} {P : eH → Prop} {y1 : Int64} {x2 : Int32} {v : Int32} (hb : h b = some (.inr (7, fs))) (hc : kX10_simulate [.ref b, .long y1, .int x2] h n (.inl (some (.int v)), P, some n) 0 0) (hP : ∀ g, P g → g o = some (.inl (4, 1, .inr (.inl F)))) : kL_simulate [.ref b, .long y1, .int x2, .ref o] h n (.inl (some (.int (nI 0))), eOut o F v P, some n) 0 0 := by
  refine eM.ofH RL "simulate" [(0, .ref b), (1, .long y1), (3, .int x2), (4, .ref o)] pn_L rfl rfl (Nat.le_of_ble_eq_true rfl) rfl ?_
  refine ev_aload dL_simulate_0 rfl ?_
  refine ev_iconst (v := nI 0) dL_simulate_2 rfl ?_
  refine ev_aload_n dL_simulate_3 rfl rfl ?_
  refine ev_lload_n dL_simulate_4 rfl rfl ?_
  refine ev_iload_n dL_simulate_5 rfl rfl ?_
  refine ev_callVi dL_simulate_6 hc rfl lk_L_78 hb ⟨Nat.le_of_ble_eq_true rfl, Nat.le_of_ble_eq_true rfl⟩ rfl (Nat.le_of_ble_eq_true rfl) ⟨by show 0 + _ ≤ _; omega, by show 0 + _ ≤ _; omega⟩ (fun g hg => ?_)
  refine ev_i2l dL_simulate_9 rfl ?_
  refine ev_lastore dL_simulate_10 (hP g hg) (by unfold vp_in; decide) ?_
  refine ev_goto (tgt := 18) dL_simulate_11 (by decide) ?_
  refine ev_iconst (v := nI 0) dL_simulate_18 rfl ?_
  exact ev_iret dL_simulate_19 rfl rfl rfl ⟨g, hg, rfl⟩ (fun _ e => Option.some.inj e) (by omega) (by omega)
set_option maxHeartbeats 1000000 in
theorem w_simulate_1 {h : eH} {n b o : Nat} {fs : List Value} {P : eH → Prop} {y1 : Int64} {x2 : Int32} (hb : h b = some (.inr (7, fs))) (hc : kX10_simulate [.ref b, .long y1, .int x2] h n (.inr "java/lang/IllegalArgumentException", P, none) 1 6) : kL_simulate [.ref b, .long y1, .int x2, .ref o] h n (.inl (some (.int (nI 1))), P, none) 1 6 := by
  refine eM.ofH RL "simulate" [(0, .ref b), (1, .long y1), (3, .int x2), (4, .ref o)] pn_L rfl rfl (Nat.le_of_ble_eq_true rfl) rfl ?_
  refine ev_aload dL_simulate_0 rfl ?_
  refine ev_iconst (v := nI 0) dL_simulate_2 rfl ?_
  refine ev_aload_n dL_simulate_3 rfl rfl ?_
  refine ev_lload_n dL_simulate_4 rfl rfl ?_
  refine ev_iload_n dL_simulate_5 rfl rfl ?_
  refine ev_callVc dL_simulate_6 hc rfl lk_L_78 hb ⟨Nat.le_of_ble_eq_true rfl, Nat.le_of_ble_eq_true rfl⟩ rfl (Nat.le_of_ble_eq_true rfl) ⟨by show 0 + _ ≤ _; omega, by show 0 + _ ≤ _; omega⟩ [] ⟨0, 11, 14, 13⟩ [] rfl (fun z hz => absurd hz List.not_mem_nil) (by decide) (by decide) wk_L_13 wp_IllegalArgumentException (fun q n9 g hg => ?_)
  refine ev_astore dL_simulate_14 (Nat.le_of_ble_eq_true rfl) ?_
  refine ev_iconst (v := nI 1) dL_simulate_16 rfl ?_
  exact ev_iret dL_simulate_17 rfl rfl rfl hg (fun _ e => nomatch e) (by omega) (by omega)
set_option maxHeartbeats 1000000 in
theorem w_save {h : eH} {n b o : Nat} {fs : List Value} {F : Nat → Int64} {P : eH → Prop} {x1 : Int32} {v : Int32} (hb : h b = some (.inr (7, fs))) (hc : kX10_save [.ref b, .int x1] h n (.inl (some (.int v)), P, some n) 0 0) (hP : ∀ g, P g → g o = some (.inl (4, 1, .inr (.inl F)))) : kL_save [.ref b, .int x1, .ref o] h n (.inl (some (.int (nI 0))), eOut o F v P, some n) 0 0 := by
  refine eM.ofH RL "save" [(0, .ref b), (1, .int x1), (2, .ref o)] pn_L rfl rfl (Nat.le_of_ble_eq_true rfl) rfl ?_
  refine ev_aload_n dL_save_0 rfl rfl ?_
  refine ev_iconst (v := nI 0) dL_save_1 rfl ?_
  refine ev_aload_n dL_save_2 rfl rfl ?_
  refine ev_iload_n dL_save_3 rfl rfl ?_
  refine ev_callVi dL_save_4 hc rfl lk_L_82 hb ⟨Nat.le_of_ble_eq_true rfl, Nat.le_of_ble_eq_true rfl⟩ rfl (Nat.le_of_ble_eq_true rfl) ⟨by show 0 + _ ≤ _; omega, by show 0 + _ ≤ _; omega⟩ (fun g hg => ?_)
  refine ev_i2l dL_save_7 rfl ?_
  refine ev_lastore dL_save_8 (hP g hg) (by unfold vp_in; decide) ?_
  refine ev_goto (tgt := 15) dL_save_9 (by decide) ?_
  refine ev_iconst (v := nI 0) dL_save_15 rfl ?_
  exact ev_iret dL_save_16 rfl rfl rfl ⟨g, hg, rfl⟩ (fun _ e => Option.some.inj e) (by omega) (by omega)
set_option maxHeartbeats 1000000 in
theorem w_save_1 {h : eH} {n b o : Nat} {fs : List Value} {P : eH → Prop} {x1 : Int32} (hb : h b = some (.inr (7, fs))) (hc : kX10_save [.ref b, .int x1] h n (.inr "java/lang/IndexOutOfBoundsException", P, none) 1 6) : kL_save [.ref b, .int x1, .ref o] h n (.inl (some (.int (nI 1))), P, none) 1 6 := by
  refine eM.ofH RL "save" [(0, .ref b), (1, .int x1), (2, .ref o)] pn_L rfl rfl (Nat.le_of_ble_eq_true rfl) rfl ?_
  refine ev_aload_n dL_save_0 rfl rfl ?_
  refine ev_iconst (v := nI 0) dL_save_1 rfl ?_
  refine ev_aload_n dL_save_2 rfl rfl ?_
  refine ev_iload_n dL_save_3 rfl rfl ?_
  refine ev_callVc dL_save_4 hc rfl lk_L_82 hb ⟨Nat.le_of_ble_eq_true rfl, Nat.le_of_ble_eq_true rfl⟩ rfl (Nat.le_of_ble_eq_true rfl) ⟨by show 0 + _ ≤ _; omega, by show 0 + _ ≤ _; omega⟩ [] ⟨0, 9, 12, 28⟩ [] rfl (fun z hz => absurd hz List.not_mem_nil) (by decide) (by decide) wk_L_28 wp_IndexOutOfBoundsException (fun q n9 g hg => ?_)
  refine ev_astore_n dL_save_12 rfl (Nat.le_of_ble_eq_true rfl) ?_
  refine ev_iconst (v := nI 1) dL_save_13 rfl ?_
  exact ev_iret dL_save_14 rfl rfl rfl hg (fun _ e => nomatch e) (by omega) (by omega)
set_option maxHeartbeats 1000000 in
theorem w_restore {h : eH} {n b o : Nat} {fs : List Value} {F : Nat → Int64} {P : eH → Prop} {x1 : Int32} {v : Int32} (hb : h b = some (.inr (7, fs))) (hc : kX10_restore [.ref b, .int x1] h n (.inl (some (.int v)), P, some n) 0 0) (hP : ∀ g, P g → g o = some (.inl (4, 1, .inr (.inl F)))) : kL_restore [.ref b, .int x1, .ref o] h n (.inl (some (.int (nI 0))), eOut o F v P, some n) 0 0 := by
  refine eM.ofH RL "restore" [(0, .ref b), (1, .int x1), (2, .ref o)] pn_L rfl rfl (Nat.le_of_ble_eq_true rfl) rfl ?_
  refine ev_aload_n dL_restore_0 rfl rfl ?_
  refine ev_iconst (v := nI 0) dL_restore_1 rfl ?_
  refine ev_aload_n dL_restore_2 rfl rfl ?_
  refine ev_iload_n dL_restore_3 rfl rfl ?_
  refine ev_callVi dL_restore_4 hc rfl lk_L_85 hb ⟨Nat.le_of_ble_eq_true rfl, Nat.le_of_ble_eq_true rfl⟩ rfl (Nat.le_of_ble_eq_true rfl) ⟨by show 0 + _ ≤ _; omega, by show 0 + _ ≤ _; omega⟩ (fun g hg => ?_)
  refine ev_i2l dL_restore_7 rfl ?_
  refine ev_lastore dL_restore_8 (hP g hg) (by unfold vp_in; decide) ?_
  refine ev_goto (tgt := 18) dL_restore_9 (by decide) ?_
  refine ev_iconst (v := nI 0) dL_restore_18 rfl ?_
  exact ev_iret dL_restore_19 rfl rfl rfl ⟨g, hg, rfl⟩ (fun _ e => Option.some.inj e) (by omega) (by omega)
set_option maxHeartbeats 1000000 in
theorem w_restore_1 {h : eH} {n b o : Nat} {fs : List Value} {P : eH → Prop} {x1 : Int32} (hb : h b = some (.inr (7, fs))) (hc : kX10_restore [.ref b, .int x1] h n (.inr "java/lang/IndexOutOfBoundsException", P, none) 1 6) : kL_restore [.ref b, .int x1, .ref o] h n (.inl (some (.int (nI 1))), P, none) 1 6 := by
  refine eM.ofH RL "restore" [(0, .ref b), (1, .int x1), (2, .ref o)] pn_L rfl rfl (Nat.le_of_ble_eq_true rfl) rfl ?_
  refine ev_aload_n dL_restore_0 rfl rfl ?_
  refine ev_iconst (v := nI 0) dL_restore_1 rfl ?_
  refine ev_aload_n dL_restore_2 rfl rfl ?_
  refine ev_iload_n dL_restore_3 rfl rfl ?_
  refine ev_callVc dL_restore_4 hc rfl lk_L_85 hb ⟨Nat.le_of_ble_eq_true rfl, Nat.le_of_ble_eq_true rfl⟩ rfl (Nat.le_of_ble_eq_true rfl) ⟨by show 0 + _ ≤ _; omega, by show 0 + _ ≤ _; omega⟩ [] ⟨0, 9, 12, 28⟩ [⟨0, 9, 15, 15⟩] rfl (fun z hz => absurd hz List.not_mem_nil) (by decide) (by decide) wk_L_28 wp_IndexOutOfBoundsException (fun q n9 g hg => ?_)
  refine ev_astore_n dL_restore_12 rfl (Nat.le_of_ble_eq_true rfl) ?_
  refine ev_iconst (v := nI 1) dL_restore_13 rfl ?_
  exact ev_iret dL_restore_14 rfl rfl rfl hg (fun _ e => nomatch e) (by omega) (by omega)
set_option maxHeartbeats 1000000 in
theorem w_restore_2 {h : eH} {n b o : Nat} {fs : List Value} {P : eH → Prop} {x1 : Int32} (hb : h b = some (.inr (7, fs))) (hc : kX10_restore [.ref b, .int x1] h n (.inr "java/lang/IllegalStateException", P, none) 1 6) : kL_restore [.ref b, .int x1, .ref o] h n (.inl (some (.int (nI 2))), P, none) 1 6 := by
  refine eM.ofH RL "restore" [(0, .ref b), (1, .int x1), (2, .ref o)] pn_L rfl rfl (Nat.le_of_ble_eq_true rfl) rfl ?_
  refine ev_aload_n dL_restore_0 rfl rfl ?_
  refine ev_iconst (v := nI 0) dL_restore_1 rfl ?_
  refine ev_aload_n dL_restore_2 rfl rfl ?_
  refine ev_iload_n dL_restore_3 rfl rfl ?_
  refine ev_callVc dL_restore_4 hc rfl lk_L_85 hb ⟨Nat.le_of_ble_eq_true rfl, Nat.le_of_ble_eq_true rfl⟩ rfl (Nat.le_of_ble_eq_true rfl) ⟨by show 0 + _ ≤ _; omega, by show 0 + _ ≤ _; omega⟩ [⟨0, 9, 12, 28⟩] ⟨0, 9, 15, 15⟩ [] rfl (fun z hz => by
    simp only [List.mem_cons, List.not_mem_nil, or_false] at hz
    rcases hz with rfl
    · exact Or.inr ⟨by decide, _, wk_L_28, by decide⟩) (by decide) (by decide) wk_L_15 wp_IllegalStateException (fun q n9 g hg => ?_)
  refine ev_astore_n dL_restore_15 rfl (Nat.le_of_ble_eq_true rfl) ?_
  refine ev_iconst (v := nI 2) dL_restore_16 rfl ?_
  exact ev_iret dL_restore_17 rfl rfl rfl hg (fun _ e => nomatch e) (by omega) (by omega)
