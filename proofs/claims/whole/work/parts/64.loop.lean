theorem law_cmp {L i : Nat} (hL : L ≤ 2560) (hi : i ≤ 2560) (h : ¬ nI L - nI 5 < nI i) : i + 5 ≤ L := by
  by_cases h5 : 5 ≤ L
  · rw [pk_sub h5] at h
    rw [Int32.lt_iff_toInt_lt, nI_toInt (by omega), nI_toInt (by omega)] at h
    omega
  · refine absurd ?_ h
    rw [Int32.lt_iff_toInt_lt, nI_toInt (n := i) (by omega)]
    have e : (nI L - nI 5).toInt < 0 := by
      rcases (by omega : L = 0 ∨ L = 1 ∨ L = 2 ∨ L = 3 ∨ L = 4) with rfl | rfl | rfl | rfl | rfl <;> decide
    omega
set_option maxHeartbeats 4000000 in
theorem law_turn {mn : String} {tb : List ExceptionTableEntry} {a b L n c0 s0 mc ms t : Nat} {xs : Nat → Int32} {h : eH} {r : eRes} (hL : L ≤ 2560) (hi : 5 * t + 5 ≤ L) (hmc : c0 + 1 ≤ mc ∧ s0 + 6 ≤ ms) (hJ : eJ b (200 * t) h)
    (K : ∀ (g : eH) (n' c' s' : Nat), eJ b (200 * t + 200) g → c' ≤ c0 + 1 → s' ≤ s0 + 6 → eV (mLw mn tb a L xs) 1744 (lvL a b (5 * t)) [] (g, n', c', s') r mc ms) : eV (mLw mn tb a L xs) 32 (lvL a b (5 * t)) [] (h, n, c0, s0) r mc ms := by
  refine ev_aload_n dL_law_32 rfl rfl ?_
  refine ev_iload dL_law_33 rfl ?_
  refine ev_sldN dL_law_35 rfl (by omega) (by omega) ?_
  refine ev_bipush (v := nI 31) dL_law_36 (by decide) ?_
  refine ev_iand dL_law_38 ?_
  generalize xs (5 * t) &&& nI 31 = w
  by_cases hw : 0 ≤ w.toInt ∧ w.toInt < (26 : Nat)
  · obtain ⟨k, hk, rfl, -⟩ := zN hw
    obtain ⟨σ, x, ℓ, c, τ, us, τs, τm, hd⟩ := hJ
    rcases (by omega : k = 0 ∨ k = 1 ∨ k = 2 ∨ k = 3 ∨ k = 4 ∨ k = 5 ∨ k = 6 ∨ k = 7 ∨ k = 8 ∨ k = 9 ∨ k = 10 ∨ k = 11 ∨ k = 12 ∨ k = 13 ∨ k = 14 ∨ k = 15 ∨ k = 16 ∨ k = 17 ∨ k = 18 ∨ k = 19 ∨ k = 20 ∨ k = 21 ∨ k = 22 ∨ k = 23 ∨ k = 24 ∨ k = 25) with rfl | rfl | rfl | rfl | rfl | rfl | rfl | rfl | rfl | rfl | rfl | rfl | rfl | rfl | rfl | rfl | rfl | rfl | rfl | rfl | rfl | rfl | rfl | rfl | rfl | rfl
    · exact ev_tabN (off := 117) (tgt := 156) dL_law_39 (by decide) (by decide) (by decide) rfl (by decide) (lc_append hL hi hmc (st_append hd (by omega)) K)
    · exact ev_tabN (off := 173) (tgt := 212) dL_law_39 (by decide) (by decide) (by decide) rfl (by decide) (lc_clearText hL hi hmc (st_clearText hd (by omega)) K)
    · exact ev_tabN (off := 186) (tgt := 225) dL_law_39 (by decide) (by decide) (by decide) rfl (by decide) (lc_errorPosition hL hi hmc (st_errorPosition hd (by omega)) K)
    · exact ev_tabN (off := 199) (tgt := 238) dL_law_39 (by decide) (by decide) (by decide) rfl (by decide) (lc_load hL hi hmc (st_load hd (by omega)) K)
    · exact ev_tabN (off := 243) (tgt := 282) dL_law_39 (by decide) (by decide) (by decide) rfl (by decide) (lc_about hL hi hmc (st_about hd (by omega)) K)
    · exact ev_tabN (off := 299) (tgt := 338) dL_law_39 (by decide) (by decide) (by decide) rfl (by decide) (lc_personOf hL hi hmc (st_personOf hd (by omega)) K)
    · exact ev_tabN (off := 367) (tgt := 406) dL_law_39 (by decide) (by decide) (by decide) rfl (by decide) (lc_nameOf hL hi hmc (st_nameOf hd (by omega)) K)
    · exact ev_tabN (off := 435) (tgt := 474) dL_law_39 (by decide) (by decide) (by decide) rfl (by decide) (lc_letter hL hi hmc (st_letter hd (by omega)) K)
    · exact ev_tabN (off := 503) (tgt := 542) dL_law_39 (by decide) (by decide) (by decide) rfl (by decide) (lc_roll hL hi hmc (st_roll hd (by omega)) K)
    · exact ev_tabN (off := 559) (tgt := 598) dL_law_39 (by decide) (by decide) (by decide) rfl (by decide) (lc_meant hL hi hmc (st_meant hd (by omega)) K)
    · exact ev_tabN (off := 651) (tgt := 690) dL_law_39 (by decide) (by decide) (by decide) rfl (by decide) (lc_person hL hi hmc (st_person hd (by omega)) K)
    · exact ev_tabN (off := 731) (tgt := 770) dL_law_39 (by decide) (by decide) (by decide) rfl (by decide) (lc_sit hL hi hmc (st_sit hd (by omega)) K)
    · exact ev_tabN (off := 799) (tgt := 838) dL_law_39 (by decide) (by decide) (by decide) rfl (by decide) (lc_give hL hi hmc (st_give hd (by omega)) K)
    · exact ev_tabN (off := 891) (tgt := 930) dL_law_39 (by decide) (by decide) (by decide) rfl (by decide) (lc_call hL hi hmc (st_call hd (by omega)) K)
    · exact ev_tabN (off := 971) (tgt := 1010) dL_law_39 (by decide) (by decide) (by decide) rfl (by decide) (lc_years hL hi hmc (st_years hd (by omega)) K)
    · exact ev_tabN (off := 1027) (tgt := 1066) dL_law_39 (by decide) (by decide) (by decide) rfl (by decide) (lc_set hL hi hmc (st_set hd (by omega)) K)
    · exact ev_tabN (off := 1095) (tgt := 1134) dL_law_39 (by decide) (by decide) (by decide) rfl (by decide) (lc_undo hL hi hmc (st_undo hd (by omega)) K)
    · exact ev_tabN (off := 1139) (tgt := 1178) dL_law_39 (by decide) (by decide) (by decide) rfl (by decide) (lc_why hL hi hmc (st_why hd (by omega)) K)
    · exact ev_tabN (off := 1231) (tgt := 1270) dL_law_39 (by decide) (by decide) (by decide) rfl (by decide) (lc_endsIn hL hi hmc (st_endsIn hd (by omega)) K)
    · exact ev_tabN (off := 1287) (tgt := 1326) dL_law_39 (by decide) (by decide) (by decide) rfl (by decide) (lc_bestName hL hi hmc (st_bestName hd (by omega)) K)
    · exact ev_tabN (off := 1367) (tgt := 1406) dL_law_39 (by decide) (by decide) (by decide) rfl (by decide) (lc_bestGiver hL hi hmc (st_bestGiver hd (by omega)) K)
    · exact ev_tabN (off := 1380) (tgt := 1419) dL_law_39 (by decide) (by decide) (by decide) rfl (by decide) (lc_mixed hL hi hmc (st_mixed hd (by omega)) K)
    · exact ev_tabN (off := 1393) (tgt := 1432) dL_law_39 (by decide) (by decide) (by decide) rfl (by decide) (lc_runScript hL hi hmc (st_runScript hd (by omega)) K)
    · exact ev_tabN (off := 1493) (tgt := 1532) dL_law_39 (by decide) (by decide) (by decide) rfl (by decide) (lc_simulate hL hi hmc (st_simulate hd (by omega)) K)
    · exact ev_tabN (off := 1593) (tgt := 1632) dL_law_39 (by decide) (by decide) (by decide) rfl (by decide) (lc_save hL hi hmc (st_save hd (by omega)) K)
    · exact ev_tabN (off := 1649) (tgt := 1688) dL_law_39 (by decide) (by decide) (by decide) rfl (by decide) (lc_restore hL hi hmc (st_restore hd (by omega)) K)
  · refine ev_tableOut (tgt := 1744) dL_law_39 (by omega) (by decide) ?_
    exact K h n c0 s0 (hJ.mono (by omega)) (by omega) (by omega)
theorem law_loop {mn : String} {tb : List ExceptionTableEntry} {a b L : Nat} {xs : Nat → Int32} {r : eRes} (hL : L ≤ 2560) (h1 : r.1 = .inl (some (.int 1))) (h2 : ∀ g, r.2.1 g) (h3 : r.2.2 = none) : ∀ (d t n c0 s0 : Nat) (h : eH), d = 513 - t → 5 * t ≤ 2560 → eJ b (200 * t) h → c0 ≤ 400 + t → s0 ≤ 20000 + 6 * t → eV (mLw mn tb a L xs) 23 (lvL a b (5 * t)) [] (h, n, c0, s0) r 601024 7293034 := by
  intro d
  induction d using Nat.strongRecOn with
  | _ d ih =>
  intro t n c0 s0 h hd ht hJ hc hs
  refine ev_iload dL_law_23 rfl ?_
  refine ev_aload_n dL_law_25 rfl rfl ?_
  refine ev_slen dL_law_26 rfl ?_
  refine ev_iconst (v := nI 5) dL_law_27 rfl ?_
  refine ev_isub dL_law_28 ?_
  refine ev_icmp_gt (tgt := 1750) dL_law_29 (by decide) (fun _ => ?_) (fun q => ?_)
  · refine ev_iconst (v := 1) dL_law_1750 rfl ?_
    exact ev_iret (ty := .boolean) dL_law_1751 rfl narrow_b1 h1 (h2 _) (fun k e => absurd e (by rw [h3]; simp)) (by omega) (by omega)
  · have hi := law_cmp hL ht q
    refine law_turn hL hi ⟨by omega, by omega⟩ hJ (fun g n' c' s' hJ' hc' hs' => ?_)
    refine ev_iinc (v := nI (5 * (t + 1))) dL_law_1744 rfl ?_ (Nat.le_of_ble_eq_true rfl) ?_
    · show nI (5 * t) + nI 5 = nI (5 * (t + 1))
      rw [nI_add]
      rfl
    refine ev_goto (tgt := 23) dL_law_1747 (by decide) (eV.sub (lv' := lvL a b (5 * (t + 1))) (lvL_in rfl rfl rfl rfl rfl) rfl ?_)
    exact ih (513 - (t + 1)) (by omega) (t + 1) n' c' s' g rfl (by omega) hJ' (by omega) (by omega)
