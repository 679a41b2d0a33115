theorem eP0 {h : eH} {b ℓ c : Nat} {σ : St} {x : Nat → Nat} {τ τs : Nat → St} {us : Nat → Nat} (hO : eNB h b σ x ℓ c τ us τs) : ∀ g : eH, (fun q : eH => q = h) g → eNB g b σ x ℓ c τ us τs ∧ eFr h g b (b + 317) := fun g e => by
  have e : g = h := e
  subst e
  exact ⟨hO, eFr.rf⟩
theorem zP {y : Int32} (h : ¬ y.toInt < 0) : ∃ p, p < 2 ^ 31 ∧ y = nI p ∧ y.toInt = (p : Int) := zN (b := 2 ^ 31) ⟨by omega, by have := y.toInt_lt; exact_mod_cast this⟩
theorem z1N {z : Int32} {b : Nat} (h : 1 ≤ z.toInt ∧ z.toInt < (b : Int)) : ∃ k, (1 ≤ k ∧ k < b) ∧ z = nI k := by
  obtain ⟨k, hk, e, e2⟩ := zN (x := z) (b := b) ⟨by omega, h.2⟩
  exact ⟨k, ⟨by omega, hk⟩, e⟩
theorem zC {z2 z3 : Int32} (h : (1 ≤ z2.toInt ∧ z2.toInt < (5 : Nat)) ∧ 0 ≤ z3.toInt ∧ z3.toInt < ((26 ^ z2.toInt.toNat : Nat) : Int)) : ∃ m k, m < 2 ^ 31 ∧ k < 2 ^ 31 ∧ z2 = nI m ∧ z3 = nI k ∧ sCode m k = true := by
  obtain ⟨m, hm, rfl⟩ := z1N h.1
  obtain ⟨k, hk, rfl, -⟩ := zP (y := z3) (by omega)
  exact ⟨m, k, by omega, hk, rfl, rfl, (zcode (by omega) hk).symm.trans (decide_eq_true h)⟩
theorem zS {z z2 : Int32} (h : (0 ≤ z.toInt ∧ z.toInt < (3 : Nat)) ∧ (if z.toInt = (2 : Nat) then (0 : Int) else 1) ≤ z2.toInt ∧ z2.toInt < (10 : Nat)) : ∃ w v, w < 2 ^ 31 ∧ v < 2 ^ 31 ∧ z = nI w ∧ z2 = nI v ∧ sSetOK w v = true := by
  obtain ⟨w, hw, rfl, ew⟩ := zN h.1
  obtain ⟨v, hv, rfl, ev⟩ := zN (x := z2) (b := 10) ⟨by have := h.2.1; split at this <;> omega, h.2.2⟩
  refine ⟨w, v, by omega, by omega, rfl, rfl, decide_eq_true ⟨hw, ?_, by omega⟩⟩
  have h2 := h.2.1
  rw [ew, ev] at h2
  by_cases e : w = 2
  · rw [if_pos e]; omega
  · rw [if_neg e]
    rw [if_neg (by omega)] at h2
    omega
theorem eInv.gd {σ : St} {c T : Nat} {τ τs τm : Nat → St} {us : Nat → Nat} (h : eInv σ c τ us τs τm T) : eIv σ T ∧ sGd σ := h.1
theorem lP {y : Int64} {b : Nat} (h : 0 ≤ y.toInt ∧ y.toInt < (b : Int)) : ∃ s, s < b ∧ y = lN s := by
  refine ⟨y.toInt.toNat, by omega, ?_⟩
  apply Int64.toInt_inj.mp
  have := y.toInt_lt
  rw [lN_Z (by omega)]
  omega
set_option maxHeartbeats 1000000 in
theorem st_append {b T n ℓ c : Nat} {z : Int32} {h : eH} {σ : St} {x : Nat → Nat} {τ τs τm : Nat → St} {us : Nat → Nat} (hd : eJd b T h σ x ℓ c τ us τs τm) (hT : T ≤ 200000) : eStep kL_append kX11_append [.ref b, .int z, .ref (b + 326)] [.ref (b + 317), .int z] b h n (eJ b (T + 200)) := by
  have hO := hd.1
  have hb := hO.1
  have hi := hd.2.2.2
  have hI : eIv σ T := hi.1.1
  have hG : sGd σ := hi.1.2
  have hK : eOK σ := hI.ok (by omega)
  have hB := hK.1
  by_cases hz : (0 ≤ z.toInt ∧ z.toInt < (256 : Nat))
  · obtain ⟨v, hv, rfl, -⟩ := zN hz
    by_cases hl : ℓ < 120
    · exact eStep.ok hd (fun F hF => w_append hb (c_X10_append hO hv hl) hF) (fun g hg => hg) (fun g n' bad hM => c_X11_append hM hv hl) (hi.mono (by omega))
    · exact eStep.no (j := 2) hd (by omega) (w_append_2 hb (c_X10_append_f hO hv (by omega))) (eP0 hO) (fun g n' bad hM => c_X11_append_f hM hv (by omega)) (by omega)
  · exact eStep.no (j := 1) hd (by omega) (w_append_1 hb (c_X10_append_n hz)) (eP0 hO) (fun g n' bad hM => c_X11_append_n hM hz) (by omega)
set_option maxHeartbeats 1000000 in
theorem st_load {b T n ℓ c : Nat}  {h : eH} {σ : St} {x : Nat → Nat} {τ τs τm : Nat → St} {us : Nat → Nat} (hd : eJd b T h σ x ℓ c τ us τs τm) (hT : T ≤ 200000) : eStep kL_load kX11_load [.ref b, .ref (b + 326)] [.ref (b + 317)] b h n (eJ b (T + 200)) := by
  have hO := hd.1
  have hb := hO.1
  have hi := hd.2.2.2
  have hI : eIv σ T := hi.1.1
  have hG : sGd σ := hi.1.2
  have hK : eOK σ := hI.ok (by omega)
  have hB := hK.1
  by_cases he : tErr x ℓ (mU 0) = none
  · exact eStep.ok hd (fun F hF => w_load hb (c_X10_load hO he) hF) (fun g hg => hg) (fun g n' bad hM => c_X11_load hM he) (hi.load ((sLd_iv 120 (mU 1) regNew 0 0 ⟨eIv_new, sGd_new⟩).mono (by omega)))
  · exact eStep.no (j := 1) hd (by omega) (w_load_1 hb (c_X10_load_1 hO he)) (fun g hg => hg) (fun g n' bad hM => c_X11_load_1 hM he) (by omega)
set_option maxHeartbeats 1000000 in
theorem st_about {b T n ℓ c : Nat} {z : Int32} {h : eH} {σ : St} {x : Nat → Nat} {τ τs τm : Nat → St} {us : Nat → Nat} (hd : eJd b T h σ x ℓ c τ us τs τm) (hT : T ≤ 200000) : eStep kL_about kX11_about [.ref b, .int z, .ref (b + 326)] [.ref (b + 317), .int z] b h n (eJ b (T + 200)) := by
  have hO := hd.1
  have hb := hO.1
  have hi := hd.2.2.2
  have hI : eIv σ T := hi.1.1
  have hG : sGd σ := hi.1.2
  have hK : eOK σ := hI.ok (by omega)
  have hB := hK.1
  by_cases hz : (0 ≤ z.toInt ∧ z.toInt < (15 : Nat))
  · obtain ⟨w, hw, rfl, -⟩ := zN hz
    exact eStep.ok hd (fun F hF => w_about hb (c_X10_about hO hB hw) hF) (eP0 hO) (fun g n' bad hM => c_X11_about hM hK hw) (hi.mono (by omega))
  · exact eStep.no (j := 1) hd (by omega) (w_about_1 hb (c_X10_about_n hz)) (eP0 hO) (fun g n' bad hM => c_X11_about_1 hM hz) (by omega)
set_option maxHeartbeats 1000000 in
theorem st_personOf {b T n ℓ c : Nat} {z : Int32} {z2 : Int32} {h : eH} {σ : St} {x : Nat → Nat} {τ τs τm : Nat → St} {us : Nat → Nat} (hd : eJd b T h σ x ℓ c τ us τs τm) (hT : T ≤ 200000) : eStep kL_personOf kX11_personOf [.ref b, .int z, .int z2, .ref (b + 326)] [.ref (b + 317), .int z, .int z2] b h n (eJ b (T + 200)) := by
  have hO := hd.1
  have hb := hO.1
  have hi := hd.2.2.2
  have hI : eIv σ T := hi.1.1
  have hG : sGd σ := hi.1.2
  have hK : eOK σ := hI.ok (by omega)
  have hB := hK.1
  by_cases hz : (0 ≤ z.toInt ∧ z.toInt < (σ 0 0 : Int))
  · obtain ⟨p, hp, rfl, -⟩ := zN hz
    by_cases hy : (0 ≤ z2.toInt ∧ z2.toInt < (9 : Nat))
    · obtain ⟨w, hw, rfl, -⟩ := zN hy
      exact eStep.ok hd (fun F hF => w_personOf hb (c_X10_personOf hO hB hp hw) hF) (eP0 hO) (fun g n' bad hM => c_X11_personOf hM hK hp hw) (hi.mono (by omega))
    · exact eStep.no (j := 2) hd (by omega) (w_personOf_2 hb (c_X10_personOf_2 hO hB hp hy)) (eP0 hO) (fun g n' bad hM => c_X11_personOf_2 hM hK hp hy) (by omega)
  · exact eStep.no (j := 1) hd (by omega) (w_personOf_1 hb (c_X10_personOf_1 hO hB hz)) (eP0 hO) (fun g n' bad hM => c_X11_personOf_1 hM hK hz) (by omega)
set_option maxHeartbeats 1000000 in
theorem st_nameOf {b T n ℓ c : Nat} {z : Int32} {z2 : Int32} {h : eH} {σ : St} {x : Nat → Nat} {τ τs τm : Nat → St} {us : Nat → Nat} (hd : eJd b T h σ x ℓ c τ us τs τm) (hT : T ≤ 200000) : eStep kL_nameOf kX11_nameOf [.ref b, .int z, .int z2, .ref (b + 326)] [.ref (b + 317), .int z, .int z2] b h n (eJ b (T + 200)) := by
  have hO := hd.1
  have hb := hO.1
  have hi := hd.2.2.2
  have hI : eIv σ T := hi.1.1
  have hG : sGd σ := hi.1.2
  have hK : eOK σ := hI.ok (by omega)
  have hB := hK.1
  by_cases hz : (0 ≤ z.toInt ∧ z.toInt < (σ 0 1 : Int))
  · obtain ⟨p, hp, rfl, -⟩ := zN hz
    by_cases hy : (0 ≤ z2.toInt ∧ z2.toInt < (8 : Nat))
    · obtain ⟨w, hw, rfl, -⟩ := zN hy
      exact eStep.ok hd (fun F hF => w_nameOf hb (c_X10_nameOf hO hK hp hw) hF) (eP0 hO) (fun g n' bad hM => c_X11_nameOf hM hK hp hw) (hi.mono (by omega))
    · exact eStep.no (j := 2) hd (by omega) (w_nameOf_2 hb (c_X10_nameOf_2 hO hB hp hy)) (eP0 hO) (fun g n' bad hM => c_X11_nameOf_2 hM hK hp hy) (by omega)
  · exact eStep.no (j := 1) hd (by omega) (w_nameOf_1 hb (c_X10_nameOf_1 hO hB hz)) (eP0 hO) (fun g n' bad hM => c_X11_nameOf_1 hM hK hz) (by omega)
set_option maxHeartbeats 1000000 in
theorem st_letter {b T n ℓ c : Nat} {z : Int32} {z2 : Int32} {h : eH} {σ : St} {x : Nat → Nat} {τ τs τm : Nat → St} {us : Nat → Nat} (hd : eJd b T h σ x ℓ c τ us τs τm) (hT : T ≤ 200000) : eStep kL_letter kX11_letter [.ref b, .int z, .int z2, .ref (b + 326)] [.ref (b + 317), .int z, .int z2] b h n (eJ b (T + 200)) := by
  have hO := hd.1
  have hb := hO.1
  have hi := hd.2.2.2
  have hI : eIv σ T := hi.1.1
  have hG : sGd σ := hi.1.2
  have hK : eOK σ := hI.ok (by omega)
  have hB := hK.1
  by_cases hz : (0 ≤ z.toInt ∧ z.toInt < (σ 0 1 : Int))
  · obtain ⟨k, hk, rfl, -⟩ := zN hz
    by_cases hy : z2.toInt < 0
    · exact eStep.no (j := 1) hd (by omega) (w_letter_1 hb (c_X10_letter_2 hO hB hk hy)) (eP0 hO) (fun g n' bad hM => c_X11_letter_2 hM hK hk hy) (by omega)
    · obtain ⟨p, hp, rfl, -⟩ := zP hy
      exact eStep.ok hd (fun F hF => w_letter hb (c_X10_letter hO hK hk hp) hF) (eP0 hO) (fun g n' bad hM => c_X11_letter hM hK hk hp) (hi.mono (by omega))
  · exact eStep.no (j := 1) hd (by omega) (w_letter_1 hb (c_X10_letter_1 hO hB hz)) (eP0 hO) (fun g n' bad hM => c_X11_letter_1 hM hK hz) (by omega)
set_option maxHeartbeats 1000000 in
theorem st_roll {b T n ℓ c : Nat} {z : Int32} {h : eH} {σ : St} {x : Nat → Nat} {τ τs τm : Nat → St} {us : Nat → Nat} (hd : eJd b T h σ x ℓ c τ us τs τm) (hT : T ≤ 200000) : eStep kL_roll kX11_roll [.ref b, .int z, .ref (b + 326)] [.ref (b + 317), .int z] b h n (eJ b (T + 200)) := by
  have hO := hd.1
  have hb := hO.1
  have hi := hd.2.2.2
  have hI : eIv σ T := hi.1.1
  have hG : sGd σ := hi.1.2
  have hK : eOK σ := hI.ok (by omega)
  have hB := hK.1
  by_cases hy : z.toInt < 0
  · exact eStep.no (j := 1) hd (by omega) (w_roll_1 hb (c_X10_roll_1 hy)) (eP0 hO) (fun g n' bad hM => c_X11_roll_1 hM hy) (by omega)
  · obtain ⟨k, hk, rfl, -⟩ := zP hy
    exact eStep.ok hd (fun F hF => w_roll hb (c_X10_roll hO hK hk) hF) (eP0 hO) (fun g n' bad hM => c_X11_roll hM hK hk) (hi.mono (by omega))
set_option maxHeartbeats 1000000 in
theorem st_meant {b T n ℓ c : Nat} {z : Int32} {z2 : Int32} {z3 : Int32} {z4 : Int32} {h : eH} {σ : St} {x : Nat → Nat} {τ τs τm : Nat → St} {us : Nat → Nat} (hd : eJd b T h σ x ℓ c τ us τs τm) (hT : T ≤ 200000) : eStep kL_meant kX11_meant [.ref b, .int z, .int z2, .int z3, .int z4, .ref (b + 326)] [.ref (b + 317), .int z, .int z2, .int z3, .int z4] b h n (eJ b (T + 200)) := by
  have hO := hd.1
  have hb := hO.1
  have hi := hd.2.2.2
  have hI : eIv σ T := hi.1.1
  have hG : sGd σ := hi.1.2
  have hK : eOK σ := hI.ok (by omega)
  have hB := hK.1
  by_cases hz : (0 ≤ z.toInt ∧ z.toInt < (4 : Nat))
  · obtain ⟨d, hd4, rfl, -⟩ := zN hz
    by_cases hc : (1 ≤ z2.toInt ∧ z2.toInt < (5 : Nat)) ∧ 0 ≤ z3.toInt ∧ z3.toInt < ((26 ^ z2.toInt.toNat : Nat) : Int)
    · obtain ⟨m, k, hm, hk, rfl, rfl, hmc⟩ := zC hc
      by_cases hw : (0 ≤ z4.toInt ∧ z4.toInt < (2 : Nat))
      · obtain ⟨w, hw2, rfl, -⟩ := zN hw
        rcases (by omega : w = 0 ∨ w = 1) with rfl | rfl
        · exact eStep.ok hd (fun F hF => w_meant hb (c_X10_meant hO hK hd4 hm hk hmc) hF) (eP0 hO) (fun g n' bad hM => by have q := c_X11_meant (n := n') hM hK hd4 hm hk hmc; rwa [sMns_eq hG.1 hI.ho] at q) (hi.mono (by omega))
        · exact eStep.ok hd (fun F hF => w_meant hb (c_X10_meant_b hO hK hd4 hm hk hmc) hF) (eP0 hO) (fun g n' bad hM => by have q := c_X11_meant_b (n := n') hM hK hd4 hm hk hmc; rwa [← sMeantN_eq] at q) (hi.mono (by omega))
      · exact eStep.no (j := 2) hd (by omega) (w_meant_2 hb (c_X10_meant_3 hd4 hm hk hmc hw)) (eP0 hO) (fun g n' bad hM => c_X11_meant_3 hM hd4 hm hk hmc hw) (by omega)
    · exact eStep.no (j := 2) hd (by omega) (w_meant_2 hb (c_X10_meant_2 hd4 hc)) (eP0 hO) (fun g n' bad hM => c_X11_meant_2 hM hd4 hc) (by omega)
  · exact eStep.no (j := 1) hd (by omega) (w_meant_1 hb (c_X10_meant_1 hz)) (eP0 hO) (fun g n' bad hM => c_X11_meant_1 hM hz) (by omega)
set_option maxHeartbeats 1000000 in
theorem st_person {b T n ℓ c : Nat} {z : Int32} {z2 : Int32} {z3 : Int32} {h : eH} {σ : St} {x : Nat → Nat} {τ τs τm : Nat → St} {us : Nat → Nat} (hd : eJd b T h σ x ℓ c τ us τs τm) (hT : T ≤ 200000) : eStep kL_person kX11_person [.ref b, .int z, .int z2, .int z3, .ref (b + 326)] [.ref (b + 317), .int z, .int z2, .int z3] b h n (eJ b (T + 200)) := by
  have hO := hd.1
  have hb := hO.1
  have hi := hd.2.2.2
  have hI : eIv σ T := hi.1.1
  have hG : sGd σ := hi.1.2
  have hK : eOK σ := hI.ok (by omega)
  have hB := hK.1
  by_cases hz2 : (0 ≤ z2.toInt ∧ z2.toInt < (6 : Nat))
  · obtain ⟨f, hf, rfl, -⟩ := zN hz2
    by_cases hz3 : (0 ≤ z3.toInt ∧ z3.toInt < (4 : Nat))
    · obtain ⟨d, hd4, rfl, -⟩ := zN hz3
      by_cases hz : (0 ≤ z.toInt ∧ z.toInt < (100 : Nat))
      · obtain ⟨a, ha, rfl, -⟩ := zN hz
        by_cases hl : σ 0 0 < 12
        · exact eStep.ok hd (fun F hF => w_person hb (c_X10_person hO hB ha hf hd4 hl) hF) (fun g hg => hg) (fun g n' bad hM => c_X11_person hM hK hG ha hf hd4 hl) (hi.put hO.c14 (U := T + 200) ⟨(hI.addP (by omega) hf hd4 hl).mono (by omega), hG.addP hI.ho⟩ (by omega))
        · exact eStep.no (j := 3) hd (by omega) (w_person_3 hb (c_X10_person_4 hO hB ha hf hd4 (by omega))) (eP0 hO) (fun g n' bad hM => c_X11_person_4 hM hK ha hf hd4 (by omega)) (by omega)
      · exact eStep.no (j := 2) hd (by omega) (w_person_2 hb (c_X10_person_3 hf hd4 hz)) (eP0 hO) (fun g n' bad hM => c_X11_person_3 hM hf hd4 hz) (by omega)
    · exact eStep.no (j := 1) hd (by omega) (w_person_1 hb (c_X10_person_2 hf hz3)) (eP0 hO) (fun g n' bad hM => c_X11_person_1 hM (Or.inr hz3)) (by omega)
  · exact eStep.no (j := 1) hd (by omega) (w_person_1 hb (c_X10_person_1 hz2)) (eP0 hO) (fun g n' bad hM => c_X11_person_1 hM (Or.inl hz2)) (by omega)
set_option maxHeartbeats 1000000 in
theorem st_sit {b T n ℓ c : Nat} {z : Int32} {z2 : Int32} {h : eH} {σ : St} {x : Nat → Nat} {τ τs τm : Nat → St} {us : Nat → Nat} (hd : eJd b T h σ x ℓ c τ us τs τm) (hT : T ≤ 200000) : eStep kL_sit kX11_sit [.ref b, .int z, .int z2, .ref (b + 326)] [.ref (b + 317), .int z, .int z2] b h n (eJ b (T + 200)) := by
  have hO := hd.1
  have hb := hO.1
  have hi := hd.2.2.2
  have hI : eIv σ T := hi.1.1
  have hG : sGd σ := hi.1.2
  have hK : eOK σ := hI.ok (by omega)
  have hB := hK.1
  by_cases hz : (0 ≤ z.toInt ∧ z.toInt < (σ 0 0 : Int))
  · obtain ⟨p, hp, rfl, -⟩ := zN hz
    by_cases hz2 : (0 ≤ z2.toInt ∧ z2.toInt < (4 : Nat))
    · obtain ⟨d, hd4, rfl, -⟩ := zN hz2
      by_cases hk : sKept σ p d = true
      · exact eStep.no (j := 2) hd (by omega) (w_sit_2 hb (c_X10_sit_3 hO hK hp hd4 hk)) (eP0 hO) (fun g n' bad hM => c_X11_sit_3 hM hK hp hd4 hk) (by omega)
      · have hk := Bool.eq_false_iff.mpr hk
        exact eStep.ok hd (fun F hF => w_sit hb (c_X10_sit hO hK hp hd4 hk) hF) (fun g hg => hg) (fun g n' bad hM => c_X11_sit hM hK hp hd4 hk) (hi.put hO.c14 (U := T + 200) ⟨(hI.sit hd4).mono (by omega), hG.sit hk⟩ (by omega))
    · exact eStep.no (j := 1) hd (by omega) (w_sit_1 hb (c_X10_sit_2 hO hB hp hz2)) (eP0 hO) (fun g n' bad hM => c_X11_sit_1 hM hK (Or.inr hz2)) (by omega)
  · exact eStep.no (j := 1) hd (by omega) (w_sit_1 hb (c_X10_sit_1 hO hB hz)) (eP0 hO) (fun g n' bad hM => c_X11_sit_1 hM hK (Or.inl hz)) (by omega)
set_option maxHeartbeats 1000000 in
theorem st_give {b T n ℓ c : Nat} {z : Int32} {z2 : Int32} {z3 : Int32} {z4 : Int32} {h : eH} {σ : St} {x : Nat → Nat} {τ τs τm : Nat → St} {us : Nat → Nat} (hd : eJd b T h σ x ℓ c τ us τs τm) (hT : T ≤ 200000) : eStep kL_give kX11_give [.ref b, .int z, .int z2, .int z3, .int z4, .ref (b + 326)] [.ref (b + 317), .int z, .int z2, .int z3, .int z4] b h n (eJ b (T + 200)) := by
  have hO := hd.1
  have hb := hO.1
  have hi := hd.2.2.2
  have hI : eIv σ T := hi.1.1
  have hG : sGd σ := hi.1.2
  have hK : eOK σ := hI.ok (by omega)
  have hB := hK.1
  by_cases hz : (0 ≤ z.toInt ∧ z.toInt < (σ 0 0 : Int))
  · obtain ⟨g0, hg0, rfl, -⟩ := zN hz
    by_cases hz2 : (0 ≤ z2.toInt ∧ z2.toInt < (σ 0 0 : Int))
    · obtain ⟨p, hp, rfl, -⟩ := zN hz2
      by_cases hc : (1 ≤ z3.toInt ∧ z3.toInt < (5 : Nat)) ∧ 0 ≤ z4.toInt ∧ z4.toInt < ((26 ^ z3.toInt.toNat : Nat) : Int)
      · obtain ⟨m, k, hm, hk, rfl, rfl, hmc⟩ := zC hc
        exact eStep.ok hd (fun F hF => w_give hb (c_X10_give hO hK hg0 hp hm hk hmc) hF) (fun g hg => hg) (fun g n' bad hM => c_X11_give hM hK hg0 hp hm hk hmc) (hi.put hO.c14 (U := T + 200) ⟨(hI.giveT hg0 hp hmc).mono (by omega), hG.giveT⟩ (by omega))
      · exact eStep.no (j := 2) hd (by omega) (w_give_2 hb (c_X10_give_3 hO hB hg0 hp hc)) (eP0 hO) (fun g n' bad hM => c_X11_give_3 hM hK hg0 hp hc) (by omega)
    · exact eStep.no (j := 1) hd (by omega) (w_give_1 hb (c_X10_give_2 hO hB hg0 hz2)) (eP0 hO) (fun g n' bad hM => c_X11_give_1 hM hK (Or.inr hz2)) (by omega)
  · exact eStep.no (j := 1) hd (by omega) (w_give_1 hb (c_X10_give_1 hO hB hz)) (eP0 hO) (fun g n' bad hM => c_X11_give_1 hM hK (Or.inl hz)) (by omega)
set_option maxHeartbeats 1000000 in
theorem st_why {b T n ℓ c : Nat} {z : Int32} {z2 : Int32} {z3 : Int32} {z4 : Int32} {h : eH} {σ : St} {x : Nat → Nat} {τ τs τm : Nat → St} {us : Nat → Nat} (hd : eJd b T h σ x ℓ c τ us τs τm) (hT : T ≤ 200000) : eStep kL_why kX11_why [.ref b, .int z, .int z2, .int z3, .int z4, .ref (b + 326)] [.ref (b + 317), .int z, .int z2, .int z3, .int z4] b h n (eJ b (T + 200)) := by
  have hO := hd.1
  have hb := hO.1
  have hi := hd.2.2.2
  have hI : eIv σ T := hi.1.1
  have hG : sGd σ := hi.1.2
  have hK : eOK σ := hI.ok (by omega)
  have hB := hK.1
  by_cases hz : (0 ≤ z.toInt ∧ z.toInt < (σ 0 0 : Int))
  · obtain ⟨g0, hg0, rfl, -⟩ := zN hz
    by_cases hz2 : (0 ≤ z2.toInt ∧ z2.toInt < (σ 0 0 : Int))
    · obtain ⟨p, hp, rfl, -⟩ := zN hz2
      by_cases hc : (1 ≤ z3.toInt ∧ z3.toInt < (5 : Nat)) ∧ 0 ≤ z4.toInt ∧ z4.toInt < ((26 ^ z3.toInt.toNat : Nat) : Int)
      · obtain ⟨m, k, hm, hk, rfl, rfl, hmc⟩ := zC hc
        exact eStep.ok hd (fun F hF => w_why hb (c_X10_why hO hK hg0 hp hm hk hmc) hF) (eP0 hO) (fun g n' bad hM => c_X11_why hM hK hg0 hp hm hk hmc) (hi.mono (by omega))
      · exact eStep.no (j := 2) hd (by omega) (w_why_2 hb (c_X10_why_3 hO hB hg0 hp hc)) (eP0 hO) (fun g n' bad hM => c_X11_why_3 hM hK hg0 hp hc) (by omega)
    · exact eStep.no (j := 1) hd (by omega) (w_why_1 hb (c_X10_why_2 hO hB hg0 hz2)) (eP0 hO) (fun g n' bad hM => c_X11_why_1 hM hK (Or.inr hz2)) (by omega)
  · exact eStep.no (j := 1) hd (by omega) (w_why_1 hb (c_X10_why_1 hO hB hz)) (eP0 hO) (fun g n' bad hM => c_X11_why_1 hM hK (Or.inl hz)) (by omega)
set_option maxHeartbeats 1000000 in
theorem st_call {b T n ℓ c : Nat} {z : Int32} {z2 : Int32} {z3 : Int32} {h : eH} {σ : St} {x : Nat → Nat} {τ τs τm : Nat → St} {us : Nat → Nat} (hd : eJd b T h σ x ℓ c τ us τs τm) (hT : T ≤ 200000) : eStep kL_call kX11_call [.ref b, .int z, .int z2, .int z3, .ref (b + 326)] [.ref (b + 317), .int z, .int z2, .int z3] b h n (eJ b (T + 200)) := by
  have hO := hd.1
  have hb := hO.1
  have hi := hd.2.2.2
  have hI : eIv σ T := hi.1.1
  have hG : sGd σ := hi.1.2
  have hK : eOK σ := hI.ok (by omega)
  have hB := hK.1
  by_cases hz : (0 ≤ z.toInt ∧ z.toInt < (4 : Nat))
  · obtain ⟨d, hd4, rfl, -⟩ := zN hz
    by_cases hc : (1 ≤ z2.toInt ∧ z2.toInt < (5 : Nat)) ∧ 0 ≤ z3.toInt ∧ z3.toInt < ((26 ^ z2.toInt.toNat : Nat) : Int)
    · obtain ⟨m, k, hm, hk, rfl, rfl, hmc⟩ := zC hc
      exact eStep.ok hd (fun F hF => w_call hb (c_X10_call hO hI (by omega) hd4 hm hk hmc) hF) (fun g hg => hg) (fun g n' bad hM => c_X11_call hM hI (by omega) hG hd4 hm hk hmc) (hi.put hO.c14 (U := T + 200) ⟨(hI.callT).mono (by omega), hG.callT⟩ (by omega))
    · exact eStep.no (j := 2) hd (by omega) (w_call_2 hb (c_X10_call_2 hd4 hc)) (eP0 hO) (fun g n' bad hM => c_X11_call_2 hM hd4 hc) (by omega)
  · exact eStep.no (j := 1) hd (by omega) (w_call_1 hb (c_X10_call_1 hz)) (eP0 hO) (fun g n' bad hM => c_X11_call_1 hM hz) (by omega)
set_option maxHeartbeats 1000000 in
theorem st_years {b T n ℓ c : Nat} {z : Int32} {h : eH} {σ : St} {x : Nat → Nat} {τ τs τm : Nat → St} {us : Nat → Nat} (hd : eJd b T h σ x ℓ c τ us τs τm) (hT : T ≤ 200000) : eStep kL_years kX11_years [.ref b, .int z, .ref (b + 326)] [.ref (b + 317), .int z] b h n (eJ b (T + 200)) := by
  have hO := hd.1
  have hb := hO.1
  have hi := hd.2.2.2
  have hI : eIv σ T := hi.1.1
  have hG : sGd σ := hi.1.2
  have hK : eOK σ := hI.ok (by omega)
  have hB := hK.1
  by_cases hz : 1 ≤ z.toInt ∧ z.toInt < (10 : Nat)
  · obtain ⟨y, hy, rfl⟩ := z1N hz
    by_cases hl : σ 0 2 + y ≤ 999
    · exact eStep.ok hd (fun F hF => w_years hb (c_X10_years hO hI (by omega) hy hl) hF) (fun g hg => hg) (fun g n' bad hM => c_X11_years hM hI (by omega) hy hl) (hi.put hO.c14 (U := T + 200) ⟨(hI.pass).mono (by omega), hG.pass hI⟩ (by omega))
    · exact eStep.no (j := 2) hd (by omega) (w_years_2 hb (c_X10_years_2 hO hI hy (by omega))) (eP0 hO) (fun g n' bad hM => c_X11_years_2 hM hI hy (by omega)) (by omega)
  · exact eStep.no (j := 1) hd (by omega) (w_years_1 hb (c_X10_years_1 hz)) (eP0 hO) (fun g n' bad hM => c_X11_years_1 hM hz) (by omega)
set_option maxHeartbeats 1000000 in
theorem st_set {b T n ℓ c : Nat} {z : Int32} {z2 : Int32} {h : eH} {σ : St} {x : Nat → Nat} {τ τs τm : Nat → St} {us : Nat → Nat} (hd : eJd b T h σ x ℓ c τ us τs τm) (hT : T ≤ 200000) : eStep kL_set kX11_set [.ref b, .int z, .int z2, .ref (b + 326)] [.ref (b + 317), .int z, .int z2] b h n (eJ b (T + 200)) := by
  have hO := hd.1
  have hb := hO.1
  have hi := hd.2.2.2
  have hI : eIv σ T := hi.1.1
  have hG : sGd σ := hi.1.2
  have hK : eOK σ := hI.ok (by omega)
  have hB := hK.1
  by_cases hz : (0 ≤ z.toInt ∧ z.toInt < (3 : Nat)) ∧ (if z.toInt = (2 : Nat) then (0 : Int) else 1) ≤ z2.toInt ∧ z2.toInt < (10 : Nat)
  · obtain ⟨w, v, hw, hv, rfl, rfl, hs⟩ := zS hz
    exact eStep.ok hd (fun F hF => w_set hb (c_X10_set hO hw hv hs) hF) (fun g hg => hg) (fun g n' bad hM => c_X11_set hM hw hv hs) (hi.put hO.c14 (U := T + 200) ⟨(hI.set hs).mono (by omega), hG.set⟩ (by omega))
  · exact eStep.no (j := 1) hd (by omega) (w_set_1 hb (c_X10_set_1 hz)) (eP0 hO) (fun g n' bad hM => c_X11_set_1 hM hz) (by omega)
set_option maxHeartbeats 1000000 in
theorem st_undo {b T n ℓ c : Nat}  {h : eH} {σ : St} {x : Nat → Nat} {τ τs τm : Nat → St} {us : Nat → Nat} (hd : eJd b T h σ x ℓ c τ us τs τm) (hT : T ≤ 200000) : eStep kL_undo kX11_undo [.ref b, .ref (b + 326)] [.ref (b + 317)] b h n (eJ b (T + 200)) := by
  have hO := hd.1
  have hb := hO.1
  have hi := hd.2.2.2
  have hI : eIv σ T := hi.1.1
  have hG : sGd σ := hi.1.2
  have hK : eOK σ := hI.ok (by omega)
  have hB := hK.1
  cases c with
  | zero => exact eStep.no (j := 1) hd (by omega) (w_undo_1 hb (c_X10_undo_1 hO)) (eP0 hO) (fun g n' bad hM => c_X11_undo_1 hM) (by omega)
  | succ c => exact eStep.ok hd (fun F hF => w_undo hb (c_X10_undo hO) hF) (fun g hg => hg) (fun g n' bad hM => c_X11_undo hM) (hi.undo.mono (by omega))
set_option maxHeartbeats 1000000 in
theorem st_endsIn {b T n ℓ c : Nat} {z : Int32} {h : eH} {σ : St} {x : Nat → Nat} {τ τs τm : Nat → St} {us : Nat → Nat} (hd : eJd b T h σ x ℓ c τ us τs τm) (hT : T ≤ 200000) : eStep kL_endsIn kX11_endsIn [.ref b, .int z, .ref (b + 326)] [.ref (b + 317), .int z] b h n (eJ b (T + 200)) := by
  have hO := hd.1
  have hb := hO.1
  have hi := hd.2.2.2
  have hI : eIv σ T := hi.1.1
  have hG : sGd σ := hi.1.2
  have hK : eOK σ := hI.ok (by omega)
  have hB := hK.1
  by_cases hz : (0 ≤ z.toInt ∧ z.toInt < (σ 0 1 : Int))
  · obtain ⟨k, hk, rfl, -⟩ := zN hz
    exact eStep.ok hd (fun F hF => w_endsIn hb (c_X10_endsIn hO hK hk) hF) (eP0 hO) (fun g n' bad hM => c_X11_endsIn hM hI (by omega) hk) (hi.mono (by omega))
  · exact eStep.no (j := 1) hd (by omega) (w_endsIn_1 hb (c_X10_endsIn_1 hO hB hz)) (eP0 hO) (fun g n' bad hM => c_X11_endsIn_1 hM hK hz) (by omega)
set_option maxHeartbeats 1000000 in
theorem st_bestName {b T n ℓ c : Nat} {z : Int32} {z2 : Int32} {z3 : Int32} {h : eH} {σ : St} {x : Nat → Nat} {τ τs τm : Nat → St} {us : Nat → Nat} (hd : eJd b T h σ x ℓ c τ us τs τm) (hT : T ≤ 200000) : eStep kL_bestName kX11_bestName [.ref b, .int z, .int z2, .int z3, .ref (b + 326)] [.ref (b + 317), .int z, .int z2, .int z3] b h n (eJ b (T + 200)) := by
  have hO := hd.1
  have hb := hO.1
  have hi := hd.2.2.2
  have hI : eIv σ T := hi.1.1
  have hG : sGd σ := hi.1.2
  have hK : eOK σ := hI.ok (by omega)
  have hB := hK.1
  by_cases hz : (0 ≤ z.toInt ∧ z.toInt < (σ 0 0 : Int))
  · obtain ⟨g0, hg0, rfl, -⟩ := zN hz
    by_cases hz2 : (0 ≤ z2.toInt ∧ z2.toInt < (σ 0 0 : Int))
    · obtain ⟨p, hp, rfl, -⟩ := zN hz2
      by_cases hz3 : 1 ≤ z3.toInt ∧ z3.toInt < (3 : Nat)
      · obtain ⟨m, hm, rfl⟩ := z1N hz3
        exact eStep.ok hd (fun F hF => w_bestName hb (c_X10_bestName hO hK hg0 hp (by omega)) hF) (fun g hg => hg) (fun g n' bad hM => c_X11_bestName hM hK hg0 hp (by omega)) (hi.mono (by omega))
      · exact eStep.no (j := 2) hd (by omega) (w_bestName_2 hb (c_X10_bestName_3 hO hB hg0 hp hz3)) (eP0 hO) (fun g n' bad hM => c_X11_bestName_3 hM hK hg0 hp hz3) (by omega)
    · exact eStep.no (j := 1) hd (by omega) (w_bestName_1 hb (c_X10_bestName_2 hO hB hg0 hz2)) (eP0 hO) (fun g n' bad hM => c_X11_bestName_1 hM hK (Or.inr hz2)) (by omega)
  · exact eStep.no (j := 1) hd (by omega) (w_bestName_1 hb (c_X10_bestName_1 hO hB hz)) (eP0 hO) (fun g n' bad hM => c_X11_bestName_1 hM hK (Or.inl hz)) (by omega)
set_option maxHeartbeats 1000000 in
theorem st_runScript {b T n ℓ c : Nat} {z : Int32} {y : Int64} {h : eH} {σ : St} {x : Nat → Nat} {τ τs τm : Nat → St} {us : Nat → Nat} (hd : eJd b T h σ x ℓ c τ us τs τm) (hT : T ≤ 200000) : eStep kL_runScript kX11_runScript [.ref b, .int z, .long y, .ref (b + 326)] [.ref (b + 317), .int z, .long y] b h n (eJ b (T + 200)) := by
  have hO := hd.1
  have hb := hO.1
  have hi := hd.2.2.2
  have hI : eIv σ T := hi.1.1
  have hG : sGd σ := hi.1.2
  have hK : eOK σ := hI.ok (by omega)
  have hB := hK.1
  by_cases hz : 1 ≤ z.toInt ∧ z.toInt < (4 : Nat)
  · obtain ⟨m, hm, rfl⟩ := z1N hz
    have hm : 1 ≤ m ∧ m ≤ 3 := by omega
    by_cases hy : 0 ≤ y.toInt ∧ y.toInt < ((1000000 ^ m : Nat) : Int)
    · obtain ⟨s, hs, rfl⟩ := lP hy
      exact eStep.ok hd (fun F hF => w_runScript hb (c_X10_runScript hO hI (by omega) hm hs) hF) (fun g hg => hg) (fun g n' bad hM => c_X11_runScript hM hI (by omega) hG hm hs) (hi.mono (by omega))
    · exact eStep.no (j := 1) hd (by omega) (w_runScript_1 hb (c_X10_runScript_2 hm hy)) (eP0 hO) (fun g n' bad hM => c_X11_runScript_2 hM hm hy) (by omega)
  · exact eStep.no (j := 1) hd (by omega) (w_runScript_1 hb (c_X10_runScript_1 hz)) (eP0 hO) (fun g n' bad hM => c_X11_runScript_1 hM hz) (by omega)
set_option maxHeartbeats 1000000 in
theorem st_simulate {b T n ℓ c : Nat} {y : Int64} {z : Int32} {h : eH} {σ : St} {x : Nat → Nat} {τ τs τm : Nat → St} {us : Nat → Nat} (hd : eJd b T h σ x ℓ c τ us τs τm) (hT : T ≤ 200000) : eStep kL_simulate kX11_simulate [.ref b, .long y, .int z, .ref (b + 326)] [.ref (b + 317), .long y, .int z] b h n (eJ b (T + 200)) := by
  have hO := hd.1
  have hb := hO.1
  have hi := hd.2.2.2
  have hI : eIv σ T := hi.1.1
  have hG : sGd σ := hi.1.2
  have hK : eOK σ := hI.ok (by omega)
  have hB := hK.1
  by_cases hz : 1 ≤ z.toInt ∧ z.toInt < (61 : Nat)
  · obtain ⟨m, hm, rfl⟩ := z1N hz
    exact eStep.ok hd (fun F hF => w_simulate hb (c_X10_simulate hO hI (by omega) hm) hF) (fun g hg => hg) (fun g n' bad hM => c_X11_simulate hM hI (by omega) hG hm) (hi.mono (by omega))
  · exact eStep.no (j := 1) hd (by omega) (w_simulate_1 hb (c_X10_simulate_1 hz)) (eP0 hO) (fun g n' bad hM => c_X11_simulate_1 hM hz) (by omega)
set_option maxHeartbeats 1000000 in
theorem st_save {b T n ℓ c : Nat} {z : Int32} {h : eH} {σ : St} {x : Nat → Nat} {τ τs τm : Nat → St} {us : Nat → Nat} (hd : eJd b T h σ x ℓ c τ us τs τm) (hT : T ≤ 200000) : eStep kL_save kX11_save [.ref b, .int z, .ref (b + 326)] [.ref (b + 317), .int z] b h n (eJ b (T + 200)) := by
  have hO := hd.1
  have hb := hO.1
  have hi := hd.2.2.2
  have hI : eIv σ T := hi.1.1
  have hG : sGd σ := hi.1.2
  have hK : eOK σ := hI.ok (by omega)
  have hB := hK.1
  by_cases hz : (0 ≤ z.toInt ∧ z.toInt < (2 : Nat))
  · obtain ⟨s, hs, rfl, -⟩ := zN hz
    exact eStep.ok hd (fun F hF => w_save hb (c_X10_save hO hs) hF) (fun g hg => hg) (fun g n' bad hM => c_X11_save hM hs) (hi.save.mono (by omega))
  · exact eStep.no (j := 1) hd (by omega) (w_save_1 hb (c_X10_save_1 hz)) (eP0 hO) (fun g n' bad hM => c_X11_save_1 hM hz) (by omega)
set_option maxHeartbeats 1000000 in
theorem st_restore {b T n ℓ c : Nat} {z : Int32} {h : eH} {σ : St} {x : Nat → Nat} {τ τs τm : Nat → St} {us : Nat → Nat} (hd : eJd b T h σ x ℓ c τ us τs τm) (hT : T ≤ 200000) : eStep kL_restore kX11_restore [.ref b, .int z, .ref (b + 326)] [.ref (b + 317), .int z] b h n (eJ b (T + 200)) := by
  have hO := hd.1
  have hb := hO.1
  have hi := hd.2.2.2
  have hI : eIv σ T := hi.1.1
  have hG : sGd σ := hi.1.2
  have hK : eOK σ := hI.ok (by omega)
  have hB := hK.1
  by_cases hz : (0 ≤ z.toInt ∧ z.toInt < (2 : Nat))
  · obtain ⟨s, hs, rfl, -⟩ := zN hz
    by_cases hu : us s = 0
    · exact eStep.no (j := 2) hd (by omega) (w_restore_2 hb (c_X10_restore_2 hO hs hu)) (eP0 hO) (fun g n' bad hM => c_X11_restore_2 hM hs hu) (by omega)
    · exact eStep.ok hd (fun F hF => w_restore hb (c_X10_restore hO hs hu) hF) (fun g hg => hg) (fun g n' bad hM => by have q := c_X11_restore (n := n') hM hs hu; rwa [← (hi.2.2 s hs hu).1] at q) ((hi.restore hs hu).mono (by omega))
  · exact eStep.no (j := 1) hd (by omega) (w_restore_1 hb (c_X10_restore_1 hz)) (eP0 hO) (fun g n' bad hM => c_X11_restore_1 hM hz) (by omega)
set_option maxHeartbeats 1000000 in
theorem st_clearText {b T n ℓ c : Nat} {h : eH} {σ : St} {x : Nat → Nat} {τ τs τm : Nat → St} {us : Nat → Nat} (hd : eJd b T h σ x ℓ c τ us τs τm) (hT : T ≤ 200000) : eStep2 kX10_clearText kX11_clearText b h n (eJ b (T + 200)) := by
  have hO := hd.1
  have hi := hd.2.2.2
  have hK : eOK σ := hi.1.1.ok (by omega)
  exact eStep2.ok hd (c_X10_clearText hO) (fun g hg => hg) (fun g n' bad hM => c_X11_clearText hM) (hi.mono (by omega))
set_option maxHeartbeats 1000000 in
theorem st_errorPosition {b T n ℓ c : Nat} {h : eH} {σ : St} {x : Nat → Nat} {τ τs τm : Nat → St} {us : Nat → Nat} (hd : eJd b T h σ x ℓ c τ us τs τm) (hT : T ≤ 200000) : eStep2 kX10_errorPosition kX11_errorPosition b h n (eJ b (T + 200)) := by
  have hO := hd.1
  have hi := hd.2.2.2
  have hK : eOK σ := hi.1.1.ok (by omega)
  exact eStep2.ok hd (c_X10_errorPosition hO) (fun g hg => hg) (fun g n' bad hM => c_X11_errorPosition hM) (hi.mono (by omega))
set_option maxHeartbeats 1000000 in
theorem st_bestGiver {b T n ℓ c : Nat} {h : eH} {σ : St} {x : Nat → Nat} {τ τs τm : Nat → St} {us : Nat → Nat} (hd : eJd b T h σ x ℓ c τ us τs τm) (hT : T ≤ 200000) : eStep2 kX10_bestGiver kX11_bestGiver b h n (eJ b (T + 200)) := by
  have hO := hd.1
  have hi := hd.2.2.2
  have hK : eOK σ := hi.1.1.ok (by omega)
  exact eStep2.ok hd (c_X10_bestGiver hO hK) (eP0 hO) (fun g n' bad hM => c_X11_bestGiver hM hK) (hi.mono (by omega))
set_option maxHeartbeats 1000000 in
theorem st_mixed {b T n ℓ c : Nat} {h : eH} {σ : St} {x : Nat → Nat} {τ τs τm : Nat → St} {us : Nat → Nat} (hd : eJd b T h σ x ℓ c τ us τs τm) (hT : T ≤ 200000) : eStep2 kX10_mixed kX11_mixed b h n (eJ b (T + 200)) := by
  have hO := hd.1
  have hi := hd.2.2.2
  have hK : eOK σ := hi.1.1.ok (by omega)
  exact eStep2.ok hd (c_X10_mixed hO hK) (eP0 hO) (fun g n' bad hM => c_X11_mixed hM hK) (hi.mono (by omega))
