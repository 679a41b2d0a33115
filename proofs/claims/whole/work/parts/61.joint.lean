theorem eNB.fr {h g : eH} {b ℓ c : Nat} {σ : St} {x : Nat → Nat} {τ τs : Nat → St} {us : Nat → Nat} (hO : eNB h b σ x ℓ c τ us τs) (hg : ∀ a : Nat, b ≤ a → a < b + 317 → g a = h a) : eNB g b σ x ℓ c τ us τs := by
  obtain ⟨h0, ⟨k, u, hT, hu⟩, hR, ⟨ρ, hR2⟩, ⟨f, hP⟩, hS, ⟨wt, hW⟩⟩ := hO
  exact ⟨(hg b (by omega) (by omega)).trans h0, ⟨k, u, hT.fr (fun a _ _ => hg a (by omega) (by omega)), hu⟩, hR.fr (fun a _ _ => hg a (by omega) (by omega)), ⟨ρ, hR2.fr (fun a _ _ => hg a (by omega) (by omega))⟩, ⟨f, hP.fr (fun a _ _ => hg a (by omega) (by omega))⟩, hS.fr (fun a _ _ => hg a (by omega) (by omega)), ⟨wt, hW.fr (fun a _ _ => hg a (by omega) (by omega))⟩⟩
theorem eNB.c14 {h : eH} {b ℓ c : Nat} {σ : St} {x : Nat → Nat} {τ τs : Nat → St} {us : Nat → Nat} (hO : eNB h b σ x ℓ c τ us τs) : c ≤ 14 := by
  obtain ⟨h0, hT, hR, hR2, ⟨f, hP⟩, hS, hW⟩ := hO
  exact hP.2.2.1.2
def eGI (σ : St) (T : Nat) : Prop := eIv σ T ∧ sGd σ
theorem eGI.mono {σ : St} {T U : Nat} (h : eGI σ T) (hT : T ≤ U) : eGI σ U := ⟨h.1.mono hT, h.2⟩
def eInv (σ : St) (c : Nat) (τ : Nat → St) (us : Nat → Nat) (τs τm : Nat → St) (T : Nat) : Prop :=
  eGI σ T ∧ (∀ j, j < c → eGI (τ j) T) ∧ ∀ i, i < 2 → us i ≠ 0 → τs i = τm i ∧ eGI (τs i) T
theorem eInv.mono {σ : St} {c T U : Nat} {τ τs τm : Nat → St} {us : Nat → Nat} (h : eInv σ c τ us τs τm T) (hT : T ≤ U) : eInv σ c τ us τs τm U := ⟨h.1.mono hT, fun j hj => (h.2.1 j hj).mono hT, fun i hi hu => ⟨(h.2.2 i hi hu).1, (h.2.2 i hi hu).2.mono hT⟩⟩
theorem eInv.put {σ σ' : St} {c T U : Nat} {τ τs τm : Nat → St} {us : Nat → Nat} (h : eInv σ c τ us τs τm T) (hc : c ≤ 14) (hn : eGI σ' U) (hT : T ≤ U) : eInv σ' (sRemC c) (sRem c τ σ) us τs τm U := by
  refine ⟨hn, fun j hj => ?_, (h.mono hT).2.2⟩
  unfold sRemC at hj
  unfold sRem
  by_cases h14 : c < 14
  · rw [if_pos h14] at hj ⊢
    by_cases e : j = c
    · simp only [e, if_true]
      exact h.1.mono hT
    · simp only [if_neg e]
      exact (h.2.1 j (by omega)).mono hT
  · rw [if_neg h14] at hj ⊢
    by_cases e : j = 13
    · simp only [e, if_true]
      exact h.1.mono hT
    · simp only [if_neg e]
      exact (h.2.1 (j + 1) (by omega)).mono hT
theorem eInv.undo {σ : St} {c T : Nat} {τ τs τm : Nat → St} {us : Nat → Nat} (h : eInv σ (c + 1) τ us τs τm T) : eInv (τ c) c τ us τs τm T := ⟨h.2.1 c (by omega), fun j hj => h.2.1 j (by omega), h.2.2⟩
theorem eInv.load {σ σ' : St} {c T U : Nat} {τ τs τm : Nat → St} {us : Nat → Nat} (_ : eInv σ c τ us τs τm T) (hn : eGI σ' U) : eInv σ' 0 τ (fun _ => 0) τs τm U := ⟨hn, fun j hj => absurd hj (Nat.not_lt_zero j), fun i _ hu => absurd rfl hu⟩
theorem eInv.save {σ : St} {c s T : Nat} {τ τs τm : Nat → St} {us : Nat → Nat} (h : eInv σ c τ us τs τm T) : eInv σ c τ (fun i => if i = s then 1 else us i) (fun i => if i = s then σ else τs i) (fun i => if i = s then σ else τm i) T := by
  refine ⟨h.1, h.2.1, fun i hi hu => ?_⟩
  by_cases e : i = s
  · simp only [e, if_true]
    exact ⟨trivial, h.1⟩
  · simp only [if_neg e] at hu ⊢
    exact h.2.2 i hi hu
theorem eInv.restore {σ : St} {c s T : Nat} {τ τs τm : Nat → St} {us : Nat → Nat} (h : eInv σ c τ us τs τm T) (hs : s < 2) (hu : us s ≠ 0) : eInv (τs s) 0 τ us τs τm T := ⟨(h.2.2 s hs hu).2, fun j hj => absurd hj (Nat.not_lt_zero j), h.2.2⟩
theorem sLd_iv {x : Nat → Nat} {ℓ : Nat} : ∀ (n : Nat) (u : Cur) (σ : St) (q T : Nat), eGI σ T → eGI (sLd x ℓ n u σ q).1 (T + n)
  | 0, u, σ, q, T, h => h
  | n + 1, u, σ, q, T, h => by
    by_cases e : (tCmd x ℓ u).1 = true
    · rw [sLd_y e, show T + (n + 1) = T + 1 + n by omega]
      exact sLd_iv n _ _ _ _ ⟨h.1.obey, h.2.obey h.1⟩
    · rw [sLd_stop (Bool.eq_false_iff.mpr e)]
      exact h.mono (by omega)
def eJd (b T : Nat) (g : eH) (σ : St) (x : Nat → Nat) (ℓ c : Nat) (τ : Nat → St) (us : Nat → Nat) (τs τm : Nat → St) : Prop :=
  eNB g b σ x ℓ c τ us τs ∧ (∃ bad, eMo g (b + 317) bad σ x ℓ c τ us τm) ∧ (∃ F : Nat → Int64, g (b + 326) = some (.inl (4, 1, .inr (.inl F)))) ∧ eInv σ c τ us τs τm T
def eJ (b T : Nat) (g : eH) : Prop := ∃ (σ : St) (x : Nat → Nat) (ℓ c : Nat) (τ : Nat → St) (us : Nat → Nat) (τs τm : Nat → St), eJd b T g σ x ℓ c τ us τs τm
theorem eJ.mono {b T U : Nat} {g : eH} (h : eJ b T g) (hT : T ≤ U) : eJ b U g := by
  obtain ⟨σ, x, ℓ, c, τ, us, τs, τm, h1, h2, h3, h4⟩ := h
  exact ⟨σ, x, ℓ, c, τ, us, τs, τm, h1, h2, h3, h4.mono hT⟩
def eStep (kW kM : List Value → eH → Nat → eRes → Nat → Nat → Prop) (wa ma : List Value) (b : Nat) (h : eH) (n : Nat) (J' : eH → Prop) : Prop :=
  ∃ (j : Nat) (P1 : eH → Prop) (nn : Option Nat) (c1 s1 : Nat), j < 4 ∧ c1 ≤ 1 ∧ s1 ≤ 6 ∧ kW wa h n (.inl (some (.int (nI j))), P1, nn) c1 s1 ∧
    ∀ (g : eH) (n' : Nat), P1 g → (∃ z, g (b + 317) = some (.inr (8, z))) ∧ ∃ (v : Int32) (P2 : eH → Prop), kM ma g n' (.inl (some (.int v)), P2, some n') 0 0 ∧
      ∀ g', P2 g' → (∃ bc ℓ ap gd lo lr, eMB g' (b + 317) j bc ℓ ap gd lo lr) ∧ (∃ F : Nat → Int64, g' (b + 326) = some (.inl (4, 1, .inr (.inl F))) ∧ (j = 0 → F 0 = v.toInt64)) ∧ J' g'
theorem eMo.ob2 {h : eH} {m bad : Nat} {σ : St} {x : Nat → Nat} {ℓ c : Nat} {τ : Nat → St} {us : Nat → Nat} {τs : Nat → St} (hO : eMo h m bad σ x ℓ c τ us τs) : ∃ z, h m = some (.inr (8, z)) := by
  obtain ⟨⟨ap, gd, lo, lr, hB⟩, -⟩ := hO
  exact ⟨_, hB.ob⟩
theorem eMo.mb {h : eH} {m bad : Nat} {σ : St} {x : Nat → Nat} {ℓ c : Nat} {τ : Nat → St} {us : Nat → Nat} {τs : Nat → St} (hO : eMo h m bad σ x ℓ c τ us τs) : ∃ bc ℓ ap gd lo lr, eMB h m bad bc ℓ ap gd lo lr := by
  obtain ⟨⟨ap, gd, lo, lr, hB⟩, -⟩ := hO
  exact ⟨_, _, _, _, _, _, hB⟩
theorem eStep.ok {kW kM : List Value → eH → Nat → eRes → Nat → Nat → Prop} {wa ma : List Value} {b T U n ℓ c ℓ' c' : Nat} {h : eH} {σ σ' : St} {x x' : Nat → Nat} {τ τs τm τ' τs' τm' : Nat → St} {us us' : Nat → Nat} {v : Int32} {P : eH → Prop} (hd : eJd b T h σ x ℓ c τ us τs τm)
    (hw : ∀ F : Nat → Int64, (∀ g, P g → g (b + 326) = some (.inl (4, 1, .inr (.inl F)))) → kW wa h n (.inl (some (.int (nI 0))), eOut (b + 326) F v P, some n) 0 0)
    (hP : ∀ g, P g → eNB g b σ' x' ℓ' c' τ' us' τs' ∧ eFr h g b (b + 317))
    (hm : ∀ g n' bad, eMo g (b + 317) bad σ x ℓ c τ us τm → kM ma g n' (.inl (some (.int v)), (fun g' => eMo g' (b + 317) 0 σ' x' ℓ' c' τ' us' τm' ∧ eFr g g' (b + 317) (b + 317 + 9)), some n') 0 0)
    (hi : eInv σ' c' τ' us' τs' τm' U) : eStep kW kM wa ma b h n (eJ b U) := by
  obtain ⟨hO, ⟨bad, hM⟩, ⟨F, hF⟩, -⟩ := hd
  refine ⟨0, _, some n, 0, 0, by omega, by omega, by omega, hw F (fun g hg => ((hP g hg).2 (b + 326) (by omega)).trans hF), ?_⟩
  rintro g n' ⟨g0, hg0, rfl⟩
  obtain ⟨hO1, fr1⟩ := hP g0 hg0
  have hM1 := hM.fr (g := eU g0 (b + 326) (.inl (4, 1, .inr (.inl (vp_updL F (nI 0).toNatClampNeg v.toInt64))))) (fun a h1 h2 => (eU_n _ _ (by omega)).trans (fr1 a (by omega)))
  have hO2 := hO1.fr (g := eU g0 (b + 326) (.inl (4, 1, .inr (.inl (vp_updL F (nI 0).toNatClampNeg v.toInt64))))) (fun a h1 h2 => eU_n _ _ (by omega))
  refine ⟨hM1.ob2, v, _, hm _ n' bad hM1, ?_⟩
  rintro g' ⟨hM2, fr2⟩
  have e1 := (fr2 (b + 326) (by omega)).trans (eU_s _ _ _)
  exact ⟨hM2.mb, ⟨_, e1, fun _ => if_pos rfl⟩, σ', x', ℓ', c', τ', us', τs', τm', hO2.fr (fun a _ _ => fr2 a (by omega)), ⟨0, hM2⟩, ⟨_, e1⟩, hi⟩
theorem eStep.no {kW kM : List Value → eH → Nat → eRes → Nat → Nat → Prop} {wa ma : List Value} {b T U n ℓ c j : Nat} {h : eH} {σ : St} {x : Nat → Nat} {τ τs τm : Nat → St} {us : Nat → Nat} {P : eH → Prop} (hd : eJd b T h σ x ℓ c τ us τs τm) (hj : 0 < j ∧ j < 4)
    (hw : kW wa h n (.inl (some (.int (nI j))), P, none) 1 6)
    (hP : ∀ g, P g → eNB g b σ x ℓ c τ us τs ∧ eFr h g b (b + 317))
    (hm : ∀ g n' bad, eMo g (b + 317) bad σ x ℓ c τ us τm → kM ma g n' (.inl (some (.int (nI 0))), (fun g' => eMo g' (b + 317) j σ x ℓ c τ us τm ∧ eFr g g' (b + 317) (b + 317 + 9)), some n') 0 0) (hT : T ≤ U) : eStep kW kM wa ma b h n (eJ b U) := by
  obtain ⟨hO, ⟨bad, hM⟩, ⟨F, hF⟩, hi⟩ := hd
  refine ⟨j, P, none, 1, 6, by omega, by omega, by omega, hw, ?_⟩
  intro g n' hg
  obtain ⟨hO1, fr1⟩ := hP g hg
  have hM1 := hM.fr (g := g) (fun a h1 h2 => fr1 a (by omega))
  refine ⟨hM1.ob2, nI 0, _, hm _ n' bad hM1, ?_⟩
  rintro g' ⟨hM2, fr2⟩
  have e1 := (fr2 (b + 326) (by omega)).trans ((fr1 (b + 326) (by omega)).trans hF)
  exact ⟨hM2.mb, ⟨_, e1, fun e => absurd e (by omega)⟩, σ, x, ℓ, c, τ, us, τs, τm, hO1.fr (fun a _ _ => fr2 a (by omega)), ⟨j, hM2⟩, ⟨_, e1⟩, hi.mono hT⟩
def eStep2 (kW kM : List Value → eH → Nat → eRes → Nat → Nat → Prop) (b : Nat) (h : eH) (n : Nat) (J' : eH → Prop) : Prop :=
  (∃ z, h b = some (.inr (7, z))) ∧ ∃ (v : Int32) (P1 : eH → Prop), kW [.ref b] h n (.inl (some (.int v)), P1, some n) 0 0 ∧
    ∀ g : eH, P1 g → (∃ z, g (b + 317) = some (.inr (8, z))) ∧ ∃ (P2 : eH → Prop), kM [.ref (b + 317)] g n (.inl (some (.int v)), P2, some n) 0 0 ∧ ∀ g', P2 g' → J' g'
theorem eStep2.ok {kW kM : List Value → eH → Nat → eRes → Nat → Nat → Prop} {b T U n ℓ c ℓ' c' : Nat} {h : eH} {σ σ' : St} {x x' : Nat → Nat} {τ τs τm τ' τs' τm' : Nat → St} {us us' : Nat → Nat} {v : Int32} {P : eH → Prop} (hd : eJd b T h σ x ℓ c τ us τs τm)
    (hw : kW [.ref b] h n (.inl (some (.int v)), P, some n) 0 0)
    (hP : ∀ g, P g → eNB g b σ' x' ℓ' c' τ' us' τs' ∧ eFr h g b (b + 317))
    (hm : ∀ g n' bad, eMo g (b + 317) bad σ x ℓ c τ us τm → kM [.ref (b + 317)] g n' (.inl (some (.int v)), (fun g' => eMo g' (b + 317) 0 σ' x' ℓ' c' τ' us' τm' ∧ eFr g g' (b + 317) (b + 317 + 9)), some n') 0 0)
    (hi : eInv σ' c' τ' us' τs' τm' U) : eStep2 kW kM b h n (eJ b U) := by
  obtain ⟨hO, ⟨bad, hM⟩, ⟨F, hF⟩, -⟩ := hd
  refine ⟨⟨_, hO.1⟩, v, P, hw, ?_⟩
  intro g hg
  obtain ⟨hO1, fr1⟩ := hP g hg
  have hM1 := hM.fr (g := g) (fun a h1 h2 => fr1 a (by omega))
  refine ⟨hM1.ob2, _, hm _ n bad hM1, ?_⟩
  rintro g' ⟨hM2, fr2⟩
  have e1 := (fr2 (b + 326) (by omega)).trans ((fr1 (b + 326) (by omega)).trans hF)
  exact ⟨σ', x', ℓ', c', τ', us', τs', τm', hO1.fr (fun a _ _ => fr2 a (by omega)), ⟨0, hM2⟩, ⟨_, e1⟩, hi⟩
