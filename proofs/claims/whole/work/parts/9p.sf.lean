/-! nothing changed but scratch and what stands behind the rolls and plots; fault of a roll *-/
def eqOn (σ τ : St) (q n : Nat) : Prop := ∀ j, j < n → zA τ q j = zA σ q j
/-- places in a habit's text are never below 0 -/
def P22 (σ : St) : Prop := ∀ k, k < 201 → zA σ 22 k ≠ mI
def SF (σ τ : St) : Prop := (∀ q, q ∈ pA → q ∉ [22, 60, 61, 62, 63, 64, 65, 66, 67, 68] → zA τ q = zA σ q) ∧ (∀ q, q ∈ pB → zB τ q = zB σ q) ∧ (∀ k, k ∈ pI → zI τ k = zI σ k) ∧ zN τ = zN σ ∧ (rOk σ → rOk τ) ∧ eqOn σ τ 60 8 ∧ eqOn σ τ 61 128 ∧ eqOn σ τ 62 128 ∧ eqOn σ τ 63 256 ∧ eqOn σ τ 64 256 ∧ eqOn σ τ 65 1536 ∧ eqOn σ τ 66 1536 ∧ eqOn σ τ 67 4 ∧ eqOn σ τ 68 80 ∧ (P22 σ → P22 τ)
theorem eqOn.of {σ τ : St} {q n : Nat} (h : zA τ q = zA σ q) : eqOn σ τ q n := fun j _ => by rw [h]
theorem SF.of {σ τ : St} (h : SE σ τ) : SF σ τ := ⟨fun q hq _ => h.1 q hq, h.2.1, h.2.2.1, h.2.2.2.1, h.2.2.2.2, eqOn.of (h.a 60 (by decide)), eqOn.of (h.a 61 (by decide)), eqOn.of (h.a 62 (by decide)), eqOn.of (h.a 63 (by decide)), eqOn.of (h.a 64 (by decide)), eqOn.of (h.a 65 (by decide)), eqOn.of (h.a 66 (by decide)), eqOn.of (h.a 67 (by decide)), eqOn.of (h.a 68 (by decide)), fun r k hk => by rw [h.a 22 (by decide)]; exact r k hk⟩
theorem eqOn.tr {σ τ υ : St} {q n : Nat} (h : eqOn σ τ q n) (k : eqOn τ υ q n) : eqOn σ υ q n := fun j hj => (k j hj).trans (h j hj)
theorem SF.tr {σ τ υ : St} (h : SF σ τ) (k : SF τ υ) : SF σ υ :=
  ⟨fun q hq hn => (k.1 q hq hn).trans (h.1 q hq hn), fun q hq => (k.2.1 q hq).trans (h.2.1 q hq), fun q hq => (k.2.2.1 q hq).trans (h.2.2.1 q hq), k.2.2.2.1.trans h.2.2.2.1, fun r => k.2.2.2.2.1 (h.2.2.2.2.1 r), h.2.2.2.2.2.1.tr k.2.2.2.2.2.1, h.2.2.2.2.2.2.1.tr k.2.2.2.2.2.2.1, h.2.2.2.2.2.2.2.1.tr k.2.2.2.2.2.2.2.1, h.2.2.2.2.2.2.2.2.1.tr k.2.2.2.2.2.2.2.2.1, h.2.2.2.2.2.2.2.2.2.1.tr k.2.2.2.2.2.2.2.2.2.1, h.2.2.2.2.2.2.2.2.2.2.1.tr k.2.2.2.2.2.2.2.2.2.2.1, h.2.2.2.2.2.2.2.2.2.2.2.1.tr k.2.2.2.2.2.2.2.2.2.2.2.1, h.2.2.2.2.2.2.2.2.2.2.2.2.1.tr k.2.2.2.2.2.2.2.2.2.2.2.2.1, h.2.2.2.2.2.2.2.2.2.2.2.2.2.1.tr k.2.2.2.2.2.2.2.2.2.2.2.2.2.1, fun r => k.2.2.2.2.2.2.2.2.2.2.2.2.2.2 (h.2.2.2.2.2.2.2.2.2.2.2.2.2.2 r)⟩
theorem SF.a {σ τ : St} (h : SF σ τ) (q : Nat) (hq : q ∈ pA) (hn : q ∉ [22, 60, 61, 62, 63, 64, 65, 66, 67, 68]) : zA τ q = zA σ q := h.1 q hq hn
theorem SF.b {σ τ : St} (h : SF σ τ) (q : Nat) (hq : q ∈ pB) : zB τ q = zB σ q := h.2.1 q hq
theorem SF.i {σ τ : St} (h : SF σ τ) (q : Nat) (hq : q ∈ pI) : zI τ q = zI σ q := h.2.2.1 q hq
theorem JC.sf {σ τ : St} {g : Gh} (h : SF σ τ) (j : JC σ g) : JC τ g := by
  unfold JC
  rw [h.i 18 (by decide), h.i 17 (by decide), h.a 23 (by decide) (by decide), h.a 25 (by decide) (by decide), h.a 27 (by decide) (by decide), h.a 29 (by decide) (by decide), h.b 26 (by decide), h.b 28 (by decide)]
  exact j
theorem JM.sf {σ τ : St} {g : Gh} (hg : okG g) (h : SF σ τ) (j : JM σ g) : JM τ g := by
  obtain ⟨j1, j2, j3⟩ := j
  have h0 := h
  obtain ⟨_, _, hI, _, _, e60, e61, e62, e63, e64, e65, e66, _, _, _⟩ := h
  refine ⟨(hI 32 (by decide)).trans j1, fun r hr => (e60 r (by have := hg.1; omega)).trans (j2 r hr), fun s hs => ?_⟩
  have hs8 := vd_lt hg hs
  have hok := vd_ok hg hs
  obtain ⟨k1, k2, k3, k4⟩ := j3 s hs
  refine ⟨(e61 s hs8).trans k1, (e62 s hs8).trans k2, fun k hk => ?_, fun k hk => ?_⟩
  · obtain ⟨f, f1, f2, f3, f4⟩ := k3 k hk
    have := hok.1
    refine ⟨f, f1, (e63 _ (by omega)).trans f2, (e64 _ (by omega)).trans f3, fun i hi => ?_⟩
    rw [h0.a 56 (by decide) (by decide)]
    exact f4 i hi
  · obtain ⟨f, f1, f2, f3, f4⟩ := k4 k hk
    have := hok.2.2.1
    refine ⟨f, f1, (e65 _ (by omega)).trans f2, (e66 _ (by omega)).trans f3, fun i hi => ?_⟩
    rw [h0.a 56 (by decide) (by decide)]
    exact f4 i hi
theorem RI.sf {σ τ : St} {g : Gh} {lim : Nat} (h : SF σ τ) (k : RI σ g lim) : RI τ g lim :=
  ⟨k.1, k.2.1.sf h, k.2.2.1.sf k.1 h, k.2.2.2.1, (h.i 20 (by decide)).trans k.2.2.2.2.1, (h.i 45 (by decide)).trans k.2.2.2.2.2⟩
theorem P22.sf {σ τ : St} (e : SF σ τ) (k : P22 σ) : P22 τ := e.2.2.2.2.2.2.2.2.2.2.2.2.2.2 k
theorem TI.sf {σ τ : St} {h : Gp} (e : SF σ τ) (k : TI σ h) : TI τ h := by
  obtain ⟨k1, k2, k3, k4, k5, k6, k7⟩ := k
  refine ⟨k1, (e.i 28 (by decide)).trans k2, (e.i 33 (by decide)).trans k3, fun p hp => ?_, k5, (e.i 29 (by decide)).trans k6, (e.i 50 (by decide)).trans k7⟩
  obtain ⟨a1, a2, a3, a4, a5⟩ := k4 p hp
  have e67 := e.2.2.2.2.2.2.2.2.2.2.2.2.1
  have e68 := e.2.2.2.2.2.2.2.2.2.2.2.2.2.1
  refine ⟨a1, a2, ?_, (e67 p (by omega)).trans a4, fun k hk => ?_⟩
  · rw [e.a 51 (by decide) (by decide)]
    exact a3
  · obtain ⟨b1, b2, b3, b4⟩ := a5 k hk
    refine ⟨b1, b2, ?_, (e68 _ (by omega)).trans b4⟩
    rw [e.a 50 (by decide) (by decide)]
    exact b3
theorem TP.sf {σ τ : St} {bs : List Nat} (h : SF σ τ) (k : TP σ bs) : TP τ bs := by
  unfold TP
  rw [h.i 2 (by decide), h.i 31 (by decide), h.a 11 (by decide) (by decide), h.a 55 (by decide) (by decide)]
  exact k
theorem PI.sf {σ τ : St} {g : Gh} {pl : List Nat} (h : SF σ τ) (k : PI σ g pl) : PI τ g pl := by
  unfold PI
  rw [h.i 26 (by decide), h.i 48 (by decide), h.a 47 (by decide) (by decide), h.a 78 (by decide) (by decide)]
  exact k
theorem KI.sf {σ τ : St} {g : Gh} {pl : List Nat} {kr kp : Nat} (h : SF σ τ) (k : KI σ g pl kr kp) : KI τ g pl kr kp := by
  unfold KI
  rw [h.i 0 (by decide), h.i 51 (by decide), h.i 1 (by decide), h.i 52 (by decide)]
  exact k
theorem HI.sf {σ τ : St} {g : Gh} {nh : Nat} (h : SF σ τ) (k : HI σ g nh) : HI τ g nh := by
  unfold HI
  rw [h.i 11 (by decide), h.i 34 (by decide), h.a 24 (by decide) (by decide), h.a 69 (by decide) (by decide)]
  exact k
theorem CH.sf {σ τ : St} {g : Gh} {c : Nat} (h : SF σ τ) (k : CH σ g c) : CH τ g c := by
  unfold CH TD CL SL RM FO LO PK
  rw [h.i 19 (by decide), h.i 24 (by decide), h.i 23 (by decide), h.i 25 (by decide), h.i 21 (by decide), h.i 22 (by decide), h.a 35 (by decide) (by decide), h.a 36 (by decide) (by decide), h.a 37 (by decide) (by decide), h.a 38 (by decide) (by decide), h.a 39 (by decide) (by decide), h.b 44 (by decide), h.b 45 (by decide), h.2.2.2.1]
  exact k
theorem AC.sf {σ τ : St} {c s : Nat} (h : SF σ τ) (k : AC σ c s) : AC τ c s := by
  unfold AC
  rw [h.2.2.2.1]
  exact k
theorem rOk_uR {σ : St} {k v : Nat} (h : v ≠ 45 ∧ v ≠ 46) (hr : rOk σ) : rOk (uR σ k v) := (SE.uR h).2.2.2.2 hr
/-- a frame that touches scratch alone -/
theorem se_fr {σ τ : St} {A B K : List Nat} {k v : Nat} (f : FR A B K [] (uR σ k v) τ) (hv : v ≠ 45 ∧ v ≠ 46) (hA : ∀ q, q ∈ A → q ∉ pA) (hB : ∀ q, q ∈ B → q ∉ pB) (hK : ∀ q, q ∈ K → q ∉ pI) : SE σ τ :=
  ⟨fun q hq => f.1 q (fun x => hA q x hq), fun q hq => f.2.1 q (fun x => hB q x hq), fun q hq => f.2.2.1 q (fun x => hK q x hq), by
    funext j
    exact f.2.2.2.1 j (by intro x; cases x), fun r j => by
    rw [f.2.2.2.2]
    exact (rOk_uR hv r) j⟩
theorem sf_onR {σ τ : St} {A K : List Nat} (f : FR A [] K [] (uR σ 3 55) τ) (o : onR σ τ 8) (hA : ∀ q, q ∈ A → q ∈ [60, 61, 62, 63, 64, 65, 66]) (hK : ∀ q, q ∈ K → q ∉ pI) : SF σ τ :=
  ⟨fun q hq hn => f.1 q (fun x => hn (by
      have := hA q x
      revert this
      revert q
      intro q _ _ _ h
      simp only [List.mem_cons, List.not_mem_nil, or_false] at h ⊢
      omega)), fun q hq => f.2.1 q (by intro x; cases x), fun q hq => f.2.2.1 q (fun x => hK q x hq), by
    funext j
    exact f.2.2.2.1 j (by intro x; cases x), fun r j => by
    rw [f.2.2.2.2]
    exact (rOk_uR (by decide) r) j, fun j hj => o.1 j (by omega), fun j hj => o.2.1 j (by omega), fun j hj => o.2.2.1 j (by omega), fun j hj => o.2.2.2.1 j (by omega), fun j hj => o.2.2.2.2.1 j (by omega), fun j hj => o.2.2.2.2.2.1 j (by omega), fun j hj => o.2.2.2.2.2.2 j (by omega), fun j hj => by
      rw [f.1 67 (fun x => by have := hA 67 x; revert this; decide)]
      rfl, fun j hj => by
      rw [f.1 68 (fun x => by have := hA 68 x; revert this; decide)]
      rfl, fun r k hk => by
      rw [f.1 22 (fun x => by have := hA 22 x; revert this; decide)]
      exact r k hk⟩
theorem t_fault_r {σ : St} {bs : List Nat} (h : TP σ bs) : ∃ τ υ, fX11_fault σ (nI 0) = some (fx (pRoll bs).2, τ) ∧ SE σ τ ∧ fX12_fault τ (nI 0) = some (fx (pRoll bs).2, υ) ∧ SF τ υ := by
  obtain ⟨τ, h1, h2, h3, h4⟩ := c_faultOf_r h.2.2.1 h.2.2.2.2.1 h.1 h.2.1
  have hse : SE σ τ := se_fr h1 (by decide) (by decide) (by decide) (by decide)
  have h' := h.se hse
  obtain ⟨υ, h5, h6, h7, h8, h9⟩ := m_readRoll (σ := uI τ 30 (nI 0)) (roll := 8) (h'.2.2.2.1) h'.2.2.2.2.2 h'.1 h'.2.1 (by decide)
  refine ⟨τ, υ, ?_, hse, ?_, (SF.of (se30 τ (nI 0))).tr (sf_onR h5 h6 (by decide) (by decide))⟩
  · unfold fX11_fault
    simp (disch := omega) only [l0, l1, l2, l3, l4, l5, l6, l7, l8, l9, l10, l11, l12, l16, l18, l19, l20, l21, l24, l96, l128, l100, l144, l200, l256, l288, l1536, l1728, l1800, bnd, nI_add, pk_mul, pI_sub, pI_m1, pT_le, pF_le, pT_lt, pF_lt, pT_eq, pF_eq, pF_m1, mF_eq, mT_eq, mT_lt, mF_le, lm1, rd_nI, wr_nI, cl_nI, pk_us, un_ne, pk_uLs, uL_ne, zI_uI, zI_uJ, zI_uA, zI_uB, zI_uR, zI_uN, zJ_uI, zJ_uJ, zJ_uA, zJ_uB, zJ_uR, zJ_uN, zA_uI, zA_uJ, zA_uA, zA_uB, zA_uR, zA_uN, zB_uI, zB_uJ, zB_uA, zB_uB, zB_uR, zB_uN, zR_uI, zR_uJ, zR_uA, zR_uB, zR_uR, zR_uN, zN_uI, zN_uJ, zN_uA, zN_uB, zN_uR, zN_uN, zI_ne, zJ_ne, zA_ne, zB_ne, zR_ne, zN_ne, bi_T, bi_F, nz16, ↓reduceIte, not_true_eq_false, not_false_eq_true, Bool.false_eq_true, reduceCtorEq, h2]
  · have hin := m_isIn (a := 0) (b := 0) (c := 2) (by decide) (by decide) (by decide)
    rw [decide_eq_true (show 0 ≤ 0 ∧ 0 ≤ 2 by decide)] at hin
    unfold fX12_fault
    simp (disch := omega) only [l0, l1, l2, l3, l4, l5, l6, l7, l8, l9, l10, l11, l12, l16, l18, l19, l20, l21, l24, l96, l128, l100, l144, l200, l256, l288, l1536, l1728, l1800, bnd, nI_add, pk_mul, pI_sub, pI_m1, pT_le, pF_le, pT_lt, pF_lt, pT_eq, pF_eq, pF_m1, mF_eq, mT_eq, mT_lt, mF_le, lm1, rd_nI, wr_nI, cl_nI, pk_us, un_ne, pk_uLs, uL_ne, zI_uI, zI_uJ, zI_uA, zI_uB, zI_uR, zI_uN, zJ_uI, zJ_uJ, zJ_uA, zJ_uB, zJ_uR, zJ_uN, zA_uI, zA_uJ, zA_uA, zA_uB, zA_uR, zA_uN, zB_uI, zB_uJ, zB_uA, zB_uB, zB_uR, zB_uN, zR_uI, zR_uJ, zR_uA, zR_uB, zR_uR, zR_uN, zN_uI, zN_uJ, zN_uA, zN_uB, zN_uR, zN_uN, zI_ne, zJ_ne, zA_ne, zB_ne, zR_ne, zN_ne, bi_T, bi_F, nz16, ↓reduceIte, not_true_eq_false, not_false_eq_true, Bool.false_eq_true, reduceCtorEq, hin, h7, h8]
