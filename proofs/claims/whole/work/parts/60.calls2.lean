/-! arguments, told apart on both sides at once; far, kind, kinds, nearest -/
theorem has2 {σ : St} {g : Gh} {lim : Nat} (h : RI σ g lim) (p : Int32) : (∃ s, vd g s = true ∧ s < 128 ∧ p = nI s ∧ ∀ τ, SE σ τ → fX7_has τ p = some true ∧ fX12_isSpeech τ p = some true) ∨ ∀ τ, SE σ τ → fX7_has τ p = some false ∧ fX12_isSpeech τ p = some false := by
  rcases i32_of p with hp | ⟨s, hs, rfl⟩
  · exact Or.inr (fun τ _ => ⟨c_hasN hp, m_isSpeechN hp⟩)
  · cases hv : vd g s with
    | true =>
      refine Or.inl ⟨s, hv, vd_lt h.1 hv, rfl, fun τ se => ?_⟩
      have k := h.se se
      have e1 := c_has k.1 k.2.1 hs
      have e2 := m_isSpeech k.1 k.2.2.1 hs
      rw [hv] at e1 e2
      exact ⟨e1, e2⟩
    | false =>
      refine Or.inr (fun τ se => ?_)
      have k := h.se se
      have e1 := c_has k.1 k.2.1 hs
      have e2 := m_isSpeech k.1 k.2.2.1 hs
      rw [hv] at e1 e2
      exact ⟨e1, e2⟩
theorem all2 {σ : St} {g : Gh} {lim : Nat} (h : RI σ g lim) (p : Int32) : (∃ t, al g t = true ∧ t < 256 ∧ p = nI t ∧ ∀ τ, SE σ τ → fX7_haveAll τ p = some true ∧ fX12_areRolls τ p = some true) ∨ ∀ τ, SE σ τ → fX7_haveAll τ p = some false ∧ fX12_areRolls τ p = some false := by
  rcases i32_of p with hp | ⟨s, hs, rfl⟩
  · exact Or.inr (fun τ _ => ⟨c_allN hp, m_allN hp⟩)
  · cases hv : al g s with
    | true =>
      refine Or.inl ⟨s, hv, al_lt h.1 hv, rfl, fun τ se => ?_⟩
      have k := h.se se
      have e1 := c_all k.1 k.2.1 hs
      have e2 := m_all k.1 k.2.2.1 hs
      rw [hv] at e1 e2
      exact ⟨e1, e2⟩
    | false =>
      refine Or.inr (fun τ se => ?_)
      have k := h.se se
      have e1 := c_all k.1 k.2.1 hs
      have e2 := m_all k.1 k.2.2.1 hs
      rw [hv] at e1 e2
      exact ⟨e1, e2⟩
theorem roll2 {σ : St} {g : Gh} {lim : Nat} (h : RI σ g lim) (p : Int32) : (∃ r, r < gN g ∧ p = nI r ∧ ∀ τ, SE σ τ → fX7_hasRoll τ p = some true ∧ fX12_isRoll τ p = some true) ∨ ∀ τ, SE σ τ → fX7_hasRoll τ p = some false ∧ fX12_isRoll τ p = some false := by
  rcases i32_of p with hp | ⟨s, hs, rfl⟩
  · exact Or.inr (fun τ _ => ⟨c_hasRollN hp, m_isRollN hp⟩)
  · by_cases hv : s < gN g
    · refine Or.inl ⟨s, hv, rfl, fun τ se => ?_⟩
      have k := h.se se
      have e1 := c_hasRoll k.1 k.2.1 hs
      have e2 := m_isRoll k.1 k.2.2.1 hs
      rw [decide_eq_true hv] at e1 e2
      exact ⟨e1, e2⟩
    · refine Or.inr (fun τ se => ?_)
      have k := h.se se
      have e1 := c_hasRoll k.1 k.2.1 hs
      have e2 := m_isRoll k.1 k.2.2.1 hs
      rw [decide_eq_false hv] at e1 e2
      exact ⟨e1, e2⟩
/-- both refuse -/
theorem B2.no {σ : St} {c : Option (Int32 × St)} {m : St → Option (Int32 × St)} (r : Int32) (h1 : c = some (r, σ)) (h2 : m σ = some (r, uI σ 30 (nI 0))) : B2 σ c m := ⟨r, σ, _, h1, SE.rf σ, h2, se30 σ _⟩
theorem B1.no {σ : St} {c : Option Int32} {m : St → Option (Int32 × St)} (r : Int32) (h1 : c = some r) (h2 : m σ = some (r, uI σ 30 (nI 0))) : B1 σ c m := ⟨r, _, h1, h2, se30 σ _⟩
theorem t_far {σ : St} {g : Gh} {lim : Nat} (h : RI σ g lim) (p q : Int32) : B2 σ (fX11_far σ p q) (fun τ => fX12_far τ p q) := by
  have hg := h.1
  have s3 := se30 σ (nI 0)
  rcases has2 h p with ⟨s, hv, hs, rfl, e⟩ | e
  · have e1 := (e σ (SE.rf σ)).1
    have e2 := (e _ s3).2
    have hc2 := (vd_ok hg hv).1
    have ec := c_hasCue hg h.2.1 (s := s) (by omega)
    have a61 := ((h.se s3).2.2.1.2.2 s hv).1
    rw [hv, Bool.true_and] at ec
    by_cases h0 : (gC g s).length = 0
    · rw [decide_eq_false (fun x => x h0)] at ec
      refine B2.no mI ?_ ?_
      · unfold fX11_far
        simp (disch := omega) only [l0, l1, l2, l3, l4, l5, l6, l7, l8, l9, l10, l11, l12, l16, l18, l19, l20, l21, l24, l96, l128, l100, l144, l200, l256, l288, l1536, l1728, l1800, bnd, nI_add, pk_mul, pI_sub, pI_m1, pT_le, pF_le, pT_lt, pF_lt, pT_eq, pF_eq, pF_m1, mF_eq, mT_eq, mT_lt, mF_le, lm1, rd_nI, wr_nI, cl_nI, pk_us, un_ne, pk_uLs, uL_ne, zI_uI, zI_uJ, zI_uA, zI_uB, zI_uR, zI_uN, zJ_uI, zJ_uJ, zJ_uA, zJ_uB, zJ_uR, zJ_uN, zA_uI, zA_uJ, zA_uA, zA_uB, zA_uR, zA_uN, zB_uI, zB_uJ, zB_uA, zB_uB, zB_uR, zB_uN, zR_uI, zR_uJ, zR_uA, zR_uB, zR_uR, zR_uN, zN_uI, zN_uJ, zN_uA, zN_uB, zN_uR, zN_uN, zI_ne, zJ_ne, zA_ne, zB_ne, zR_ne, zN_ne, bi_T, bi_F, nz16, ↓reduceIte, not_true_eq_false, not_false_eq_true, Bool.false_eq_true, reduceCtorEq, ec]
      · rcases has2 h q with ⟨o, hw, ho, rfl, f⟩ | f
        · have f2 := (f _ s3).2
          unfold fX12_far
          simp (disch := omega) only [l0, l1, l2, l3, l4, l5, l6, l7, l8, l9, l10, l11, l12, l16, l18, l19, l20, l21, l24, l96, l128, l100, l144, l200, l256, l288, l1536, l1728, l1800, bnd, nI_add, pk_mul, pI_sub, pI_m1, pT_le, pF_le, pT_lt, pF_lt, pT_eq, pF_eq, pF_m1, mF_eq, mT_eq, mT_lt, mF_le, lm1, rd_nI, wr_nI, cl_nI, pk_us, un_ne, pk_uLs, uL_ne, zI_uI, zI_uJ, zI_uA, zI_uB, zI_uR, zI_uN, zJ_uI, zJ_uJ, zJ_uA, zJ_uB, zJ_uR, zJ_uN, zA_uI, zA_uJ, zA_uA, zA_uB, zA_uR, zA_uN, zB_uI, zB_uJ, zB_uA, zB_uB, zB_uR, zB_uN, zR_uI, zR_uJ, zR_uA, zR_uB, zR_uR, zR_uN, zN_uI, zN_uJ, zN_uA, zN_uB, zN_uR, zN_uN, zI_ne, zJ_ne, zA_ne, zB_ne, zR_ne, zN_ne, bi_T, bi_F, nz16, ↓reduceIte, not_true_eq_false, not_false_eq_true, Bool.false_eq_true, reduceCtorEq, e2, f2]
          rw [← zA_uI σ 30 (nI 0), a61]
          simp (disch := omega) only [l0, l1, l2, l3, l4, l5, l6, l7, l8, l9, l10, l11, l12, l16, l18, l19, l20, l21, l24, l96, l128, l100, l144, l200, l256, l288, l1536, l1728, l1800, bnd, nI_add, pk_mul, pI_sub, pI_m1, pT_le, pF_le, pT_lt, pF_lt, pT_eq, pF_eq, pF_m1, mF_eq, mT_eq, mT_lt, mF_le, lm1, rd_nI, wr_nI, cl_nI, pk_us, un_ne, pk_uLs, uL_ne, zI_uI, zI_uJ, zI_uA, zI_uB, zI_uR, zI_uN, zJ_uI, zJ_uJ, zJ_uA, zJ_uB, zJ_uR, zJ_uN, zA_uI, zA_uJ, zA_uA, zA_uB, zA_uR, zA_uN, zB_uI, zB_uJ, zB_uA, zB_uB, zB_uR, zB_uN, zR_uI, zR_uJ, zR_uA, zR_uB, zR_uR, zR_uN, zN_uI, zN_uJ, zN_uA, zN_uB, zN_uR, zN_uN, zI_ne, zJ_ne, zA_ne, zB_ne, zR_ne, zN_ne, bi_T, bi_F, nz16, ↓reduceIte, not_true_eq_false, not_false_eq_true, Bool.false_eq_true, reduceCtorEq, h0]
        · have f2 := (f _ s3).2
          unfold fX12_far
          simp (disch := omega) only [l0, l1, l2, l3, l4, l5, l6, l7, l8, l9, l10, l11, l12, l16, l18, l19, l20, l21, l24, l96, l128, l100, l144, l200, l256, l288, l1536, l1728, l1800, bnd, nI_add, pk_mul, pI_sub, pI_m1, pT_le, pF_le, pT_lt, pF_lt, pT_eq, pF_eq, pF_m1, mF_eq, mT_eq, mT_lt, mF_le, lm1, rd_nI, wr_nI, cl_nI, pk_us, un_ne, pk_uLs, uL_ne, zI_uI, zI_uJ, zI_uA, zI_uB, zI_uR, zI_uN, zJ_uI, zJ_uJ, zJ_uA, zJ_uB, zJ_uR, zJ_uN, zA_uI, zA_uJ, zA_uA, zA_uB, zA_uR, zA_uN, zB_uI, zB_uJ, zB_uA, zB_uB, zB_uR, zB_uN, zR_uI, zR_uJ, zR_uA, zR_uB, zR_uR, zR_uN, zN_uI, zN_uJ, zN_uA, zN_uB, zN_uR, zN_uN, zI_ne, zJ_ne, zA_ne, zB_ne, zR_ne, zN_ne, bi_T, bi_F, nz16, ↓reduceIte, not_true_eq_false, not_false_eq_true, Bool.false_eq_true, reduceCtorEq, e2, f2]
    · rw [decide_eq_true h0] at ec
      rcases has2 h q with ⟨o, hw, ho, rfl, f⟩ | f
      · have f1 := (f σ (SE.rf σ)).1
        obtain ⟨τ, d1, d2⟩ := c_dist hg h.2.1 hv hw
        have k := h.se (d2.tr (se30 τ (nI 0)))
        have f2 := (f _ (d2.tr (se30 τ (nI 0)))).2
        have e3 := (e _ (d2.tr (se30 τ (nI 0)))).2
        obtain ⟨υ, d3, d4⟩ := m_far hg k.2.2.1 hv hw
        have a61' := (k.2.2.1.2.2 s hv).1
        refine ⟨nI (dg g s o), τ, υ, ?_, d2, ?_, (se30 τ _).tr d4⟩
        · unfold fX11_far
          simp (disch := omega) only [l0, l1, l2, l3, l4, l5, l6, l7, l8, l9, l10, l11, l12, l16, l18, l19, l20, l21, l24, l96, l128, l100, l144, l200, l256, l288, l1536, l1728, l1800, bnd, nI_add, pk_mul, pI_sub, pI_m1, pT_le, pF_le, pT_lt, pF_lt, pT_eq, pF_eq, pF_m1, mF_eq, mT_eq, mT_lt, mF_le, lm1, rd_nI, wr_nI, cl_nI, pk_us, un_ne, pk_uLs, uL_ne, zI_uI, zI_uJ, zI_uA, zI_uB, zI_uR, zI_uN, zJ_uI, zJ_uJ, zJ_uA, zJ_uB, zJ_uR, zJ_uN, zA_uI, zA_uJ, zA_uA, zA_uB, zA_uR, zA_uN, zB_uI, zB_uJ, zB_uA, zB_uB, zB_uR, zB_uN, zR_uI, zR_uJ, zR_uA, zR_uB, zR_uR, zR_uN, zN_uI, zN_uJ, zN_uA, zN_uB, zN_uR, zN_uN, zI_ne, zJ_ne, zA_ne, zB_ne, zR_ne, zN_ne, bi_T, bi_F, nz16, ↓reduceIte, not_true_eq_false, not_false_eq_true, Bool.false_eq_true, reduceCtorEq, ec, f1, d1]
        · show fX12_far τ (nI s) (nI o) = _
          unfold fX12_far
          simp (disch := omega) only [l0, l1, l2, l3, l4, l5, l6, l7, l8, l9, l10, l11, l12, l16, l18, l19, l20, l21, l24, l96, l128, l100, l144, l200, l256, l288, l1536, l1728, l1800, bnd, nI_add, pk_mul, pI_sub, pI_m1, pT_le, pF_le, pT_lt, pF_lt, pT_eq, pF_eq, pF_m1, mF_eq, mT_eq, mT_lt, mF_le, lm1, rd_nI, wr_nI, cl_nI, pk_us, un_ne, pk_uLs, uL_ne, zI_uI, zI_uJ, zI_uA, zI_uB, zI_uR, zI_uN, zJ_uI, zJ_uJ, zJ_uA, zJ_uB, zJ_uR, zJ_uN, zA_uI, zA_uJ, zA_uA, zA_uB, zA_uR, zA_uN, zB_uI, zB_uJ, zB_uA, zB_uB, zB_uR, zB_uN, zR_uI, zR_uJ, zR_uA, zR_uB, zR_uR, zR_uN, zN_uI, zN_uJ, zN_uA, zN_uB, zN_uR, zN_uN, zI_ne, zJ_ne, zA_ne, zB_ne, zR_ne, zN_ne, bi_T, bi_F, nz16, ↓reduceIte, not_true_eq_false, not_false_eq_true, Bool.false_eq_true, reduceCtorEq, e3, f2]
          rw [← zA_uI τ 30 (nI 0), a61']
          simp (disch := omega) only [l0, l1, l2, l3, l4, l5, l6, l7, l8, l9, l10, l11, l12, l16, l18, l19, l20, l21, l24, l96, l128, l100, l144, l200, l256, l288, l1536, l1728, l1800, bnd, nI_add, pk_mul, pI_sub, pI_m1, pT_le, pF_le, pT_lt, pF_lt, pT_eq, pF_eq, pF_m1, mF_eq, mT_eq, mT_lt, mF_le, lm1, rd_nI, wr_nI, cl_nI, pk_us, un_ne, pk_uLs, uL_ne, zI_uI, zI_uJ, zI_uA, zI_uB, zI_uR, zI_uN, zJ_uI, zJ_uJ, zJ_uA, zJ_uB, zJ_uR, zJ_uN, zA_uI, zA_uJ, zA_uA, zA_uB, zA_uR, zA_uN, zB_uI, zB_uJ, zB_uA, zB_uB, zB_uR, zB_uN, zR_uI, zR_uJ, zR_uA, zR_uB, zR_uR, zR_uN, zN_uI, zN_uJ, zN_uA, zN_uB, zN_uR, zN_uN, zI_ne, zJ_ne, zA_ne, zB_ne, zR_ne, zN_ne, bi_T, bi_F, nz16, ↓reduceIte, not_true_eq_false, not_false_eq_true, Bool.false_eq_true, reduceCtorEq, d3]
      · have f1 := (f σ (SE.rf σ)).1
        have f2 := (f _ s3).2
        refine B2.no mI ?_ ?_
        · unfold fX11_far
          simp (disch := omega) only [l0, l1, l2, l3, l4, l5, l6, l7, l8, l9, l10, l11, l12, l16, l18, l19, l20, l21, l24, l96, l128, l100, l144, l200, l256, l288, l1536, l1728, l1800, bnd, nI_add, pk_mul, pI_sub, pI_m1, pT_le, pF_le, pT_lt, pF_lt, pT_eq, pF_eq, pF_m1, mF_eq, mT_eq, mT_lt, mF_le, lm1, rd_nI, wr_nI, cl_nI, pk_us, un_ne, pk_uLs, uL_ne, zI_uI, zI_uJ, zI_uA, zI_uB, zI_uR, zI_uN, zJ_uI, zJ_uJ, zJ_uA, zJ_uB, zJ_uR, zJ_uN, zA_uI, zA_uJ, zA_uA, zA_uB, zA_uR, zA_uN, zB_uI, zB_uJ, zB_uA, zB_uB, zB_uR, zB_uN, zR_uI, zR_uJ, zR_uA, zR_uB, zR_uR, zR_uN, zN_uI, zN_uJ, zN_uA, zN_uB, zN_uR, zN_uN, zI_ne, zJ_ne, zA_ne, zB_ne, zR_ne, zN_ne, bi_T, bi_F, nz16, ↓reduceIte, not_true_eq_false, not_false_eq_true, Bool.false_eq_true, reduceCtorEq, ec, f1]
        · unfold fX12_far
          simp (disch := omega) only [l0, l1, l2, l3, l4, l5, l6, l7, l8, l9, l10, l11, l12, l16, l18, l19, l20, l21, l24, l96, l128, l100, l144, l200, l256, l288, l1536, l1728, l1800, bnd, nI_add, pk_mul, pI_sub, pI_m1, pT_le, pF_le, pT_lt, pF_lt, pT_eq, pF_eq, pF_m1, mF_eq, mT_eq, mT_lt, mF_le, lm1, rd_nI, wr_nI, cl_nI, pk_us, un_ne, pk_uLs, uL_ne, zI_uI, zI_uJ, zI_uA, zI_uB, zI_uR, zI_uN, zJ_uI, zJ_uJ, zJ_uA, zJ_uB, zJ_uR, zJ_uN, zA_uI, zA_uJ, zA_uA, zA_uB, zA_uR, zA_uN, zB_uI, zB_uJ, zB_uA, zB_uB, zB_uR, zB_uN, zR_uI, zR_uJ, zR_uA, zR_uB, zR_uR, zR_uN, zN_uI, zN_uJ, zN_uA, zN_uB, zN_uR, zN_uN, zI_ne, zJ_ne, zA_ne, zB_ne, zR_ne, zN_ne, bi_T, bi_F, nz16, ↓reduceIte, not_true_eq_false, not_false_eq_true, Bool.false_eq_true, reduceCtorEq, e2, f2]
  · have e1 := (e σ (SE.rf σ)).1
    have e2 := (e _ s3).2
    refine B2.no mI ?_ ?_
    · unfold fX11_far fX7_hasCue
      simp (disch := omega) only [l0, l1, l2, l3, l4, l5, l6, l7, l8, l9, l10, l11, l12, l16, l18, l19, l20, l21, l24, l96, l128, l100, l144, l200, l256, l288, l1536, l1728, l1800, bnd, nI_add, pk_mul, pI_sub, pI_m1, pT_le, pF_le, pT_lt, pF_lt, pT_eq, pF_eq, pF_m1, mF_eq, mT_eq, mT_lt, mF_le, lm1, rd_nI, wr_nI, cl_nI, pk_us, un_ne, pk_uLs, uL_ne, zI_uI, zI_uJ, zI_uA, zI_uB, zI_uR, zI_uN, zJ_uI, zJ_uJ, zJ_uA, zJ_uB, zJ_uR, zJ_uN, zA_uI, zA_uJ, zA_uA, zA_uB, zA_uR, zA_uN, zB_uI, zB_uJ, zB_uA, zB_uB, zB_uR, zB_uN, zR_uI, zR_uJ, zR_uA, zR_uB, zR_uR, zR_uN, zN_uI, zN_uJ, zN_uA, zN_uB, zN_uR, zN_uN, zI_ne, zJ_ne, zA_ne, zB_ne, zR_ne, zN_ne, bi_T, bi_F, nz16, ↓reduceIte, not_true_eq_false, not_false_eq_true, Bool.false_eq_true, reduceCtorEq, e1]
    · unfold fX12_far
      simp (disch := omega) only [l0, l1, l2, l3, l4, l5, l6, l7, l8, l9, l10, l11, l12, l16, l18, l19, l20, l21, l24, l96, l128, l100, l144, l200, l256, l288, l1536, l1728, l1800, bnd, nI_add, pk_mul, pI_sub, pI_m1, pT_le, pF_le, pT_lt, pF_lt, pT_eq, pF_eq, pF_m1, mF_eq, mT_eq, mT_lt, mF_le, lm1, rd_nI, wr_nI, cl_nI, pk_us, un_ne, pk_uLs, uL_ne, zI_uI, zI_uJ, zI_uA, zI_uB, zI_uR, zI_uN, zJ_uI, zJ_uJ, zJ_uA, zJ_uB, zJ_uR, zJ_uN, zA_uI, zA_uJ, zA_uA, zA_uB, zA_uR, zA_uN, zB_uI, zB_uJ, zB_uA, zB_uB, zB_uR, zB_uN, zR_uI, zR_uJ, zR_uA, zR_uB, zR_uR, zR_uN, zN_uI, zN_uJ, zN_uA, zN_uB, zN_uR, zN_uN, zI_ne, zJ_ne, zA_ne, zB_ne, zR_ne, zN_ne, bi_T, bi_F, nz16, ↓reduceIte, not_true_eq_false, not_false_eq_true, Bool.false_eq_true, reduceCtorEq, e2]
theorem c_isOf2 {σ : St} {g : Gh} {lim : Nat} (h : RI σ g lim) {s t : Nat} (hv : vd g s = true) (ht : t < 256) : fX7_isOf (nI s) (nI t) = some (t.testBit (s / 16)) := c_isOf h.1 (by omega) hv
theorem m_isOfNo {σ : St} {p q : Int32} (h : fX12_isSpeech σ p = some false) : fX12_isOf σ p q = some false := by
  unfold fX12_isOf
  simp (disch := omega) only [l0, l1, l2, l3, l4, l5, l6, l7, l8, l9, l10, l11, l12, l16, l18, l19, l20, l21, l24, l96, l128, l100, l144, l200, l256, l288, l1536, l1728, l1800, bnd, nI_add, pk_mul, pI_sub, pI_m1, pT_le, pF_le, pT_lt, pF_lt, pT_eq, pF_eq, pF_m1, mF_eq, mT_eq, mT_lt, mF_le, lm1, rd_nI, wr_nI, cl_nI, pk_us, un_ne, pk_uLs, uL_ne, zI_uI, zI_uJ, zI_uA, zI_uB, zI_uR, zI_uN, zJ_uI, zJ_uJ, zJ_uA, zJ_uB, zJ_uR, zJ_uN, zA_uI, zA_uJ, zA_uA, zA_uB, zA_uR, zA_uN, zB_uI, zB_uJ, zB_uA, zB_uB, zB_uR, zB_uN, zR_uI, zR_uJ, zR_uA, zR_uB, zR_uR, zR_uN, zN_uI, zN_uJ, zN_uA, zN_uB, zN_uR, zN_uN, zI_ne, zJ_ne, zA_ne, zB_ne, zR_ne, zN_ne, bi_T, bi_F, nz16, ↓reduceIte, not_true_eq_false, not_false_eq_true, Bool.false_eq_true, reduceCtorEq, h]
theorem m_isOfNo2 {σ : St} {p q : Int32} (h : fX12_isSpeech σ p = some true) (h2 : fX12_areRolls σ q = some false) : fX12_isOf σ p q = some false := by
  unfold fX12_isOf
  simp (disch := omega) only [l0, l1, l2, l3, l4, l5, l6, l7, l8, l9, l10, l11, l12, l16, l18, l19, l20, l21, l24, l96, l128, l100, l144, l200, l256, l288, l1536, l1728, l1800, bnd, nI_add, pk_mul, pI_sub, pI_m1, pT_le, pF_le, pT_lt, pF_lt, pT_eq, pF_eq, pF_m1, mF_eq, mT_eq, mT_lt, mF_le, lm1, rd_nI, wr_nI, cl_nI, pk_us, un_ne, pk_uLs, uL_ne, zI_uI, zI_uJ, zI_uA, zI_uB, zI_uR, zI_uN, zJ_uI, zJ_uJ, zJ_uA, zJ_uB, zJ_uR, zJ_uN, zA_uI, zA_uJ, zA_uA, zA_uB, zA_uR, zA_uN, zB_uI, zB_uJ, zB_uA, zB_uB, zB_uR, zB_uN, zR_uI, zR_uJ, zR_uA, zR_uB, zR_uR, zR_uN, zN_uI, zN_uJ, zN_uA, zN_uB, zN_uR, zN_uN, zI_ne, zJ_ne, zA_ne, zB_ne, zR_ne, zN_ne, bi_T, bi_F, nz16, ↓reduceIte, not_true_eq_false, not_false_eq_true, Bool.false_eq_true, reduceCtorEq, h, h2]
theorem t_kind {σ : St} {g : Gh} {lim : Nat} (h : RI σ g lim) (p q : Int32) : B2 σ (fX11_kind σ p q) (fun τ => fX12_kind τ p q) := by
  have hg := h.1
  have hl8 := h.2.2.2.1
  have s3 := se30 σ (nI 0)
  rcases has2 h p with ⟨s, hv, hs, rfl, e⟩ | e
  · have e1 := (e σ (SE.rf σ)).1
    have e2 := (e _ s3).2
    rcases all2 h q with ⟨t, ha, ht, rfl, f⟩ | f
    · have f1 := (f σ (SE.rf σ)).1
      have f2 := (f _ s3).2
      have o1 := c_isOf2 h hv ht
      cases hb : t.testBit (s / 16) with
      | false =>
        rw [hb] at o1
        have o2 := m_isOf (t := t) (s := s) hg (h.se s3).2.2.1 (by omega) (by omega)
        rw [hb, hv, ha] at o2
        refine B2.no mI ?_ ?_
        · unfold fX11_kind
          simp (disch := omega) only [l0, l1, l2, l3, l4, l5, l6, l7, l8, l9, l10, l11, l12, l16, l18, l19, l20, l21, l24, l96, l128, l100, l144, l200, l256, l288, l1536, l1728, l1800, bnd, nI_add, pk_mul, pI_sub, pI_m1, pT_le, pF_le, pT_lt, pF_lt, pT_eq, pF_eq, pF_m1, mF_eq, mT_eq, mT_lt, mF_le, lm1, rd_nI, wr_nI, cl_nI, pk_us, un_ne, pk_uLs, uL_ne, zI_uI, zI_uJ, zI_uA, zI_uB, zI_uR, zI_uN, zJ_uI, zJ_uJ, zJ_uA, zJ_uB, zJ_uR, zJ_uN, zA_uI, zA_uJ, zA_uA, zA_uB, zA_uR, zA_uN, zB_uI, zB_uJ, zB_uA, zB_uB, zB_uR, zB_uN, zR_uI, zR_uJ, zR_uA, zR_uB, zR_uR, zR_uN, zN_uI, zN_uJ, zN_uA, zN_uB, zN_uR, zN_uN, zI_ne, zJ_ne, zA_ne, zB_ne, zR_ne, zN_ne, bi_T, bi_F, nz16, ↓reduceIte, not_true_eq_false, not_false_eq_true, Bool.false_eq_true, reduceCtorEq, e1, f1, o1]
        · unfold fX12_kind
          simp (disch := omega) only [l0, l1, l2, l3, l4, l5, l6, l7, l8, l9, l10, l11, l12, l16, l18, l19, l20, l21, l24, l96, l128, l100, l144, l200, l256, l288, l1536, l1728, l1800, bnd, nI_add, pk_mul, pI_sub, pI_m1, pT_le, pF_le, pT_lt, pF_lt, pT_eq, pF_eq, pF_m1, mF_eq, mT_eq, mT_lt, mF_le, lm1, rd_nI, wr_nI, cl_nI, pk_us, un_ne, pk_uLs, uL_ne, zI_uI, zI_uJ, zI_uA, zI_uB, zI_uR, zI_uN, zJ_uI, zJ_uJ, zJ_uA, zJ_uB, zJ_uR, zJ_uN, zA_uI, zA_uJ, zA_uA, zA_uB, zA_uR, zA_uN, zB_uI, zB_uJ, zB_uA, zB_uB, zB_uR, zB_uN, zR_uI, zR_uJ, zR_uA, zR_uB, zR_uR, zR_uN, zN_uI, zN_uJ, zN_uA, zN_uB, zN_uR, zN_uN, zI_ne, zJ_ne, zA_ne, zB_ne, zR_ne, zN_ne, bi_T, bi_F, nz16, ↓reduceIte, not_true_eq_false, not_false_eq_true, Bool.false_eq_true, reduceCtorEq, o2, Bool.and_false]
      | true =>
        rw [hb] at o1
        obtain ⟨τ, d1, d2⟩ := c_kindOf hg h.2.1 hv ht (show lim < 100 by omega) h.2.2.2.2.1
        have k := h.se (d2.tr (se30 τ (nI 0)))
        have o2 := m_isOf (t := t) (s := s) hg k.2.2.1 (by omega) (by omega)
        rw [hb, hv, ha] at o2
        obtain ⟨υ, d3, d4⟩ := m_kindOf hg k.2.2.1 hv ht (show lim < 100 by omega) k.2.2.2.2.2
        refine ⟨nI (kd g lim t s), τ, υ, ?_, d2, ?_, (se30 τ _).tr d4⟩
        · unfold fX11_kind
          simp (disch := omega) only [l0, l1, l2, l3, l4, l5, l6, l7, l8, l9, l10, l11, l12, l16, l18, l19, l20, l21, l24, l96, l128, l100, l144, l200, l256, l288, l1536, l1728, l1800, bnd, nI_add, pk_mul, pI_sub, pI_m1, pT_le, pF_le, pT_lt, pF_lt, pT_eq, pF_eq, pF_m1, mF_eq, mT_eq, mT_lt, mF_le, lm1, rd_nI, wr_nI, cl_nI, pk_us, un_ne, pk_uLs, uL_ne, zI_uI, zI_uJ, zI_uA, zI_uB, zI_uR, zI_uN, zJ_uI, zJ_uJ, zJ_uA, zJ_uB, zJ_uR, zJ_uN, zA_uI, zA_uJ, zA_uA, zA_uB, zA_uR, zA_uN, zB_uI, zB_uJ, zB_uA, zB_uB, zB_uR, zB_uN, zR_uI, zR_uJ, zR_uA, zR_uB, zR_uR, zR_uN, zN_uI, zN_uJ, zN_uA, zN_uB, zN_uR, zN_uN, zI_ne, zJ_ne, zA_ne, zB_ne, zR_ne, zN_ne, bi_T, bi_F, nz16, ↓reduceIte, not_true_eq_false, not_false_eq_true, Bool.false_eq_true, reduceCtorEq, e1, f1, o1, d1]
        · show fX12_kind τ (nI s) (nI t) = _
          unfold fX12_kind
          simp (disch := omega) only [l0, l1, l2, l3, l4, l5, l6, l7, l8, l9, l10, l11, l12, l16, l18, l19, l20, l21, l24, l96, l128, l100, l144, l200, l256, l288, l1536, l1728, l1800, bnd, nI_add, pk_mul, pI_sub, pI_m1, pT_le, pF_le, pT_lt, pF_lt, pT_eq, pF_eq, pF_m1, mF_eq, mT_eq, mT_lt, mF_le, lm1, rd_nI, wr_nI, cl_nI, pk_us, un_ne, pk_uLs, uL_ne, zI_uI, zI_uJ, zI_uA, zI_uB, zI_uR, zI_uN, zJ_uI, zJ_uJ, zJ_uA, zJ_uB, zJ_uR, zJ_uN, zA_uI, zA_uJ, zA_uA, zA_uB, zA_uR, zA_uN, zB_uI, zB_uJ, zB_uA, zB_uB, zB_uR, zB_uN, zR_uI, zR_uJ, zR_uA, zR_uB, zR_uR, zR_uN, zN_uI, zN_uJ, zN_uA, zN_uB, zN_uR, zN_uN, zI_ne, zJ_ne, zA_ne, zB_ne, zR_ne, zN_ne, bi_T, bi_F, nz16, ↓reduceIte, not_true_eq_false, not_false_eq_true, Bool.false_eq_true, reduceCtorEq, o2, Bool.and_true, d3]
    · have f1 := (f σ (SE.rf σ)).1
      have f2 := (f _ s3).2
      refine B2.no mI ?_ ?_
      · unfold fX11_kind
        simp (disch := omega) only [l0, l1, l2, l3, l4, l5, l6, l7, l8, l9, l10, l11, l12, l16, l18, l19, l20, l21, l24, l96, l128, l100, l144, l200, l256, l288, l1536, l1728, l1800, bnd, nI_add, pk_mul, pI_sub, pI_m1, pT_le, pF_le, pT_lt, pF_lt, pT_eq, pF_eq, pF_m1, mF_eq, mT_eq, mT_lt, mF_le, lm1, rd_nI, wr_nI, cl_nI, pk_us, un_ne, pk_uLs, uL_ne, zI_uI, zI_uJ, zI_uA, zI_uB, zI_uR, zI_uN, zJ_uI, zJ_uJ, zJ_uA, zJ_uB, zJ_uR, zJ_uN, zA_uI, zA_uJ, zA_uA, zA_uB, zA_uR, zA_uN, zB_uI, zB_uJ, zB_uA, zB_uB, zB_uR, zB_uN, zR_uI, zR_uJ, zR_uA, zR_uB, zR_uR, zR_uN, zN_uI, zN_uJ, zN_uA, zN_uB, zN_uR, zN_uN, zI_ne, zJ_ne, zA_ne, zB_ne, zR_ne, zN_ne, bi_T, bi_F, nz16, ↓reduceIte, not_true_eq_false, not_false_eq_true, Bool.false_eq_true, reduceCtorEq, e1, f1]
      · unfold fX12_kind
        simp (disch := omega) only [l0, l1, l2, l3, l4, l5, l6, l7, l8, l9, l10, l11, l12, l16, l18, l19, l20, l21, l24, l96, l128, l100, l144, l200, l256, l288, l1536, l1728, l1800, bnd, nI_add, pk_mul, pI_sub, pI_m1, pT_le, pF_le, pT_lt, pF_lt, pT_eq, pF_eq, pF_m1, mF_eq, mT_eq, mT_lt, mF_le, lm1, rd_nI, wr_nI, cl_nI, pk_us, un_ne, pk_uLs, uL_ne, zI_uI, zI_uJ, zI_uA, zI_uB, zI_uR, zI_uN, zJ_uI, zJ_uJ, zJ_uA, zJ_uB, zJ_uR, zJ_uN, zA_uI, zA_uJ, zA_uA, zA_uB, zA_uR, zA_uN, zB_uI, zB_uJ, zB_uA, zB_uB, zB_uR, zB_uN, zR_uI, zR_uJ, zR_uA, zR_uB, zR_uR, zR_uN, zN_uI, zN_uJ, zN_uA, zN_uB, zN_uR, zN_uN, zI_ne, zJ_ne, zA_ne, zB_ne, zR_ne, zN_ne, bi_T, bi_F, nz16, ↓reduceIte, not_true_eq_false, not_false_eq_true, Bool.false_eq_true, reduceCtorEq, m_isOfNo2 e2 f2]
  · have e1 := (e σ (SE.rf σ)).1
    have e2 := (e _ s3).2
    refine B2.no mI ?_ ?_
    · unfold fX11_kind
      simp (disch := omega) only [l0, l1, l2, l3, l4, l5, l6, l7, l8, l9, l10, l11, l12, l16, l18, l19, l20, l21, l24, l96, l128, l100, l144, l200, l256, l288, l1536, l1728, l1800, bnd, nI_add, pk_mul, pI_sub, pI_m1, pT_le, pF_le, pT_lt, pF_lt, pT_eq, pF_eq, pF_m1, mF_eq, mT_eq, mT_lt, mF_le, lm1, rd_nI, wr_nI, cl_nI, pk_us, un_ne, pk_uLs, uL_ne, zI_uI, zI_uJ, zI_uA, zI_uB, zI_uR, zI_uN, zJ_uI, zJ_uJ, zJ_uA, zJ_uB, zJ_uR, zJ_uN, zA_uI, zA_uJ, zA_uA, zA_uB, zA_uR, zA_uN, zB_uI, zB_uJ, zB_uA, zB_uB, zB_uR, zB_uN, zR_uI, zR_uJ, zR_uA, zR_uB, zR_uR, zR_uN, zN_uI, zN_uJ, zN_uA, zN_uB, zN_uR, zN_uN, zI_ne, zJ_ne, zA_ne, zB_ne, zR_ne, zN_ne, bi_T, bi_F, nz16, ↓reduceIte, not_true_eq_false, not_false_eq_true, Bool.false_eq_true, reduceCtorEq, e1]
    · unfold fX12_kind
      simp (disch := omega) only [l0, l1, l2, l3, l4, l5, l6, l7, l8, l9, l10, l11, l12, l16, l18, l19, l20, l21, l24, l96, l128, l100, l144, l200, l256, l288, l1536, l1728, l1800, bnd, nI_add, pk_mul, pI_sub, pI_m1, pT_le, pF_le, pT_lt, pF_lt, pT_eq, pF_eq, pF_m1, mF_eq, mT_eq, mT_lt, mF_le, lm1, rd_nI, wr_nI, cl_nI, pk_us, un_ne, pk_uLs, uL_ne, zI_uI, zI_uJ, zI_uA, zI_uB, zI_uR, zI_uN, zJ_uI, zJ_uJ, zJ_uA, zJ_uB, zJ_uR, zJ_uN, zA_uI, zA_uJ, zA_uA, zA_uB, zA_uR, zA_uN, zB_uI, zB_uJ, zB_uA, zB_uB, zB_uR, zB_uN, zR_uI, zR_uJ, zR_uA, zR_uB, zR_uR, zR_uN, zN_uI, zN_uJ, zN_uA, zN_uB, zN_uR, zN_uN, zI_ne, zJ_ne, zA_ne, zB_ne, zR_ne, zN_ne, bi_T, bi_F, nz16, ↓reduceIte, not_true_eq_false, not_false_eq_true, Bool.false_eq_true, reduceCtorEq, m_isOfNo e2]
theorem t_nearest {σ : St} {g : Gh} {lim : Nat} (h : RI σ g lim) (p q : Int32) : B2 σ (fX11_nearest σ p q) (fun τ => fX12_nearest τ p q) := by
  have hg := h.1
  have s3 := se30 σ (nI 0)
  rcases has2 h p with ⟨s, hv, hs, rfl, e⟩ | e
  · have e1 := (e σ (SE.rf σ)).1
    have e2 := (e _ s3).2
    have hc2 := (vd_ok hg hv).1
    have ec := c_hasCue hg h.2.1 (s := s) (by omega)
    have a61 := ((h.se s3).2.2.1.2.2 s hv).1
    rw [zA_uI] at a61
    rw [hv, Bool.true_and] at ec
    rcases all2 h q with ⟨t, ha, ht, rfl, f⟩ | f
    · have f1 := (f σ (SE.rf σ)).1
      have f2 := (f _ s3).2
      have o1 := c_isOf2 h hv ht
      have o2 := m_isOf (t := t) (s := s) hg (h.se s3).2.2.1 (by omega) (by omega)
      rw [hv, ha] at o2
      by_cases h0 : (gC g s).length = 0
      · rw [decide_eq_false (fun x => x h0)] at ec
        refine B2.no mI ?_ ?_
        · unfold fX11_nearest
          simp (disch := omega) only [l0, l1, l2, l3, l4, l5, l6, l7, l8, l9, l10, l11, l12, l16, l18, l19, l20, l21, l24, l96, l128, l100, l144, l200, l256, l288, l1536, l1728, l1800, bnd, nI_add, pk_mul, pI_sub, pI_m1, pT_le, pF_le, pT_lt, pF_lt, pT_eq, pF_eq, pF_m1, mF_eq, mT_eq, mT_lt, mF_le, lm1, rd_nI, wr_nI, cl_nI, pk_us, un_ne, pk_uLs, uL_ne, zI_uI, zI_uJ, zI_uA, zI_uB, zI_uR, zI_uN, zJ_uI, zJ_uJ, zJ_uA, zJ_uB, zJ_uR, zJ_uN, zA_uI, zA_uJ, zA_uA, zA_uB, zA_uR, zA_uN, zB_uI, zB_uJ, zB_uA, zB_uB, zB_uR, zB_uN, zR_uI, zR_uJ, zR_uA, zR_uB, zR_uR, zR_uN, zN_uI, zN_uJ, zN_uA, zN_uB, zN_uR, zN_uN, zI_ne, zJ_ne, zA_ne, zB_ne, zR_ne, zN_ne, bi_T, bi_F, nz16, ↓reduceIte, not_true_eq_false, not_false_eq_true, Bool.false_eq_true, reduceCtorEq, ec]
        · cases hb : t.testBit (s / 16) with
          | false =>
            rw [hb] at o2
            unfold fX12_nearest
            simp (disch := omega) only [l0, l1, l2, l3, l4, l5, l6, l7, l8, l9, l10, l11, l12, l16, l18, l19, l20, l21, l24, l96, l128, l100, l144, l200, l256, l288, l1536, l1728, l1800, bnd, nI_add, pk_mul, pI_sub, pI_m1, pT_le, pF_le, pT_lt, pF_lt, pT_eq, pF_eq, pF_m1, mF_eq, mT_eq, mT_lt, mF_le, lm1, rd_nI, wr_nI, cl_nI, pk_us, un_ne, pk_uLs, uL_ne, zI_uI, zI_uJ, zI_uA, zI_uB, zI_uR, zI_uN, zJ_uI, zJ_uJ, zJ_uA, zJ_uB, zJ_uR, zJ_uN, zA_uI, zA_uJ, zA_uA, zA_uB, zA_uR, zA_uN, zB_uI, zB_uJ, zB_uA, zB_uB, zB_uR, zB_uN, zR_uI, zR_uJ, zR_uA, zR_uB, zR_uR, zR_uN, zN_uI, zN_uJ, zN_uA, zN_uB, zN_uR, zN_uN, zI_ne, zJ_ne, zA_ne, zB_ne, zR_ne, zN_ne, bi_T, bi_F, nz16, ↓reduceIte, not_true_eq_false, not_false_eq_true, Bool.false_eq_true, reduceCtorEq, o2, Bool.and_false]
          | true =>
            rw [hb] at o2
            unfold fX12_nearest
            simp (disch := omega) only [l0, l1, l2, l3, l4, l5, l6, l7, l8, l9, l10, l11, l12, l16, l18, l19, l20, l21, l24, l96, l128, l100, l144, l200, l256, l288, l1536, l1728, l1800, bnd, nI_add, pk_mul, pI_sub, pI_m1, pT_le, pF_le, pT_lt, pF_lt, pT_eq, pF_eq, pF_m1, mF_eq, mT_eq, mT_lt, mF_le, lm1, rd_nI, wr_nI, cl_nI, pk_us, un_ne, pk_uLs, uL_ne, zI_uI, zI_uJ, zI_uA, zI_uB, zI_uR, zI_uN, zJ_uI, zJ_uJ, zJ_uA, zJ_uB, zJ_uR, zJ_uN, zA_uI, zA_uJ, zA_uA, zA_uB, zA_uR, zA_uN, zB_uI, zB_uJ, zB_uA, zB_uB, zB_uR, zB_uN, zR_uI, zR_uJ, zR_uA, zR_uB, zR_uR, zR_uN, zN_uI, zN_uJ, zN_uA, zN_uB, zN_uR, zN_uN, zI_ne, zJ_ne, zA_ne, zB_ne, zR_ne, zN_ne, bi_T, bi_F, nz16, ↓reduceIte, not_true_eq_false, not_false_eq_true, Bool.false_eq_true, reduceCtorEq, o2, Bool.and_true, a61, h0]
      · rw [decide_eq_true h0] at ec
        cases hb : t.testBit (s / 16) with
        | false =>
          rw [hb] at o1 o2
          refine B2.no mI ?_ ?_
          · unfold fX11_nearest
            simp (disch := omega) only [l0, l1, l2, l3, l4, l5, l6, l7, l8, l9, l10, l11, l12, l16, l18, l19, l20, l21, l24, l96, l128, l100, l144, l200, l256, l288, l1536, l1728, l1800, bnd, nI_add, pk_mul, pI_sub, pI_m1, pT_le, pF_le, pT_lt, pF_lt, pT_eq, pF_eq, pF_m1, mF_eq, mT_eq, mT_lt, mF_le, lm1, rd_nI, wr_nI, cl_nI, pk_us, un_ne, pk_uLs, uL_ne, zI_uI, zI_uJ, zI_uA, zI_uB, zI_uR, zI_uN, zJ_uI, zJ_uJ, zJ_uA, zJ_uB, zJ_uR, zJ_uN, zA_uI, zA_uJ, zA_uA, zA_uB, zA_uR, zA_uN, zB_uI, zB_uJ, zB_uA, zB_uB, zB_uR, zB_uN, zR_uI, zR_uJ, zR_uA, zR_uB, zR_uR, zR_uN, zN_uI, zN_uJ, zN_uA, zN_uB, zN_uR, zN_uN, zI_ne, zJ_ne, zA_ne, zB_ne, zR_ne, zN_ne, bi_T, bi_F, nz16, ↓reduceIte, not_true_eq_false, not_false_eq_true, Bool.false_eq_true, reduceCtorEq, ec, f1, o1]
          · unfold fX12_nearest
            simp (disch := omega) only [l0, l1, l2, l3, l4, l5, l6, l7, l8, l9, l10, l11, l12, l16, l18, l19, l20, l21, l24, l96, l128, l100, l144, l200, l256, l288, l1536, l1728, l1800, bnd, nI_add, pk_mul, pI_sub, pI_m1, pT_le, pF_le, pT_lt, pF_lt, pT_eq, pF_eq, pF_m1, mF_eq, mT_eq, mT_lt, mF_le, lm1, rd_nI, wr_nI, cl_nI, pk_us, un_ne, pk_uLs, uL_ne, zI_uI, zI_uJ, zI_uA, zI_uB, zI_uR, zI_uN, zJ_uI, zJ_uJ, zJ_uA, zJ_uB, zJ_uR, zJ_uN, zA_uI, zA_uJ, zA_uA, zA_uB, zA_uR, zA_uN, zB_uI, zB_uJ, zB_uA, zB_uB, zB_uR, zB_uN, zR_uI, zR_uJ, zR_uA, zR_uB, zR_uR, zR_uN, zN_uI, zN_uJ, zN_uA, zN_uB, zN_uR, zN_uN, zI_ne, zJ_ne, zA_ne, zB_ne, zR_ne, zN_ne, bi_T, bi_F, nz16, ↓reduceIte, not_true_eq_false, not_false_eq_true, Bool.false_eq_true, reduceCtorEq, o2, Bool.and_false]
        | true =>
          rw [hb] at o1
          obtain ⟨τ, d1, d2⟩ := c_leastFar hg h.2.1 hv ht
          have k := h.se (d2.tr (se30 τ (nI 0)))
          have o2 := m_isOf (t := t) (s := s) hg k.2.2.1 (by omega) (by omega)
          rw [hb, hv, ha] at o2
          have a61' := (k.2.2.1.2.2 s hv).1
          rw [zA_uI] at a61'
          obtain ⟨υ, d3, d4⟩ := m_nearest hg k.2.2.1 hv ht
          refine ⟨n1 (ne g t s), τ, υ, ?_, d2, ?_, (se30 τ _).tr d4⟩
          · unfold fX11_nearest
            simp (disch := omega) only [l0, l1, l2, l3, l4, l5, l6, l7, l8, l9, l10, l11, l12, l16, l18, l19, l20, l21, l24, l96, l128, l100, l144, l200, l256, l288, l1536, l1728, l1800, bnd, nI_add, pk_mul, pI_sub, pI_m1, pT_le, pF_le, pT_lt, pF_lt, pT_eq, pF_eq, pF_m1, mF_eq, mT_eq, mT_lt, mF_le, lm1, rd_nI, wr_nI, cl_nI, pk_us, un_ne, pk_uLs, uL_ne, zI_uI, zI_uJ, zI_uA, zI_uB, zI_uR, zI_uN, zJ_uI, zJ_uJ, zJ_uA, zJ_uB, zJ_uR, zJ_uN, zA_uI, zA_uJ, zA_uA, zA_uB, zA_uR, zA_uN, zB_uI, zB_uJ, zB_uA, zB_uB, zB_uR, zB_uN, zR_uI, zR_uJ, zR_uA, zR_uB, zR_uR, zR_uN, zN_uI, zN_uJ, zN_uA, zN_uB, zN_uR, zN_uN, zI_ne, zJ_ne, zA_ne, zB_ne, zR_ne, zN_ne, bi_T, bi_F, nz16, ↓reduceIte, not_true_eq_false, not_false_eq_true, Bool.false_eq_true, reduceCtorEq, ec, f1, o1, d1]
          · show fX12_nearest τ (nI s) (nI t) = _
            unfold fX12_nearest
            simp (disch := omega) only [l0, l1, l2, l3, l4, l5, l6, l7, l8, l9, l10, l11, l12, l16, l18, l19, l20, l21, l24, l96, l128, l100, l144, l200, l256, l288, l1536, l1728, l1800, bnd, nI_add, pk_mul, pI_sub, pI_m1, pT_le, pF_le, pT_lt, pF_lt, pT_eq, pF_eq, pF_m1, mF_eq, mT_eq, mT_lt, mF_le, lm1, rd_nI, wr_nI, cl_nI, pk_us, un_ne, pk_uLs, uL_ne, zI_uI, zI_uJ, zI_uA, zI_uB, zI_uR, zI_uN, zJ_uI, zJ_uJ, zJ_uA, zJ_uB, zJ_uR, zJ_uN, zA_uI, zA_uJ, zA_uA, zA_uB, zA_uR, zA_uN, zB_uI, zB_uJ, zB_uA, zB_uB, zB_uR, zB_uN, zR_uI, zR_uJ, zR_uA, zR_uB, zR_uR, zR_uN, zN_uI, zN_uJ, zN_uA, zN_uB, zN_uR, zN_uN, zI_ne, zJ_ne, zA_ne, zB_ne, zR_ne, zN_ne, bi_T, bi_F, nz16, ↓reduceIte, not_true_eq_false, not_false_eq_true, Bool.false_eq_true, reduceCtorEq, o2, Bool.and_true, a61', d3]
    · have f1 := (f σ (SE.rf σ)).1
      have f2 := (f _ s3).2
      refine B2.no mI ?_ ?_
      · by_cases h0 : (gC g s).length = 0
        · rw [decide_eq_false (fun x => x h0)] at ec
          unfold fX11_nearest
          simp (disch := omega) only [l0, l1, l2, l3, l4, l5, l6, l7, l8, l9, l10, l11, l12, l16, l18, l19, l20, l21, l24, l96, l128, l100, l144, l200, l256, l288, l1536, l1728, l1800, bnd, nI_add, pk_mul, pI_sub, pI_m1, pT_le, pF_le, pT_lt, pF_lt, pT_eq, pF_eq, pF_m1, mF_eq, mT_eq, mT_lt, mF_le, lm1, rd_nI, wr_nI, cl_nI, pk_us, un_ne, pk_uLs, uL_ne, zI_uI, zI_uJ, zI_uA, zI_uB, zI_uR, zI_uN, zJ_uI, zJ_uJ, zJ_uA, zJ_uB, zJ_uR, zJ_uN, zA_uI, zA_uJ, zA_uA, zA_uB, zA_uR, zA_uN, zB_uI, zB_uJ, zB_uA, zB_uB, zB_uR, zB_uN, zR_uI, zR_uJ, zR_uA, zR_uB, zR_uR, zR_uN, zN_uI, zN_uJ, zN_uA, zN_uB, zN_uR, zN_uN, zI_ne, zJ_ne, zA_ne, zB_ne, zR_ne, zN_ne, bi_T, bi_F, nz16, ↓reduceIte, not_true_eq_false, not_false_eq_true, Bool.false_eq_true, reduceCtorEq, ec]
        · rw [decide_eq_true h0] at ec
          unfold fX11_nearest
          simp (disch := omega) only [l0, l1, l2, l3, l4, l5, l6, l7, l8, l9, l10, l11, l12, l16, l18, l19, l20, l21, l24, l96, l128, l100, l144, l200, l256, l288, l1536, l1728, l1800, bnd, nI_add, pk_mul, pI_sub, pI_m1, pT_le, pF_le, pT_lt, pF_lt, pT_eq, pF_eq, pF_m1, mF_eq, mT_eq, mT_lt, mF_le, lm1, rd_nI, wr_nI, cl_nI, pk_us, un_ne, pk_uLs, uL_ne, zI_uI, zI_uJ, zI_uA, zI_uB, zI_uR, zI_uN, zJ_uI, zJ_uJ, zJ_uA, zJ_uB, zJ_uR, zJ_uN, zA_uI, zA_uJ, zA_uA, zA_uB, zA_uR, zA_uN, zB_uI, zB_uJ, zB_uA, zB_uB, zB_uR, zB_uN, zR_uI, zR_uJ, zR_uA, zR_uB, zR_uR, zR_uN, zN_uI, zN_uJ, zN_uA, zN_uB, zN_uR, zN_uN, zI_ne, zJ_ne, zA_ne, zB_ne, zR_ne, zN_ne, bi_T, bi_F, nz16, ↓reduceIte, not_true_eq_false, not_false_eq_true, Bool.false_eq_true, reduceCtorEq, ec, f1]
      · unfold fX12_nearest
        simp (disch := omega) only [l0, l1, l2, l3, l4, l5, l6, l7, l8, l9, l10, l11, l12, l16, l18, l19, l20, l21, l24, l96, l128, l100, l144, l200, l256, l288, l1536, l1728, l1800, bnd, nI_add, pk_mul, pI_sub, pI_m1, pT_le, pF_le, pT_lt, pF_lt, pT_eq, pF_eq, pF_m1, mF_eq, mT_eq, mT_lt, mF_le, lm1, rd_nI, wr_nI, cl_nI, pk_us, un_ne, pk_uLs, uL_ne, zI_uI, zI_uJ, zI_uA, zI_uB, zI_uR, zI_uN, zJ_uI, zJ_uJ, zJ_uA, zJ_uB, zJ_uR, zJ_uN, zA_uI, zA_uJ, zA_uA, zA_uB, zA_uR, zA_uN, zB_uI, zB_uJ, zB_uA, zB_uB, zB_uR, zB_uN, zR_uI, zR_uJ, zR_uA, zR_uB, zR_uR, zR_uN, zN_uI, zN_uJ, zN_uA, zN_uB, zN_uR, zN_uN, zI_ne, zJ_ne, zA_ne, zB_ne, zR_ne, zN_ne, bi_T, bi_F, nz16, ↓reduceIte, not_true_eq_false, not_false_eq_true, Bool.false_eq_true, reduceCtorEq, m_isOfNo2 e2 f2]
  · have e1 := (e σ (SE.rf σ)).1
    have e2 := (e _ s3).2
    refine B2.no mI ?_ ?_
    · unfold fX11_nearest fX7_hasCue
      simp (disch := omega) only [l0, l1, l2, l3, l4, l5, l6, l7, l8, l9, l10, l11, l12, l16, l18, l19, l20, l21, l24, l96, l128, l100, l144, l200, l256, l288, l1536, l1728, l1800, bnd, nI_add, pk_mul, pI_sub, pI_m1, pT_le, pF_le, pT_lt, pF_lt, pT_eq, pF_eq, pF_m1, mF_eq, mT_eq, mT_lt, mF_le, lm1, rd_nI, wr_nI, cl_nI, pk_us, un_ne, pk_uLs, uL_ne, zI_uI, zI_uJ, zI_uA, zI_uB, zI_uR, zI_uN, zJ_uI, zJ_uJ, zJ_uA, zJ_uB, zJ_uR, zJ_uN, zA_uI, zA_uJ, zA_uA, zA_uB, zA_uR, zA_uN, zB_uI, zB_uJ, zB_uA, zB_uB, zB_uR, zB_uN, zR_uI, zR_uJ, zR_uA, zR_uB, zR_uR, zR_uN, zN_uI, zN_uJ, zN_uA, zN_uB, zN_uR, zN_uN, zI_ne, zJ_ne, zA_ne, zB_ne, zR_ne, zN_ne, bi_T, bi_F, nz16, ↓reduceIte, not_true_eq_false, not_false_eq_true, Bool.false_eq_true, reduceCtorEq, e1]
    · unfold fX12_nearest
      simp (disch := omega) only [l0, l1, l2, l3, l4, l5, l6, l7, l8, l9, l10, l11, l12, l16, l18, l19, l20, l21, l24, l96, l128, l100, l144, l200, l256, l288, l1536, l1728, l1800, bnd, nI_add, pk_mul, pI_sub, pI_m1, pT_le, pF_le, pT_lt, pF_lt, pT_eq, pF_eq, pF_m1, mF_eq, mT_eq, mT_lt, mF_le, lm1, rd_nI, wr_nI, cl_nI, pk_us, un_ne, pk_uLs, uL_ne, zI_uI, zI_uJ, zI_uA, zI_uB, zI_uR, zI_uN, zJ_uI, zJ_uJ, zJ_uA, zJ_uB, zJ_uR, zJ_uN, zA_uI, zA_uJ, zA_uA, zA_uB, zA_uR, zA_uN, zB_uI, zB_uJ, zB_uA, zB_uB, zB_uR, zB_uN, zR_uI, zR_uJ, zR_uA, zR_uB, zR_uR, zR_uN, zN_uI, zN_uJ, zN_uA, zN_uB, zN_uR, zN_uN, zI_ne, zJ_ne, zA_ne, zB_ne, zR_ne, zN_ne, bi_T, bi_F, nz16, ↓reduceIte, not_true_eq_false, not_false_eq_true, Bool.false_eq_true, reduceCtorEq, m_isOfNo e2]
/-- how many cues of a kind -/
def kn (g : Gh) (lim t k : Nat) : Nat := (sp g).countP (fun s => t.testBit (s / 16) && decide (kd g lim t s = k))
theorem c_kinds {σ : St} {g : Gh} {lim : Nat} (h : RI σ g lim) {t k : Nat} (ht : t < 256) (hk5 : k ≤ 5) : ∃ τ, fX0_howManyOfKind σ (nI t) (nI k) = some (nI (kn g lim t k), τ) ∧ SE σ τ := by
  have hg := h.1
  have hl8 := h.2.2.2.1
  have hl := sp_len hg
  unfold fX0_howManyOfKind
  have key := it_for (β := St × Nat) (body := fun (kb : (St × Int32 × Int32) → Option (Int32 × St)) (x : St × Int32 × Int32) => fX0_howManyOfKind_L5 (nI t) (nI k) (fun σ v3 v4 => kb (σ, v3, v4)) x.1 x.2.1 x.2.2) (sp g).length (by omega) (fun i b => (b.1, nI b.2, nI i)) (fun i b => SE σ b.1 ∧ b.2 ≤ i) (fun i b r => ∃ τ, r = some (nI (b.2 + ((sp g).drop i).countP (fun s => t.testBit (s / 16) && decide (kd g lim t s = k))), τ) ∧ SE σ τ) ?_ 0 (σ, 0) (Nat.zero_le _) ⟨SE.rf σ, Nat.le_refl _⟩
  · rw [List.drop_zero] at key
    simp only [Nat.zero_add] at key
    exact key
  · rintro i ⟨τ, a⟩ hi ⟨se, ha⟩ kb hkb
    have se : SE σ τ := se
    have ha : a ≤ i := ha
    show ∃ υ, fX0_howManyOfKind_L5 _ _ _ τ (nI a) (nI i) = _ ∧ _
    unfold fX0_howManyOfKind_L5
    have k2 := h.se se
    by_cases hin : i = (sp g).length
    · refine ⟨τ, ?_, se⟩
      rw [hin, List.drop_length]
      simp (disch := omega) only [l0, l1, l2, l3, l4, l5, l6, l7, l8, l9, l10, l11, l12, l16, l18, l19, l20, l21, l24, l96, l128, l100, l144, l200, l256, l288, l1536, l1728, l1800, bnd, nI_add, pk_mul, pI_sub, pI_m1, pT_le, pF_le, pT_lt, pF_lt, pT_eq, pF_eq, pF_m1, mF_eq, mT_eq, mT_lt, mF_le, lm1, rd_nI, wr_nI, cl_nI, pk_us, un_ne, pk_uLs, uL_ne, zI_uI, zI_uJ, zI_uA, zI_uB, zI_uR, zI_uN, zJ_uI, zJ_uJ, zJ_uA, zJ_uB, zJ_uR, zJ_uN, zA_uI, zA_uJ, zA_uA, zA_uB, zA_uR, zA_uN, zB_uI, zB_uJ, zB_uA, zB_uB, zB_uR, zB_uN, zR_uI, zR_uJ, zR_uA, zR_uB, zR_uR, zR_uN, zN_uI, zN_uJ, zN_uA, zN_uB, zN_uR, zN_uN, zI_ne, zJ_ne, zA_ne, zB_ne, zR_ne, zN_ne, bi_T, bi_F, nz16, ↓reduceIte, not_true_eq_false, not_false_eq_true, Bool.false_eq_true, reduceCtorEq, c_speeches k2.2.1]
      rfl
    · have hv := sp_at (g := g) (i := i) (by omega)
      have hvl := vd_lt hg hv
      have hat := c_speechAt hg k2.2.1 (i := i) (by omega)
      have hof := c_isOf hg (t := t) (by omega) hv
      rw [drop_get (by omega), List.countP_cons]
      generalize (sp g).getD i 0 = o at *
      cases h1 : t.testBit (o / 16) with
      | false =>
        rw [h1] at hof
        obtain ⟨υ, e, se2⟩ := hkb (τ, a) (by omega) ⟨se, by show a ≤ i + 1; omega⟩
        refine ⟨υ, ?_, se2⟩
        simp (disch := omega) only [l0, l1, l2, l3, l4, l5, l6, l7, l8, l9, l10, l11, l12, l16, l18, l19, l20, l21, l24, l96, l128, l100, l144, l200, l256, l288, l1536, l1728, l1800, bnd, nI_add, pk_mul, pI_sub, pI_m1, pT_le, pF_le, pT_lt, pF_lt, pT_eq, pF_eq, pF_m1, mF_eq, mT_eq, mT_lt, mF_le, lm1, rd_nI, wr_nI, cl_nI, pk_us, un_ne, pk_uLs, uL_ne, zI_uI, zI_uJ, zI_uA, zI_uB, zI_uR, zI_uN, zJ_uI, zJ_uJ, zJ_uA, zJ_uB, zJ_uR, zJ_uN, zA_uI, zA_uJ, zA_uA, zA_uB, zA_uR, zA_uN, zB_uI, zB_uJ, zB_uA, zB_uB, zB_uR, zB_uN, zR_uI, zR_uJ, zR_uA, zR_uB, zR_uR, zR_uN, zN_uI, zN_uJ, zN_uA, zN_uB, zN_uR, zN_uN, zI_ne, zJ_ne, zA_ne, zB_ne, zR_ne, zN_ne, bi_T, bi_F, nz16, ↓reduceIte, not_true_eq_false, not_false_eq_true, Bool.false_eq_true, reduceCtorEq, c_speeches k2.2.1, hat, hof, Bool.false_and]
        exact e
      | true =>
        rw [h1] at hof
        obtain ⟨υ, d1, d2⟩ := c_kindOf hg k2.2.1 hv ht (show lim < 100 by omega) k2.2.2.2.2.1
        have hkd := kd_le g lim t o
        by_cases h2 : kd g lim t o = k
        · obtain ⟨w, e, se2⟩ := hkb (υ, a + 1) (by omega) ⟨se.tr d2, by show a + 1 ≤ i + 1; omega⟩
          refine ⟨w, ?_, se2⟩
          rw [h2] at d1
          simp (disch := omega) only [l0, l1, l2, l3, l4, l5, l6, l7, l8, l9, l10, l11, l12, l16, l18, l19, l20, l21, l24, l96, l128, l100, l144, l200, l256, l288, l1536, l1728, l1800, bnd, nI_add, pk_mul, pI_sub, pI_m1, pT_le, pF_le, pT_lt, pF_lt, pT_eq, pF_eq, pF_m1, mF_eq, mT_eq, mT_lt, mF_le, lm1, rd_nI, wr_nI, cl_nI, pk_us, un_ne, pk_uLs, uL_ne, zI_uI, zI_uJ, zI_uA, zI_uB, zI_uR, zI_uN, zJ_uI, zJ_uJ, zJ_uA, zJ_uB, zJ_uR, zJ_uN, zA_uI, zA_uJ, zA_uA, zA_uB, zA_uR, zA_uN, zB_uI, zB_uJ, zB_uA, zB_uB, zB_uR, zB_uN, zR_uI, zR_uJ, zR_uA, zR_uB, zR_uR, zR_uN, zN_uI, zN_uJ, zN_uA, zN_uB, zN_uR, zN_uN, zI_ne, zJ_ne, zA_ne, zB_ne, zR_ne, zN_ne, bi_T, bi_F, nz16, ↓reduceIte, not_true_eq_false, not_false_eq_true, Bool.false_eq_true, reduceCtorEq, c_speeches k2.2.1, hat, hof, d1, Bool.true_and, decide_eq_true h2]
          rw [e]
          congr 3
          show a + 1 + _ = a + (_ + 1)
          omega
        · obtain ⟨w, e, se2⟩ := hkb (υ, a) (by omega) ⟨se.tr d2, by show a ≤ i + 1; omega⟩
          refine ⟨w, ?_, se2⟩
          simp (disch := omega) only [l0, l1, l2, l3, l4, l5, l6, l7, l8, l9, l10, l11, l12, l16, l18, l19, l20, l21, l24, l96, l128, l100, l144, l200, l256, l288, l1536, l1728, l1800, bnd, nI_add, pk_mul, pI_sub, pI_m1, pT_le, pF_le, pT_lt, pF_lt, pT_eq, pF_eq, pF_m1, mF_eq, mT_eq, mT_lt, mF_le, lm1, rd_nI, wr_nI, cl_nI, pk_us, un_ne, pk_uLs, uL_ne, zI_uI, zI_uJ, zI_uA, zI_uB, zI_uR, zI_uN, zJ_uI, zJ_uJ, zJ_uA, zJ_uB, zJ_uR, zJ_uN, zA_uI, zA_uJ, zA_uA, zA_uB, zA_uR, zA_uN, zB_uI, zB_uJ, zB_uA, zB_uB, zB_uR, zB_uN, zR_uI, zR_uJ, zR_uA, zR_uB, zR_uR, zR_uN, zN_uI, zN_uJ, zN_uA, zN_uB, zN_uR, zN_uN, zI_ne, zJ_ne, zA_ne, zB_ne, zR_ne, zN_ne, bi_T, bi_F, nz16, ↓reduceIte, not_true_eq_false, not_false_eq_true, Bool.false_eq_true, reduceCtorEq, c_speeches k2.2.1, hat, hof, d1, Bool.true_and, decide_eq_false h2]
          exact e
theorem m_kinds {σ : St} {g : Gh} {lim : Nat} (h : RI σ g lim) {t k : Nat} (hal : al g t = true) (hk5 : k ≤ 5) : ∃ τ, fX12_kinds_P29 (nI t) (nI k) σ (nI 0) (nI 0) = some (nI (kn g lim t k), τ) ∧ SE σ τ := by
  have hg := h.1
  have ht := al_lt hg hal
  have hl8 := h.2.2.2.1
  have key := it_for (β := St × Nat) (body := fun (kb : (St × Int32 × Int32) → Option (Int32 × St)) (x : St × Int32 × Int32) => fX12_kinds_L29 (nI t) (nI k) (fun σ v3 v4 => kb (σ, v3, v4)) x.1 x.2.1 x.2.2) 128 (by omega) (fun i b => (b.1, nI b.2, nI i)) (fun i b => SE σ b.1 ∧ b.2 ≤ i) (fun i b r => ∃ τ, r = some (nI (b.2 + ((List.range 128).drop i).countP (fun s => vd g s && (t.testBit (s / 16) && decide (kd g lim t s = k)))), τ) ∧ SE σ τ) ?_ 0 (σ, 0) (Nat.zero_le _) ⟨SE.rf σ, Nat.le_refl _⟩
  · rw [List.drop_zero, sp_countP g] at key
    simp only [Nat.zero_add] at key
    exact key
  · rintro i ⟨τ, a⟩ hi ⟨se, ha⟩ kb hkb
    have se : SE σ τ := se
    have ha : a ≤ i := ha
    show ∃ υ, fX12_kinds_L29 _ _ _ τ (nI a) (nI i) = _ ∧ _
    unfold fX12_kinds_L29
    have k2 := h.se se
    by_cases hin : i = 128
    · refine ⟨τ, ?_, se⟩
      have e1 : (List.range 128).drop i = [] := List.drop_of_length_le (by rw [List.length_range]; omega)
      rw [e1]
      simp (disch := omega) only [l0, l1, l2, l3, l4, l5, l6, l7, l8, l9, l10, l11, l12, l16, l18, l19, l20, l21, l24, l96, l128, l100, l144, l200, l256, l288, l1536, l1728, l1800, bnd, nI_add, pk_mul, pI_sub, pI_m1, pT_le, pF_le, pT_lt, pF_lt, pT_eq, pF_eq, pF_m1, mF_eq, mT_eq, mT_lt, mF_le, lm1, rd_nI, wr_nI, cl_nI, pk_us, un_ne, pk_uLs, uL_ne, zI_uI, zI_uJ, zI_uA, zI_uB, zI_uR, zI_uN, zJ_uI, zJ_uJ, zJ_uA, zJ_uB, zJ_uR, zJ_uN, zA_uI, zA_uJ, zA_uA, zA_uB, zA_uR, zA_uN, zB_uI, zB_uJ, zB_uA, zB_uB, zB_uR, zB_uN, zR_uI, zR_uJ, zR_uA, zR_uB, zR_uR, zR_uN, zN_uI, zN_uJ, zN_uA, zN_uB, zN_uR, zN_uN, zI_ne, zJ_ne, zA_ne, zB_ne, zR_ne, zN_ne, bi_T, bi_F, nz16, ↓reduceIte, not_true_eq_false, not_false_eq_true, Bool.false_eq_true, reduceCtorEq]
      rfl
    · have hof := m_isOf (t := t) (s := i) hg k2.2.2.1 (by omega) (by omega)
      rw [hal, Bool.true_and] at hof
      rw [rng_drop (by omega), List.countP_cons]
      cases hv : vd g i with
      | false =>
        rw [hv] at hof
        obtain ⟨υ, e, se2⟩ := hkb (τ, a) (by omega) ⟨se, by show a ≤ i + 1; omega⟩
        refine ⟨υ, ?_, se2⟩
        simp (disch := omega) only [l0, l1, l2, l3, l4, l5, l6, l7, l8, l9, l10, l11, l12, l16, l18, l19, l20, l21, l24, l96, l128, l100, l144, l200, l256, l288, l1536, l1728, l1800, bnd, nI_add, pk_mul, pI_sub, pI_m1, pT_le, pF_le, pT_lt, pF_lt, pT_eq, pF_eq, pF_m1, mF_eq, mT_eq, mT_lt, mF_le, lm1, rd_nI, wr_nI, cl_nI, pk_us, un_ne, pk_uLs, uL_ne, zI_uI, zI_uJ, zI_uA, zI_uB, zI_uR, zI_uN, zJ_uI, zJ_uJ, zJ_uA, zJ_uB, zJ_uR, zJ_uN, zA_uI, zA_uJ, zA_uA, zA_uB, zA_uR, zA_uN, zB_uI, zB_uJ, zB_uA, zB_uB, zB_uR, zB_uN, zR_uI, zR_uJ, zR_uA, zR_uB, zR_uR, zR_uN, zN_uI, zN_uJ, zN_uA, zN_uB, zN_uR, zN_uN, zI_ne, zJ_ne, zA_ne, zB_ne, zR_ne, zN_ne, bi_T, bi_F, nz16, ↓reduceIte, not_true_eq_false, not_false_eq_true, Bool.false_eq_true, reduceCtorEq, hof, Bool.false_and]
        exact e
      | true =>
        rw [hv] at hof
        cases h1 : t.testBit (i / 16) with
        | false =>
          rw [h1] at hof
          obtain ⟨υ, e, se2⟩ := hkb (τ, a) (by omega) ⟨se, by show a ≤ i + 1; omega⟩
          refine ⟨υ, ?_, se2⟩
          simp (disch := omega) only [l0, l1, l2, l3, l4, l5, l6, l7, l8, l9, l10, l11, l12, l16, l18, l19, l20, l21, l24, l96, l128, l100, l144, l200, l256, l288, l1536, l1728, l1800, bnd, nI_add, pk_mul, pI_sub, pI_m1, pT_le, pF_le, pT_lt, pF_lt, pT_eq, pF_eq, pF_m1, mF_eq, mT_eq, mT_lt, mF_le, lm1, rd_nI, wr_nI, cl_nI, pk_us, un_ne, pk_uLs, uL_ne, zI_uI, zI_uJ, zI_uA, zI_uB, zI_uR, zI_uN, zJ_uI, zJ_uJ, zJ_uA, zJ_uB, zJ_uR, zJ_uN, zA_uI, zA_uJ, zA_uA, zA_uB, zA_uR, zA_uN, zB_uI, zB_uJ, zB_uA, zB_uB, zB_uR, zB_uN, zR_uI, zR_uJ, zR_uA, zR_uB, zR_uR, zR_uN, zN_uI, zN_uJ, zN_uA, zN_uB, zN_uR, zN_uN, zI_ne, zJ_ne, zA_ne, zB_ne, zR_ne, zN_ne, bi_T, bi_F, nz16, ↓reduceIte, not_true_eq_false, not_false_eq_true, Bool.false_eq_true, reduceCtorEq, hof, Bool.false_and, Bool.true_and]
          exact e
        | true =>
          rw [h1] at hof
          obtain ⟨υ, d1, d2⟩ := m_kindOf hg k2.2.2.1 hv ht (show lim < 100 by omega) k2.2.2.2.2.2
          have hkd := kd_le g lim t i
          by_cases h2 : kd g lim t i = k
          · obtain ⟨w, e, se2⟩ := hkb (υ, a + 1) (by omega) ⟨se.tr d2, by show a + 1 ≤ i + 1; omega⟩
            refine ⟨w, ?_, se2⟩
            rw [h2] at d1
            simp (disch := omega) only [l0, l1, l2, l3, l4, l5, l6, l7, l8, l9, l10, l11, l12, l16, l18, l19, l20, l21, l24, l96, l128, l100, l144, l200, l256, l288, l1536, l1728, l1800, bnd, nI_add, pk_mul, pI_sub, pI_m1, pT_le, pF_le, pT_lt, pF_lt, pT_eq, pF_eq, pF_m1, mF_eq, mT_eq, mT_lt, mF_le, lm1, rd_nI, wr_nI, cl_nI, pk_us, un_ne, pk_uLs, uL_ne, zI_uI, zI_uJ, zI_uA, zI_uB, zI_uR, zI_uN, zJ_uI, zJ_uJ, zJ_uA, zJ_uB, zJ_uR, zJ_uN, zA_uI, zA_uJ, zA_uA, zA_uB, zA_uR, zA_uN, zB_uI, zB_uJ, zB_uA, zB_uB, zB_uR, zB_uN, zR_uI, zR_uJ, zR_uA, zR_uB, zR_uR, zR_uN, zN_uI, zN_uJ, zN_uA, zN_uB, zN_uR, zN_uN, zI_ne, zJ_ne, zA_ne, zB_ne, zR_ne, zN_ne, bi_T, bi_F, nz16, ↓reduceIte, not_true_eq_false, not_false_eq_true, Bool.false_eq_true, reduceCtorEq, hof, d1, Bool.true_and, decide_eq_true h2]
            rw [e]
            congr 3
            show a + 1 + _ = a + (_ + 1)
            omega
          · obtain ⟨w, e, se2⟩ := hkb (υ, a) (by omega) ⟨se.tr d2, by show a ≤ i + 1; omega⟩
            refine ⟨w, ?_, se2⟩
            simp (disch := omega) only [l0, l1, l2, l3, l4, l5, l6, l7, l8, l9, l10, l11, l12, l16, l18, l19, l20, l21, l24, l96, l128, l100, l144, l200, l256, l288, l1536, l1728, l1800, bnd, nI_add, pk_mul, pI_sub, pI_m1, pT_le, pF_le, pT_lt, pF_lt, pT_eq, pF_eq, pF_m1, mF_eq, mT_eq, mT_lt, mF_le, lm1, rd_nI, wr_nI, cl_nI, pk_us, un_ne, pk_uLs, uL_ne, zI_uI, zI_uJ, zI_uA, zI_uB, zI_uR, zI_uN, zJ_uI, zJ_uJ, zJ_uA, zJ_uB, zJ_uR, zJ_uN, zA_uI, zA_uJ, zA_uA, zA_uB, zA_uR, zA_uN, zB_uI, zB_uJ, zB_uA, zB_uB, zB_uR, zB_uN, zR_uI, zR_uJ, zR_uA, zR_uB, zR_uR, zR_uN, zN_uI, zN_uJ, zN_uA, zN_uB, zN_uR, zN_uN, zI_ne, zJ_ne, zA_ne, zB_ne, zR_ne, zN_ne, bi_T, bi_F, nz16, ↓reduceIte, not_true_eq_false, not_false_eq_true, Bool.false_eq_true, reduceCtorEq, hof, d1, Bool.true_and, decide_eq_false h2]
            exact e
theorem m_isIn {a b c : Nat} (ha : a < 2147483648) (hb : b < 2147483648) (hc : c < 2147483648) : fX12_isIn (nI a) (nI b) (nI c) = some (decide (b ≤ a ∧ a ≤ c)) := by
  unfold fX12_isIn
  by_cases h1 : b ≤ a
  · by_cases h2 : a ≤ c
    · rw [decide_eq_true ⟨h1, h2⟩]
      simp (disch := omega) only [l0, l1, l2, l3, l4, l5, l6, l7, l8, l9, l10, l11, l12, l16, l18, l19, l20, l21, l24, l96, l128, l100, l144, l200, l256, l288, l1536, l1728, l1800, bnd, nI_add, pk_mul, pI_sub, pI_m1, pT_le, pF_le, pT_lt, pF_lt, pT_eq, pF_eq, pF_m1, mF_eq, mT_eq, mT_lt, mF_le, lm1, rd_nI, wr_nI, cl_nI, pk_us, un_ne, pk_uLs, uL_ne, zI_uI, zI_uJ, zI_uA, zI_uB, zI_uR, zI_uN, zJ_uI, zJ_uJ, zJ_uA, zJ_uB, zJ_uR, zJ_uN, zA_uI, zA_uJ, zA_uA, zA_uB, zA_uR, zA_uN, zB_uI, zB_uJ, zB_uA, zB_uB, zB_uR, zB_uN, zR_uI, zR_uJ, zR_uA, zR_uB, zR_uR, zR_uN, zN_uI, zN_uJ, zN_uA, zN_uB, zN_uR, zN_uN, zI_ne, zJ_ne, zA_ne, zB_ne, zR_ne, zN_ne, bi_T, bi_F, nz16, ↓reduceIte, not_true_eq_false, not_false_eq_true, Bool.false_eq_true, reduceCtorEq]
    · rw [decide_eq_false (fun x => h2 x.2)]
      simp (disch := omega) only [l0, l1, l2, l3, l4, l5, l6, l7, l8, l9, l10, l11, l12, l16, l18, l19, l20, l21, l24, l96, l128, l100, l144, l200, l256, l288, l1536, l1728, l1800, bnd, nI_add, pk_mul, pI_sub, pI_m1, pT_le, pF_le, pT_lt, pF_lt, pT_eq, pF_eq, pF_m1, mF_eq, mT_eq, mT_lt, mF_le, lm1, rd_nI, wr_nI, cl_nI, pk_us, un_ne, pk_uLs, uL_ne, zI_uI, zI_uJ, zI_uA, zI_uB, zI_uR, zI_uN, zJ_uI, zJ_uJ, zJ_uA, zJ_uB, zJ_uR, zJ_uN, zA_uI, zA_uJ, zA_uA, zA_uB, zA_uR, zA_uN, zB_uI, zB_uJ, zB_uA, zB_uB, zB_uR, zB_uN, zR_uI, zR_uJ, zR_uA, zR_uB, zR_uR, zR_uN, zN_uI, zN_uJ, zN_uA, zN_uB, zN_uR, zN_uN, zI_ne, zJ_ne, zA_ne, zB_ne, zR_ne, zN_ne, bi_T, bi_F, nz16, ↓reduceIte, not_true_eq_false, not_false_eq_true, Bool.false_eq_true, reduceCtorEq]
  · rw [decide_eq_false (fun x => h1 x.1)]
    simp (disch := omega) only [l0, l1, l2, l3, l4, l5, l6, l7, l8, l9, l10, l11, l12, l16, l18, l19, l20, l21, l24, l96, l128, l100, l144, l200, l256, l288, l1536, l1728, l1800, bnd, nI_add, pk_mul, pI_sub, pI_m1, pT_le, pF_le, pT_lt, pF_lt, pT_eq, pF_eq, pF_m1, mF_eq, mT_eq, mT_lt, mF_le, lm1, rd_nI, wr_nI, cl_nI, pk_us, un_ne, pk_uLs, uL_ne, zI_uI, zI_uJ, zI_uA, zI_uB, zI_uR, zI_uN, zJ_uI, zJ_uJ, zJ_uA, zJ_uB, zJ_uR, zJ_uN, zA_uI, zA_uJ, zA_uA, zA_uB, zA_uR, zA_uN, zB_uI, zB_uJ, zB_uA, zB_uB, zB_uR, zB_uN, zR_uI, zR_uJ, zR_uA, zR_uB, zR_uR, zR_uN, zN_uI, zN_uJ, zN_uA, zN_uB, zN_uR, zN_uN, zI_ne, zJ_ne, zA_ne, zB_ne, zR_ne, zN_ne, bi_T, bi_F, nz16, ↓reduceIte, not_true_eq_false, not_false_eq_true, Bool.false_eq_true, reduceCtorEq]
theorem m_isInN {p q : Int32} (h : p < 0) : fX12_isIn p (nI 0) q = some false := by
  unfold fX12_isIn
  exact if_pos (show p < nI 0 from h)
theorem t_kinds {σ : St} {g : Gh} {lim : Nat} (h : RI σ g lim) (p q : Int32) : B2 σ (fX11_kinds σ p q) (fun τ => fX12_kinds τ p q) := by
  have s3 := se30 σ (nI 0)
  rcases all2 h p with ⟨t, ha, ht, rfl, f⟩ | f
  · have f1 := (f σ (SE.rf σ)).1
    have f2 := (f _ s3).2
    rcases i32_of q with hq | ⟨k, hk, rfl⟩
    · have hq' : (q < nI 0) = True := eq_true hq
      refine B2.no mI ?_ ?_
      · unfold fX11_kinds
        simp (disch := omega) only [l0, l1, l2, l3, l4, l5, l6, l7, l8, l9, l10, l11, l12, l16, l18, l19, l20, l21, l24, l96, l128, l100, l144, l200, l256, l288, l1536, l1728, l1800, bnd, nI_add, pk_mul, pI_sub, pI_m1, pT_le, pF_le, pT_lt, pF_lt, pT_eq, pF_eq, pF_m1, mF_eq, mT_eq, mT_lt, mF_le, lm1, rd_nI, wr_nI, cl_nI, pk_us, un_ne, pk_uLs, uL_ne, zI_uI, zI_uJ, zI_uA, zI_uB, zI_uR, zI_uN, zJ_uI, zJ_uJ, zJ_uA, zJ_uB, zJ_uR, zJ_uN, zA_uI, zA_uJ, zA_uA, zA_uB, zA_uR, zA_uN, zB_uI, zB_uJ, zB_uA, zB_uB, zB_uR, zB_uN, zR_uI, zR_uJ, zR_uA, zR_uB, zR_uR, zR_uN, zN_uI, zN_uJ, zN_uA, zN_uB, zN_uR, zN_uN, zI_ne, zJ_ne, zA_ne, zB_ne, zR_ne, zN_ne, bi_T, bi_F, nz16, ↓reduceIte, not_true_eq_false, not_false_eq_true, Bool.false_eq_true, reduceCtorEq, f1, hq']
      · unfold fX12_kinds
        simp (disch := omega) only [l0, l1, l2, l3, l4, l5, l6, l7, l8, l9, l10, l11, l12, l16, l18, l19, l20, l21, l24, l96, l128, l100, l144, l200, l256, l288, l1536, l1728, l1800, bnd, nI_add, pk_mul, pI_sub, pI_m1, pT_le, pF_le, pT_lt, pF_lt, pT_eq, pF_eq, pF_m1, mF_eq, mT_eq, mT_lt, mF_le, lm1, rd_nI, wr_nI, cl_nI, pk_us, un_ne, pk_uLs, uL_ne, zI_uI, zI_uJ, zI_uA, zI_uB, zI_uR, zI_uN, zJ_uI, zJ_uJ, zJ_uA, zJ_uB, zJ_uR, zJ_uN, zA_uI, zA_uJ, zA_uA, zA_uB, zA_uR, zA_uN, zB_uI, zB_uJ, zB_uA, zB_uB, zB_uR, zB_uN, zR_uI, zR_uJ, zR_uA, zR_uB, zR_uR, zR_uN, zN_uI, zN_uJ, zN_uA, zN_uB, zN_uR, zN_uN, zI_ne, zJ_ne, zA_ne, zB_ne, zR_ne, zN_ne, bi_T, bi_F, nz16, ↓reduceIte, not_true_eq_false, not_false_eq_true, Bool.false_eq_true, reduceCtorEq, f2, m_isInN hq]
    · by_cases h5 : k ≤ 5
      · obtain ⟨τ, d1, d2⟩ := c_kinds h ht h5
        have k2 := h.se (d2.tr (se30 τ (nI 0)))
        have f3 := (f _ (d2.tr (se30 τ (nI 0)))).2
        obtain ⟨υ, d3, d4⟩ := m_kinds k2 ha h5
        refine ⟨nI (kn g lim t k), τ, υ, ?_, d2, ?_, (se30 τ _).tr d4⟩
        · unfold fX11_kinds
          simp (disch := omega) only [l0, l1, l2, l3, l4, l5, l6, l7, l8, l9, l10, l11, l12, l16, l18, l19, l20, l21, l24, l96, l128, l100, l144, l200, l256, l288, l1536, l1728, l1800, bnd, nI_add, pk_mul, pI_sub, pI_m1, pT_le, pF_le, pT_lt, pF_lt, pT_eq, pF_eq, pF_m1, mF_eq, mT_eq, mT_lt, mF_le, lm1, rd_nI, wr_nI, cl_nI, pk_us, un_ne, pk_uLs, uL_ne, zI_uI, zI_uJ, zI_uA, zI_uB, zI_uR, zI_uN, zJ_uI, zJ_uJ, zJ_uA, zJ_uB, zJ_uR, zJ_uN, zA_uI, zA_uJ, zA_uA, zA_uB, zA_uR, zA_uN, zB_uI, zB_uJ, zB_uA, zB_uB, zB_uR, zB_uN, zR_uI, zR_uJ, zR_uA, zR_uB, zR_uR, zR_uN, zN_uI, zN_uJ, zN_uA, zN_uB, zN_uR, zN_uN, zI_ne, zJ_ne, zA_ne, zB_ne, zR_ne, zN_ne, bi_T, bi_F, nz16, ↓reduceIte, not_true_eq_false, not_false_eq_true, Bool.false_eq_true, reduceCtorEq, f1, d1]
        · show fX12_kinds τ (nI t) (nI k) = _
          unfold fX12_kinds
          have hin := m_isIn (a := k) (b := 0) (c := 5) (by omega) (by omega) (by omega)
          rw [decide_eq_true ⟨by omega, h5⟩] at hin
          simp (disch := omega) only [l0, l1, l2, l3, l4, l5, l6, l7, l8, l9, l10, l11, l12, l16, l18, l19, l20, l21, l24, l96, l128, l100, l144, l200, l256, l288, l1536, l1728, l1800, bnd, nI_add, pk_mul, pI_sub, pI_m1, pT_le, pF_le, pT_lt, pF_lt, pT_eq, pF_eq, pF_m1, mF_eq, mT_eq, mT_lt, mF_le, lm1, rd_nI, wr_nI, cl_nI, pk_us, un_ne, pk_uLs, uL_ne, zI_uI, zI_uJ, zI_uA, zI_uB, zI_uR, zI_uN, zJ_uI, zJ_uJ, zJ_uA, zJ_uB, zJ_uR, zJ_uN, zA_uI, zA_uJ, zA_uA, zA_uB, zA_uR, zA_uN, zB_uI, zB_uJ, zB_uA, zB_uB, zB_uR, zB_uN, zR_uI, zR_uJ, zR_uA, zR_uB, zR_uR, zR_uN, zN_uI, zN_uJ, zN_uA, zN_uB, zN_uR, zN_uN, zI_ne, zJ_ne, zA_ne, zB_ne, zR_ne, zN_ne, bi_T, bi_F, nz16, ↓reduceIte, not_true_eq_false, not_false_eq_true, Bool.false_eq_true, reduceCtorEq, f3, hin]
          exact d3
      · refine B2.no mI ?_ ?_
        · unfold fX11_kinds
          simp (disch := omega) only [l0, l1, l2, l3, l4, l5, l6, l7, l8, l9, l10, l11, l12, l16, l18, l19, l20, l21, l24, l96, l128, l100, l144, l200, l256, l288, l1536, l1728, l1800, bnd, nI_add, pk_mul, pI_sub, pI_m1, pT_le, pF_le, pT_lt, pF_lt, pT_eq, pF_eq, pF_m1, mF_eq, mT_eq, mT_lt, mF_le, lm1, rd_nI, wr_nI, cl_nI, pk_us, un_ne, pk_uLs, uL_ne, zI_uI, zI_uJ, zI_uA, zI_uB, zI_uR, zI_uN, zJ_uI, zJ_uJ, zJ_uA, zJ_uB, zJ_uR, zJ_uN, zA_uI, zA_uJ, zA_uA, zA_uB, zA_uR, zA_uN, zB_uI, zB_uJ, zB_uA, zB_uB, zB_uR, zB_uN, zR_uI, zR_uJ, zR_uA, zR_uB, zR_uR, zR_uN, zN_uI, zN_uJ, zN_uA, zN_uB, zN_uR, zN_uN, zI_ne, zJ_ne, zA_ne, zB_ne, zR_ne, zN_ne, bi_T, bi_F, nz16, ↓reduceIte, not_true_eq_false, not_false_eq_true, Bool.false_eq_true, reduceCtorEq, f1]
        · unfold fX12_kinds
          have hin := m_isIn (a := k) (b := 0) (c := 5) (by omega) (by omega) (by omega)
          rw [decide_eq_false (fun x => h5 x.2)] at hin
          simp (disch := omega) only [l0, l1, l2, l3, l4, l5, l6, l7, l8, l9, l10, l11, l12, l16, l18, l19, l20, l21, l24, l96, l128, l100, l144, l200, l256, l288, l1536, l1728, l1800, bnd, nI_add, pk_mul, pI_sub, pI_m1, pT_le, pF_le, pT_lt, pF_lt, pT_eq, pF_eq, pF_m1, mF_eq, mT_eq, mT_lt, mF_le, lm1, rd_nI, wr_nI, cl_nI, pk_us, un_ne, pk_uLs, uL_ne, zI_uI, zI_uJ, zI_uA, zI_uB, zI_uR, zI_uN, zJ_uI, zJ_uJ, zJ_uA, zJ_uB, zJ_uR, zJ_uN, zA_uI, zA_uJ, zA_uA, zA_uB, zA_uR, zA_uN, zB_uI, zB_uJ, zB_uA, zB_uB, zB_uR, zB_uN, zR_uI, zR_uJ, zR_uA, zR_uB, zR_uR, zR_uN, zN_uI, zN_uJ, zN_uA, zN_uB, zN_uR, zN_uN, zI_ne, zJ_ne, zA_ne, zB_ne, zR_ne, zN_ne, bi_T, bi_F, nz16, ↓reduceIte, not_true_eq_false, not_false_eq_true, Bool.false_eq_true, reduceCtorEq, f2, hin]
  · have f1 := (f σ (SE.rf σ)).1
    have f2 := (f _ s3).2
    refine B2.no mI ?_ ?_
    · unfold fX11_kinds
      simp (disch := omega) only [l0, l1, l2, l3, l4, l5, l6, l7, l8, l9, l10, l11, l12, l16, l18, l19, l20, l21, l24, l96, l128, l100, l144, l200, l256, l288, l1536, l1728, l1800, bnd, nI_add, pk_mul, pI_sub, pI_m1, pT_le, pF_le, pT_lt, pF_lt, pT_eq, pF_eq, pF_m1, mF_eq, mT_eq, mT_lt, mF_le, lm1, rd_nI, wr_nI, cl_nI, pk_us, un_ne, pk_uLs, uL_ne, zI_uI, zI_uJ, zI_uA, zI_uB, zI_uR, zI_uN, zJ_uI, zJ_uJ, zJ_uA, zJ_uB, zJ_uR, zJ_uN, zA_uI, zA_uJ, zA_uA, zA_uB, zA_uR, zA_uN, zB_uI, zB_uJ, zB_uA, zB_uB, zB_uR, zB_uN, zR_uI, zR_uJ, zR_uA, zR_uB, zR_uR, zR_uN, zN_uI, zN_uJ, zN_uA, zN_uB, zN_uR, zN_uN, zI_ne, zJ_ne, zA_ne, zB_ne, zR_ne, zN_ne, bi_T, bi_F, nz16, ↓reduceIte, not_true_eq_false, not_false_eq_true, Bool.false_eq_true, reduceCtorEq, f1]
    · unfold fX12_kinds
      simp (disch := omega) only [l0, l1, l2, l3, l4, l5, l6, l7, l8, l9, l10, l11, l12, l16, l18, l19, l20, l21, l24, l96, l128, l100, l144, l200, l256, l288, l1536, l1728, l1800, bnd, nI_add, pk_mul, pI_sub, pI_m1, pT_le, pF_le, pT_lt, pF_lt, pT_eq, pF_eq, pF_m1, mF_eq, mT_eq, mT_lt, mF_le, lm1, rd_nI, wr_nI, cl_nI, pk_us, un_ne, pk_uLs, uL_ne, zI_uI, zI_uJ, zI_uA, zI_uB, zI_uR, zI_uN, zJ_uI, zJ_uJ, zJ_uA, zJ_uB, zJ_uR, zJ_uN, zA_uI, zA_uJ, zA_uA, zA_uB, zA_uR, zA_uN, zB_uI, zB_uJ, zB_uA, zB_uB, zB_uR, zB_uN, zR_uI, zR_uJ, zR_uA, zR_uB, zR_uR, zR_uN, zN_uI, zN_uJ, zN_uA, zN_uB, zN_uR, zN_uN, zI_ne, zJ_ne, zA_ne, zB_ne, zR_ne, zN_ne, bi_T, bi_F, nz16, ↓reduceIte, not_true_eq_false, not_false_eq_true, Bool.false_eq_true, reduceCtorEq, f2]
