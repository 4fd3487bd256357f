/-! orders: the model's isSmall, least, orders -/
abbrev sm (g : Gh) (S : Nat) : Prop := rx (zs g S) 8 ≤ 20000 ∧ oA (zs g S) 8 ≤ 20
theorem al_in {g : Gh} {t : Nat} (hg : okG g) (h : al g t = true) : inG g t ∧ t ≠ 0 := by
  have h1 := of_decide_eq_true h
  have h2 := al_lt hg h
  refine ⟨⟨h2, fun r _ hb => ?_⟩, by omega⟩
  apply Decidable.byContradiction
  intro hr
  have h3 := Nat.testBit_lt_two_pow (x := t) (i := r) (Nat.lt_of_lt_of_le h1.2 (Nat.pow_le_pow_right (n := 2) (by decide) (show gN g ≤ r by omega)))
  rw [h3] at hb
  cases hb
theorem se47 (σ : St) (v : Int32) : SE σ (uI σ 47 v) := SE.uI (by decide)
/-- a set of rolls that the model calls small, and one that it doesn't -/
theorem m_isSmall {σ : St} {g : Gh} {S : Nat} (hg : okG g) (hj : JM σ g) (hS : al g S = true) : ∃ υ, fX12_isSmall σ (nI S) = some (decide (sm g S), υ) ∧ SE σ υ ∧ (sm g S → JS υ g S) := by
  have hin := al_in hg hS
  have h2 := al_lt hg hS
  have hal := m_all hg hj (t := S) (by omega)
  rw [hS] at hal
  obtain ⟨f, h3, h4⟩ := m_isSmall_P (σ := uI σ 47 (nI S)) hg (hj.se (se47 σ _)) hin.1 (by rw [zI_uI])
  by_cases hs : sm g S
  · have hs' : rx (zs g S) 8 ≤ 20000 ∧ oA (zs g S) 8 ≤ 20 := hs
    rw [if_pos hs', decide_eq_true hs'] at h4
    refine ⟨uI (uA (uI σ 47 (nI S)) 73 f) 46 (nI (rx (zs g S) 8)), ?_, SE.tr (se47 σ _) (SE.tr (SE.uA (by decide)) (SE.uI (by decide))), fun _ => ?_⟩
    rotate_left 1
    · refine ⟨hj.se (SE.tr (se47 σ _) (SE.tr (SE.uA (by decide)) (SE.uI (by decide)))), hin.1, ?_, ?_, ?_, hs'⟩
      · simp (disch := omega) only [l0, l1, l2, l3, l4, l5, l6, l7, l8, l9, l10, l11, l12, l16, l18, l19, l20, l21, l24, l96, l128, l100, l144, l200, l256, l288, l1536, l1728, l1800, bnd, nI_add, pk_mul, pI_sub, pI_m1, pT_le, pF_le, pT_lt, pF_lt, pT_eq, pF_eq, pF_m1, mF_eq, mT_eq, mT_lt, mF_le, lm1, rd_nI, wr_nI, cl_nI, pk_us, un_ne, pk_uLs, uL_ne, zI_uI, zI_uJ, zI_uA, zI_uB, zI_uR, zI_uN, zJ_uI, zJ_uJ, zJ_uA, zJ_uB, zJ_uR, zJ_uN, zA_uI, zA_uJ, zA_uA, zA_uB, zA_uR, zA_uN, zB_uI, zB_uJ, zB_uA, zB_uB, zB_uR, zB_uN, zR_uI, zR_uJ, zR_uA, zR_uB, zR_uR, zR_uN, zN_uI, zN_uJ, zN_uA, zN_uB, zN_uR, zN_uN, zI_ne, zJ_ne, zA_ne, zB_ne, zR_ne, zN_ne, bi_T, bi_F, nz16, ↓reduceIte, not_true_eq_false, not_false_eq_true, Bool.false_eq_true, reduceCtorEq]
      · simp (disch := omega) only [l0, l1, l2, l3, l4, l5, l6, l7, l8, l9, l10, l11, l12, l16, l18, l19, l20, l21, l24, l96, l128, l100, l144, l200, l256, l288, l1536, l1728, l1800, bnd, nI_add, pk_mul, pI_sub, pI_m1, pT_le, pF_le, pT_lt, pF_lt, pT_eq, pF_eq, pF_m1, mF_eq, mT_eq, mT_lt, mF_le, lm1, rd_nI, wr_nI, cl_nI, pk_us, un_ne, pk_uLs, uL_ne, zI_uI, zI_uJ, zI_uA, zI_uB, zI_uR, zI_uN, zJ_uI, zJ_uJ, zJ_uA, zJ_uB, zJ_uR, zJ_uN, zA_uI, zA_uJ, zA_uA, zA_uB, zA_uR, zA_uN, zB_uI, zB_uJ, zB_uA, zB_uB, zB_uR, zB_uN, zR_uI, zR_uJ, zR_uA, zR_uB, zR_uR, zR_uN, zN_uI, zN_uJ, zN_uA, zN_uB, zN_uR, zN_uN, zI_ne, zJ_ne, zA_ne, zB_ne, zR_ne, zN_ne, bi_T, bi_F, nz16, ↓reduceIte, not_true_eq_false, not_false_eq_true, Bool.false_eq_true, reduceCtorEq]
      · simp (disch := omega) only [l0, l1, l2, l3, l4, l5, l6, l7, l8, l9, l10, l11, l12, l16, l18, l19, l20, l21, l24, l96, l128, l100, l144, l200, l256, l288, l1536, l1728, l1800, bnd, nI_add, pk_mul, pI_sub, pI_m1, pT_le, pF_le, pT_lt, pF_lt, pT_eq, pF_eq, pF_m1, mF_eq, mT_eq, mT_lt, mF_le, lm1, rd_nI, wr_nI, cl_nI, pk_us, un_ne, pk_uLs, uL_ne, zI_uI, zI_uJ, zI_uA, zI_uB, zI_uR, zI_uN, zJ_uI, zJ_uJ, zJ_uA, zJ_uB, zJ_uR, zJ_uN, zA_uI, zA_uJ, zA_uA, zA_uB, zA_uR, zA_uN, zB_uI, zB_uJ, zB_uA, zB_uB, zB_uR, zB_uN, zR_uI, zR_uJ, zR_uA, zR_uB, zR_uR, zR_uN, zN_uI, zN_uJ, zN_uA, zN_uB, zN_uR, zN_uN, zI_ne, zJ_ne, zA_ne, zB_ne, zR_ne, zN_ne, bi_T, bi_F, nz16, ↓reduceIte, not_true_eq_false, not_false_eq_true, Bool.false_eq_true, reduceCtorEq]
        exact fun j hj => h3 j hj hs'
    · rw [decide_eq_true hs]
      have hne := hin.2
      unfold fX12_isSmall
      simp (disch := omega) only [l0, l1, l2, l3, l4, l5, l6, l7, l8, l9, l10, l11, l12, l16, l18, l19, l20, l21, l24, l96, l128, l100, l144, l200, l256, l288, l1536, l1728, l1800, bnd, nI_add, pk_mul, pI_sub, pI_m1, pT_le, pF_le, pT_lt, pF_lt, pT_eq, pF_eq, pF_m1, mF_eq, mT_eq, mT_lt, mF_le, lm1, rd_nI, wr_nI, cl_nI, pk_us, un_ne, pk_uLs, uL_ne, zI_uI, zI_uJ, zI_uA, zI_uB, zI_uR, zI_uN, zJ_uI, zJ_uJ, zJ_uA, zJ_uB, zJ_uR, zJ_uN, zA_uI, zA_uJ, zA_uA, zA_uB, zA_uR, zA_uN, zB_uI, zB_uJ, zB_uA, zB_uB, zB_uR, zB_uN, zR_uI, zR_uJ, zR_uA, zR_uB, zR_uR, zR_uN, zN_uI, zN_uJ, zN_uA, zN_uB, zN_uR, zN_uN, zI_ne, zJ_ne, zA_ne, zB_ne, zR_ne, zN_ne, bi_T, bi_F, nz16, ↓reduceIte, not_true_eq_false, not_false_eq_true, Bool.false_eq_true, reduceCtorEq, hal, h4]
  · have hs' : ¬ (rx (zs g S) 8 ≤ 20000 ∧ oA (zs g S) 8 ≤ 20) := hs
    rw [if_neg hs', decide_eq_false hs'] at h4
    refine ⟨uA (uI σ 47 (nI S)) 73 f, ?_, SE.tr (se47 σ _) (SE.uA (by decide)), fun x => absurd x hs⟩
    rw [decide_eq_false hs]
    have hne := hin.2
    unfold fX12_isSmall
    simp (disch := omega) only [l0, l1, l2, l3, l4, l5, l6, l7, l8, l9, l10, l11, l12, l16, l18, l19, l20, l21, l24, l96, l128, l100, l144, l200, l256, l288, l1536, l1728, l1800, bnd, nI_add, pk_mul, pI_sub, pI_m1, pT_le, pF_le, pT_lt, pF_lt, pT_eq, pF_eq, pF_m1, mF_eq, mT_eq, mT_lt, mF_le, lm1, rd_nI, wr_nI, cl_nI, pk_us, un_ne, pk_uLs, uL_ne, zI_uI, zI_uJ, zI_uA, zI_uB, zI_uR, zI_uN, zJ_uI, zJ_uJ, zJ_uA, zJ_uB, zJ_uR, zJ_uN, zA_uI, zA_uJ, zA_uA, zA_uB, zA_uR, zA_uN, zB_uI, zB_uJ, zB_uA, zB_uB, zB_uR, zB_uN, zR_uI, zR_uJ, zR_uA, zR_uB, zR_uR, zR_uN, zN_uI, zN_uJ, zN_uA, zN_uB, zN_uR, zN_uN, zI_ne, zJ_ne, zA_ne, zB_ne, zR_ne, zN_ne, bi_T, bi_F, nz16, ↓reduceIte, not_true_eq_false, not_false_eq_true, Bool.false_eq_true, reduceCtorEq, hal, h4]
theorem okE0 (z : Nat → Nat) : okE z 0 0 := .inl ⟨rfl, rfl⟩
theorem se7476 (σ : St) (f : Nat → Int32) (b : Nat → Int64) : SE σ (uB (uA σ 74 f) 76 b) := SE.tr (SE.uA (by decide)) (SE.uB (by decide))
theorem m_least {σ : St} {g : Gh} {S : Nat} (hg : okG g) (hj : JM σ g) (hS : al g S = true) : ∃ υ, fX12_least σ (nI S) = some (if sm g S then nI (xL g S 0 0).1 else mI, υ) ∧ SE σ υ := by
  obtain ⟨υ, h1, h2, h3⟩ := m_isSmall hg (hj.se (se30 σ (nI 0))) hS
  unfold fX12_least
  by_cases hs : sm g S
  · obtain ⟨f, b, h4, h5⟩ := m_layLeft (h3 hs) hg
    have h6 := (h4 0 0 (Nat.zero_le _) (rx_pos _ 8) (by omega) (okE0 _)).1
    refine ⟨uB (uA υ 74 f) 76 b, ?_, SE.tr (se30 σ _) (SE.tr h2 (se7476 _ _ _))⟩
    rw [decide_eq_true hs] at h1
    rw [if_pos hs]
    simp (disch := omega) only [l0, l1, l2, l3, l4, l5, l6, l7, l8, l9, l10, l11, l12, l16, l18, l19, l20, l21, l24, l96, l128, l100, l144, l200, l256, l288, l1536, l1728, l1800, bnd, nI_add, pk_mul, pI_sub, pI_m1, pT_le, pF_le, pT_lt, pF_lt, pT_eq, pF_eq, pF_m1, mF_eq, mT_eq, mT_lt, mF_le, lm1, rd_nI, wr_nI, cl_nI, pk_us, un_ne, pk_uLs, uL_ne, zI_uI, zI_uJ, zI_uA, zI_uB, zI_uR, zI_uN, zJ_uI, zJ_uJ, zJ_uA, zJ_uB, zJ_uR, zJ_uN, zA_uI, zA_uJ, zA_uA, zA_uB, zA_uR, zA_uN, zB_uI, zB_uJ, zB_uA, zB_uB, zB_uR, zB_uN, zR_uI, zR_uJ, zR_uA, zR_uB, zR_uR, zR_uN, zN_uI, zN_uJ, zN_uA, zN_uB, zN_uR, zN_uN, zI_ne, zJ_ne, zA_ne, zB_ne, zR_ne, zN_ne, bi_T, bi_F, nz16, ↓reduceIte, not_true_eq_false, not_false_eq_true, Bool.false_eq_true, reduceCtorEq, h1, h5]
    exact congrArg (fun x => some (x, _)) h6
  · refine ⟨υ, ?_, SE.tr (se30 σ _) h2⟩
    rw [decide_eq_false hs] at h1
    rw [if_neg hs]
    simp (disch := omega) only [l0, l1, l2, l3, l4, l5, l6, l7, l8, l9, l10, l11, l12, l16, l18, l19, l20, l21, l24, l96, l128, l100, l144, l200, l256, l288, l1536, l1728, l1800, bnd, nI_add, pk_mul, pI_sub, pI_m1, pT_le, pF_le, pT_lt, pF_lt, pT_eq, pF_eq, pF_m1, mF_eq, mT_eq, mT_lt, mF_le, lm1, rd_nI, wr_nI, cl_nI, pk_us, un_ne, pk_uLs, uL_ne, zI_uI, zI_uJ, zI_uA, zI_uB, zI_uR, zI_uN, zJ_uI, zJ_uJ, zJ_uA, zJ_uB, zJ_uR, zJ_uN, zA_uI, zA_uJ, zA_uA, zA_uB, zA_uR, zA_uN, zB_uI, zB_uJ, zB_uA, zB_uB, zB_uR, zB_uN, zR_uI, zR_uJ, zR_uA, zR_uB, zR_uR, zR_uN, zN_uI, zN_uJ, zN_uA, zN_uB, zN_uR, zN_uN, zI_ne, zJ_ne, zA_ne, zB_ne, zR_ne, zN_ne, bi_T, bi_F, nz16, ↓reduceIte, not_true_eq_false, not_false_eq_true, Bool.false_eq_true, reduceCtorEq, h1]
theorem m_orders {σ : St} {g : Gh} {S : Nat} (hg : okG g) (hj : JM σ g) (hS : al g S = true) : ∃ υ, fX12_orders σ (nI S) = some (if sm g S then lN (xL g S 0 0).2 else -1, υ) ∧ SE σ υ := by
  obtain ⟨υ, h1, h2, h3⟩ := m_isSmall hg (hj.se (se30 σ (nI 0))) hS
  unfold fX12_orders
  by_cases hs : sm g S
  · obtain ⟨f, b, h4, h5⟩ := m_layLeft (h3 hs) hg
    have h6 := (h4 0 0 (Nat.zero_le _) (rx_pos _ 8) (by omega) (okE0 _)).2
    refine ⟨uB (uA υ 74 f) 76 b, ?_, SE.tr (se30 σ _) (SE.tr h2 (se7476 _ _ _))⟩
    rw [decide_eq_true hs] at h1
    rw [if_pos hs]
    simp (disch := omega) only [l0, l1, l2, l3, l4, l5, l6, l7, l8, l9, l10, l11, l12, l16, l18, l19, l20, l21, l24, l96, l128, l100, l144, l200, l256, l288, l1536, l1728, l1800, bnd, nI_add, pk_mul, pI_sub, pI_m1, pT_le, pF_le, pT_lt, pF_lt, pT_eq, pF_eq, pF_m1, mF_eq, mT_eq, mT_lt, mF_le, lm1, rd_nI, wr_nI, cl_nI, pk_us, un_ne, pk_uLs, uL_ne, zI_uI, zI_uJ, zI_uA, zI_uB, zI_uR, zI_uN, zJ_uI, zJ_uJ, zJ_uA, zJ_uB, zJ_uR, zJ_uN, zA_uI, zA_uJ, zA_uA, zA_uB, zA_uR, zA_uN, zB_uI, zB_uJ, zB_uA, zB_uB, zB_uR, zB_uN, zR_uI, zR_uJ, zR_uA, zR_uB, zR_uR, zR_uN, zN_uI, zN_uJ, zN_uA, zN_uB, zN_uR, zN_uN, zI_ne, zJ_ne, zA_ne, zB_ne, zR_ne, zN_ne, bi_T, bi_F, nz16, ↓reduceIte, not_true_eq_false, not_false_eq_true, Bool.false_eq_true, reduceCtorEq, h1, h5]
    exact congrArg (fun x => some (x, _)) h6
  · refine ⟨υ, ?_, SE.tr (se30 σ _) h2⟩
    rw [decide_eq_false hs] at h1
    rw [if_neg hs]
    simp (disch := omega) only [l0, l1, l2, l3, l4, l5, l6, l7, l8, l9, l10, l11, l12, l16, l18, l19, l20, l21, l24, l96, l128, l100, l144, l200, l256, l288, l1536, l1728, l1800, bnd, nI_add, pk_mul, pI_sub, pI_m1, pT_le, pF_le, pT_lt, pF_lt, pT_eq, pF_eq, pF_m1, mF_eq, mT_eq, mT_lt, mF_le, lm1, rd_nI, wr_nI, cl_nI, pk_us, un_ne, pk_uLs, uL_ne, zI_uI, zI_uJ, zI_uA, zI_uB, zI_uR, zI_uN, zJ_uI, zJ_uJ, zJ_uA, zJ_uB, zJ_uR, zJ_uN, zA_uI, zA_uJ, zA_uA, zA_uB, zA_uR, zA_uN, zB_uI, zB_uJ, zB_uA, zB_uB, zB_uR, zB_uN, zR_uI, zR_uJ, zR_uA, zR_uB, zR_uR, zR_uN, zN_uI, zN_uJ, zN_uA, zN_uB, zN_uR, zN_uN, zI_ne, zJ_ne, zA_ne, zB_ne, zR_ne, zN_ne, bi_T, bi_F, nz16, ↓reduceIte, not_true_eq_false, not_false_eq_true, Bool.false_eq_true, reduceCtorEq, h1]
