/-! orders: least and orders, both sides -/
def B3 {α : Type} (σ : St) (g : Gh) (c cc s : Nat) (cl : Option (α × St)) (m : St → Option (α × St)) : Prop := ∃ r τ υ, cl = some (r, τ) ∧ OF σ τ ∧ CH τ g c ∧ AC τ (cc + 2) s ∧ m τ = some (r, υ) ∧ SE τ υ
theorem OF.rf (σ : St) : OF σ σ := FR.rf _ _ _ _ _
theorem RI.of {σ τ : St} {g : Gh} {lim : Nat} (f : OF σ τ) (h : RI σ g lim) : RI τ g lim := by
  refine ⟨h.1, f.jc (by decide) (by decide) (by decide) h.2.1, ?_, h.2.2.2.1, (f.2.2.1 20 (by decide)).trans h.2.2.2.2.1, (f.2.2.1 45 (by decide)).trans h.2.2.2.2.2⟩
  unfold JM wAt
  rw [f.2.2.1 32 (by decide), f.1 60 (by decide), f.1 61 (by decide), f.1 62 (by decide), f.1 63 (by decide), f.1 64 (by decide), f.1 65 (by decide), f.1 66 (by decide), f.1 56 (by decide)]
  exact h.2.2.1
theorem B3.no {α : Type} {σ : St} {g : Gh} {c cc s : Nat} {cl : Option (α × St)} {m : St → Option (α × St)} (hH : CH σ g c) (hA : AC σ cc s) (r : α) (h1 : cl = some (r, σ)) (h2 : m σ = some (r, uI σ 30 (nI 0))) : B3 σ g c cc s cl m := ⟨r, σ, _, h1, OF.rf σ, hH, hA.more (by omega) (Nat.le_refl _), h2, se30 σ _⟩
theorem se30g {σ : St} {g : Gh} {lim : Nat} (h : RI σ g lim) : RI (uI σ 30 (nI 0)) g lim := h.se (se30 σ _)
theorem start_at {τ : St} {g : Gh} {S : Nat} (h : TD τ g S) : fX2_startSlot τ = some (nI (rx (zs g S) 8 * am S)) ∧ fX2_gapsAt τ (nI (rx (zs g S) 8 * am S)) = some (nI (xL g S 0 0).1) ∧ fX2_waysAt τ (nI (rx (zs g S) 8 * am S)) = some (lN (xL g S 0 0).2) := by
  obtain ⟨hC, _, hv⟩ := h
  have hx := xL_le (st := 0) (last := 0) hC.2.1
  have hrm := hC.2.2.2.2.2.2
  refine ⟨?_, c_gapsAt hrm.1 hrm.2 (by omega) hv, c_waysAt hrm.1 hrm.2 (by omega) hx.2 hv⟩
  unfold fX2_startSlot
  rw [hC.2.2.2.1, hC.2.2.2.2.1]
  simp (disch := omega) only [l0, l1, l2, l3, l4, l5, l6, l7, l8, l9, l10, l11, l12, l16, l18, l19, l20, l21, l24, l96, l128, l100, l144, l200, l256, l288, l1536, l1728, l1800, bnd, nI_add, pk_mul, pI_sub, pI_m1, pT_le, pF_le, pT_lt, pF_lt, pT_eq, pF_eq, pF_m1, mF_eq, mT_eq, mT_lt, mF_le, lm1, rd_nI, wr_nI, cl_nI, pk_us, un_ne, pk_uLs, uL_ne, zI_uI, zI_uJ, zI_uA, zI_uB, zI_uR, zI_uN, zJ_uI, zJ_uJ, zJ_uA, zJ_uB, zJ_uR, zJ_uN, zA_uI, zA_uJ, zA_uA, zA_uB, zA_uR, zA_uN, zB_uI, zB_uJ, zB_uA, zB_uB, zB_uR, zB_uN, zR_uI, zR_uJ, zR_uA, zR_uB, zR_uR, zR_uN, zN_uI, zN_uJ, zN_uA, zN_uB, zN_uR, zN_uN, zI_ne, zJ_ne, zA_ne, zB_ne, zR_ne, zN_ne, bi_T, bi_F, nz16, ↓reduceIte, not_true_eq_false, not_false_eq_true, Bool.false_eq_true, reduceCtorEq]
theorem t_least {σ : St} {g : Gh} {lim c cc s : Nat} (h : RI σ g lim) (hr : rOk σ) (hA : AC σ cc s) (hH : CH σ g c) (p : Int32) : B3 σ g c cc s (fX11_least σ p) (fun τ => fX12_least τ p) := by
  rcases all2 h p with ⟨t, hal, ht, rfl, e⟩ | e
  · obtain ⟨τ, h1, h2, h3, h4, h5⟩ := c_areTold h.1 h.2.1 hr hA hal hH
    have hR := h.of h2
    obtain ⟨υ, h6, h7⟩ := m_least h.1 hR.2.2.1 hal
    by_cases hs : sm g t
    · rw [decide_eq_true hs] at h1
      rw [if_pos hs] at h6
      obtain ⟨hT, _⟩ := h5 hs
      have hst := start_at hT
      refine ⟨_, τ, υ, ?_, h2, h3, h4.more (by omega) (Nat.le_refl _), h6, h7⟩
      unfold fX11_least fX2_fewestGaps
      simp (disch := omega) only [l0, l1, l2, l3, l4, l5, l6, l7, l8, l9, l10, l11, l12, l16, l18, l19, l20, l21, l24, l96, l128, l100, l144, l200, l256, l288, l1536, l1728, l1800, bnd, nI_add, pk_mul, pI_sub, pI_m1, pT_le, pF_le, pT_lt, pF_lt, pT_eq, pF_eq, pF_m1, mF_eq, mT_eq, mT_lt, mF_le, lm1, rd_nI, wr_nI, cl_nI, pk_us, un_ne, pk_uLs, uL_ne, zI_uI, zI_uJ, zI_uA, zI_uB, zI_uR, zI_uN, zJ_uI, zJ_uJ, zJ_uA, zJ_uB, zJ_uR, zJ_uN, zA_uI, zA_uJ, zA_uA, zA_uB, zA_uR, zA_uN, zB_uI, zB_uJ, zB_uA, zB_uB, zB_uR, zB_uN, zR_uI, zR_uJ, zR_uA, zR_uB, zR_uR, zR_uN, zN_uI, zN_uJ, zN_uA, zN_uB, zN_uR, zN_uN, zI_ne, zJ_ne, zA_ne, zB_ne, zR_ne, zN_ne, bi_T, bi_F, nz16, ↓reduceIte, not_true_eq_false, not_false_eq_true, Bool.false_eq_true, reduceCtorEq, h1, hst.1, hst.2.1]
    · rw [decide_eq_false hs] at h1
      rw [if_neg hs] at h6
      refine ⟨mI, τ, υ, ?_, h2, h3, h4.more (by omega) (Nat.le_refl _), h6, h7⟩
      unfold fX11_least
      simp (disch := omega) only [l0, l1, l2, l3, l4, l5, l6, l7, l8, l9, l10, l11, l12, l16, l18, l19, l20, l21, l24, l96, l128, l100, l144, l200, l256, l288, l1536, l1728, l1800, bnd, nI_add, pk_mul, pI_sub, pI_m1, pT_le, pF_le, pT_lt, pF_lt, pT_eq, pF_eq, pF_m1, mF_eq, mT_eq, mT_lt, mF_le, lm1, rd_nI, wr_nI, cl_nI, pk_us, un_ne, pk_uLs, uL_ne, zI_uI, zI_uJ, zI_uA, zI_uB, zI_uR, zI_uN, zJ_uI, zJ_uJ, zJ_uA, zJ_uB, zJ_uR, zJ_uN, zA_uI, zA_uJ, zA_uA, zA_uB, zA_uR, zA_uN, zB_uI, zB_uJ, zB_uA, zB_uB, zB_uR, zB_uN, zR_uI, zR_uJ, zR_uA, zR_uB, zR_uR, zR_uN, zN_uI, zN_uJ, zN_uA, zN_uB, zN_uR, zN_uN, zI_ne, zJ_ne, zA_ne, zB_ne, zR_ne, zN_ne, bi_T, bi_F, nz16, ↓reduceIte, not_true_eq_false, not_false_eq_true, Bool.false_eq_true, reduceCtorEq, h1]
  · have e1 := (e σ (SE.rf σ)).1
    have e2 := (e (uI σ 30 (nI 0)) (se30 σ _)).2
    refine B3.no hH hA mI ?_ ?_
    · unfold fX11_least fX2_areTold
      simp (disch := omega) only [l0, l1, l2, l3, l4, l5, l6, l7, l8, l9, l10, l11, l12, l16, l18, l19, l20, l21, l24, l96, l128, l100, l144, l200, l256, l288, l1536, l1728, l1800, bnd, nI_add, pk_mul, pI_sub, pI_m1, pT_le, pF_le, pT_lt, pF_lt, pT_eq, pF_eq, pF_m1, mF_eq, mT_eq, mT_lt, mF_le, lm1, rd_nI, wr_nI, cl_nI, pk_us, un_ne, pk_uLs, uL_ne, zI_uI, zI_uJ, zI_uA, zI_uB, zI_uR, zI_uN, zJ_uI, zJ_uJ, zJ_uA, zJ_uB, zJ_uR, zJ_uN, zA_uI, zA_uJ, zA_uA, zA_uB, zA_uR, zA_uN, zB_uI, zB_uJ, zB_uA, zB_uB, zB_uR, zB_uN, zR_uI, zR_uJ, zR_uA, zR_uB, zR_uR, zR_uN, zN_uI, zN_uJ, zN_uA, zN_uB, zN_uR, zN_uN, zI_ne, zJ_ne, zA_ne, zB_ne, zR_ne, zN_ne, bi_T, bi_F, nz16, ↓reduceIte, not_true_eq_false, not_false_eq_true, Bool.false_eq_true, reduceCtorEq, e1]
    · show fX12_least σ p = _
      unfold fX12_least fX12_isSmall
      simp (disch := omega) only [l0, l1, l2, l3, l4, l5, l6, l7, l8, l9, l10, l11, l12, l16, l18, l19, l20, l21, l24, l96, l128, l100, l144, l200, l256, l288, l1536, l1728, l1800, bnd, nI_add, pk_mul, pI_sub, pI_m1, pT_le, pF_le, pT_lt, pF_lt, pT_eq, pF_eq, pF_m1, mF_eq, mT_eq, mT_lt, mF_le, lm1, rd_nI, wr_nI, cl_nI, pk_us, un_ne, pk_uLs, uL_ne, zI_uI, zI_uJ, zI_uA, zI_uB, zI_uR, zI_uN, zJ_uI, zJ_uJ, zJ_uA, zJ_uB, zJ_uR, zJ_uN, zA_uI, zA_uJ, zA_uA, zA_uB, zA_uR, zA_uN, zB_uI, zB_uJ, zB_uA, zB_uB, zB_uR, zB_uN, zR_uI, zR_uJ, zR_uA, zR_uB, zR_uR, zR_uN, zN_uI, zN_uJ, zN_uA, zN_uB, zN_uR, zN_uN, zI_ne, zJ_ne, zA_ne, zB_ne, zR_ne, zN_ne, bi_T, bi_F, nz16, ↓reduceIte, not_true_eq_false, not_false_eq_true, Bool.false_eq_true, reduceCtorEq, e2]
theorem t_orders {σ : St} {g : Gh} {lim c cc s : Nat} (h : RI σ g lim) (hr : rOk σ) (hA : AC σ cc s) (hH : CH σ g c) (p : Int32) : B3 σ g c cc s (fX11_orders σ p) (fun τ => fX12_orders τ p) := by
  rcases all2 h p with ⟨t, hal, ht, rfl, e⟩ | e
  · obtain ⟨τ, h1, h2, h3, h4, h5⟩ := c_areTold h.1 h.2.1 hr hA hal hH
    have hR := h.of h2
    obtain ⟨υ, h6, h7⟩ := m_orders h.1 hR.2.2.1 hal
    by_cases hs : sm g t
    · rw [decide_eq_true hs] at h1
      rw [if_pos hs] at h6
      obtain ⟨hT, _⟩ := h5 hs
      have hst := start_at hT
      refine ⟨_, τ, υ, ?_, h2, h3, h4.more (by omega) (Nat.le_refl _), h6, h7⟩
      unfold fX11_orders fX2_howManyBest
      simp (disch := omega) only [l0, l1, l2, l3, l4, l5, l6, l7, l8, l9, l10, l11, l12, l16, l18, l19, l20, l21, l24, l96, l128, l100, l144, l200, l256, l288, l1536, l1728, l1800, bnd, nI_add, pk_mul, pI_sub, pI_m1, pT_le, pF_le, pT_lt, pF_lt, pT_eq, pF_eq, pF_m1, mF_eq, mT_eq, mT_lt, mF_le, lm1, rd_nI, wr_nI, cl_nI, pk_us, un_ne, pk_uLs, uL_ne, zI_uI, zI_uJ, zI_uA, zI_uB, zI_uR, zI_uN, zJ_uI, zJ_uJ, zJ_uA, zJ_uB, zJ_uR, zJ_uN, zA_uI, zA_uJ, zA_uA, zA_uB, zA_uR, zA_uN, zB_uI, zB_uJ, zB_uA, zB_uB, zB_uR, zB_uN, zR_uI, zR_uJ, zR_uA, zR_uB, zR_uR, zR_uN, zN_uI, zN_uJ, zN_uA, zN_uB, zN_uR, zN_uN, zI_ne, zJ_ne, zA_ne, zB_ne, zR_ne, zN_ne, bi_T, bi_F, nz16, ↓reduceIte, not_true_eq_false, not_false_eq_true, Bool.false_eq_true, reduceCtorEq, h1, hst.1, hst.2.2]
    · rw [decide_eq_false hs] at h1
      rw [if_neg hs] at h6
      refine ⟨-1, τ, υ, ?_, h2, h3, h4.more (by omega) (Nat.le_refl _), h6, h7⟩
      unfold fX11_orders
      simp (disch := omega) only [l0, l1, l2, l3, l4, l5, l6, l7, l8, l9, l10, l11, l12, l16, l18, l19, l20, l21, l24, l96, l128, l100, l144, l200, l256, l288, l1536, l1728, l1800, bnd, nI_add, pk_mul, pI_sub, pI_m1, pT_le, pF_le, pT_lt, pF_lt, pT_eq, pF_eq, pF_m1, mF_eq, mT_eq, mT_lt, mF_le, lm1, rd_nI, wr_nI, cl_nI, pk_us, un_ne, pk_uLs, uL_ne, zI_uI, zI_uJ, zI_uA, zI_uB, zI_uR, zI_uN, zJ_uI, zJ_uJ, zJ_uA, zJ_uB, zJ_uR, zJ_uN, zA_uI, zA_uJ, zA_uA, zA_uB, zA_uR, zA_uN, zB_uI, zB_uJ, zB_uA, zB_uB, zB_uR, zB_uN, zR_uI, zR_uJ, zR_uA, zR_uB, zR_uR, zR_uN, zN_uI, zN_uJ, zN_uA, zN_uB, zN_uR, zN_uN, zI_ne, zJ_ne, zA_ne, zB_ne, zR_ne, zN_ne, bi_T, bi_F, nz16, ↓reduceIte, not_true_eq_false, not_false_eq_true, Bool.false_eq_true, reduceCtorEq, h1]
  · have e1 := (e σ (SE.rf σ)).1
    have e2 := (e (uI σ 30 (nI 0)) (se30 σ _)).2
    refine B3.no hH hA (-1) ?_ ?_
    · unfold fX11_orders fX2_areTold
      simp (disch := omega) only [l0, l1, l2, l3, l4, l5, l6, l7, l8, l9, l10, l11, l12, l16, l18, l19, l20, l21, l24, l96, l128, l100, l144, l200, l256, l288, l1536, l1728, l1800, bnd, nI_add, pk_mul, pI_sub, pI_m1, pT_le, pF_le, pT_lt, pF_lt, pT_eq, pF_eq, pF_m1, mF_eq, mT_eq, mT_lt, mF_le, lm1, rd_nI, wr_nI, cl_nI, pk_us, un_ne, pk_uLs, uL_ne, zI_uI, zI_uJ, zI_uA, zI_uB, zI_uR, zI_uN, zJ_uI, zJ_uJ, zJ_uA, zJ_uB, zJ_uR, zJ_uN, zA_uI, zA_uJ, zA_uA, zA_uB, zA_uR, zA_uN, zB_uI, zB_uJ, zB_uA, zB_uB, zB_uR, zB_uN, zR_uI, zR_uJ, zR_uA, zR_uB, zR_uR, zR_uN, zN_uI, zN_uJ, zN_uA, zN_uB, zN_uR, zN_uN, zI_ne, zJ_ne, zA_ne, zB_ne, zR_ne, zN_ne, bi_T, bi_F, nz16, ↓reduceIte, not_true_eq_false, not_false_eq_true, Bool.false_eq_true, reduceCtorEq, e1]
    · show fX12_orders σ p = _
      unfold fX12_orders fX12_isSmall
      simp (disch := omega) only [l0, l1, l2, l3, l4, l5, l6, l7, l8, l9, l10, l11, l12, l16, l18, l19, l20, l21, l24, l96, l128, l100, l144, l200, l256, l288, l1536, l1728, l1800, bnd, nI_add, pk_mul, pI_sub, pI_m1, pT_le, pF_le, pT_lt, pF_lt, pT_eq, pF_eq, pF_m1, mF_eq, mT_eq, mT_lt, mF_le, lm1, rd_nI, wr_nI, cl_nI, pk_us, un_ne, pk_uLs, uL_ne, zI_uI, zI_uJ, zI_uA, zI_uB, zI_uR, zI_uN, zJ_uI, zJ_uJ, zJ_uA, zJ_uB, zJ_uR, zJ_uN, zA_uI, zA_uJ, zA_uA, zA_uB, zA_uR, zA_uN, zB_uI, zB_uJ, zB_uA, zB_uB, zB_uR, zB_uN, zR_uI, zR_uJ, zR_uA, zR_uB, zR_uR, zR_uN, zN_uI, zN_uJ, zN_uA, zN_uB, zN_uR, zN_uN, zI_ne, zJ_ne, zA_ne, zB_ne, zR_ne, zN_ne, bi_T, bi_F, nz16, ↓reduceIte, not_true_eq_false, not_false_eq_true, Bool.false_eq_true, reduceCtorEq, e2]
