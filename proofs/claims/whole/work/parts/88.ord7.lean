/-! orders: the model's gapOf -/
theorem zs_vd {g : Gh} {S r i : Nat} (hg : okG g) (hS : inG g S) (hr : r < 8) (hi : i < zs g S r) : vd g (16 * r + i) = true := by
  have h5 := zs_le hg hS hr
  unfold zs at hi h5
  split at hi
  · rename_i hb
    have h1 := hS.2 r hr hb
    rw [if_pos hb] at h5
    apply vd_iff.mpr
    rw [show (16 * r + i) / 16 = r by omega, show (16 * r + i) % 16 = i by omega]
    exact ⟨h1, hi⟩
  · exact absurd hi (Nat.not_lt_zero _)
theorem m_gapOf {σ : St} {g : Gh} {S r st last : Nat} (h : JS σ g S) (hg : okG g) (hr : r < 8) (hst : st < 20000) (hs : sd (zs g S) st r < zs g S r) (hl : last ≤ 8) (hls : 1 ≤ last → 0 < sd (zs g S) st (last - 1)) : fX12_gapOf σ (nI st) (nI last) (nI r) = some (nI (og g (zs g S) st last r)) := by
  have h2 := m_saidOf h hg hr hst
  have hv := zs_vd hg h.2.1 hr hs
  have h5 := zs_le hg h.2.1 hr
  have h61 := (h.1.2.2 _ hv).1
  have hcl := (vd_ok hg hv).1
  unfold fX12_gapOf og
  by_cases h0 : last = 0
  · rw [if_pos h0, h0]
    by_cases hc : (gC g (16 * r + sd (zs g S) st r)).length = 0
    · rw [if_pos hc]
      rw [hc] at h61
      simp (disch := omega) only [l0, l1, l2, l3, l4, l5, l6, l7, l8, l9, l10, l11, l12, l16, l18, l19, l20, l21, l24, l96, l128, l100, l144, l200, l256, l288, l1536, l1728, l1800, bnd, nI_add, pk_mul, pI_sub, pI_m1, pT_le, pF_le, pT_lt, pF_lt, pT_eq, pF_eq, pF_m1, mF_eq, mT_eq, mT_lt, mF_le, lm1, rd_nI, wr_nI, cl_nI, pk_us, un_ne, pk_uLs, uL_ne, zI_uI, zI_uJ, zI_uA, zI_uB, zI_uR, zI_uN, zJ_uI, zJ_uJ, zJ_uA, zJ_uB, zJ_uR, zJ_uN, zA_uI, zA_uJ, zA_uA, zA_uB, zA_uR, zA_uN, zB_uI, zB_uJ, zB_uA, zB_uB, zB_uR, zB_uN, zR_uI, zR_uJ, zR_uA, zR_uB, zR_uR, zR_uN, zN_uI, zN_uJ, zN_uA, zN_uB, zN_uR, zN_uN, zI_ne, zJ_ne, zA_ne, zB_ne, zR_ne, zN_ne, bi_T, bi_F, nz16, ↓reduceIte, not_true_eq_false, not_false_eq_true, Bool.false_eq_true, reduceCtorEq, h2, h61]
    · rw [if_neg hc]
      simp (disch := omega) only [l0, l1, l2, l3, l4, l5, l6, l7, l8, l9, l10, l11, l12, l16, l18, l19, l20, l21, l24, l96, l128, l100, l144, l200, l256, l288, l1536, l1728, l1800, bnd, nI_add, pk_mul, pI_sub, pI_m1, pT_le, pF_le, pT_lt, pF_lt, pT_eq, pF_eq, pF_m1, mF_eq, mT_eq, mT_lt, mF_le, lm1, rd_nI, wr_nI, cl_nI, pk_us, un_ne, pk_uLs, uL_ne, zI_uI, zI_uJ, zI_uA, zI_uB, zI_uR, zI_uN, zJ_uI, zJ_uJ, zJ_uA, zJ_uB, zJ_uR, zJ_uN, zA_uI, zA_uJ, zA_uA, zA_uB, zA_uR, zA_uN, zB_uI, zB_uJ, zB_uA, zB_uB, zB_uR, zB_uN, zR_uI, zR_uJ, zR_uA, zR_uB, zR_uR, zR_uN, zN_uI, zN_uJ, zN_uA, zN_uB, zN_uR, zN_uN, zI_ne, zJ_ne, zA_ne, zB_ne, zR_ne, zN_ne, bi_T, bi_F, nz16, ↓reduceIte, not_true_eq_false, not_false_eq_true, Bool.false_eq_true, reduceCtorEq, h2, h61]
  · rw [if_neg h0]
    have hp := hls (by omega)
    have h3 := m_saidOf (r := last - 1) h hg (by omega) hst
    have hle := sd_le (zs g S) st (last - 1)
    have h6 := zs_le (r := last - 1) hg h.2.1 (by omega)
    have hvl := zs_vd (r := last - 1) (i := sd (zs g S) st (last - 1) - 1) hg h.2.1 (by omega) (by omega)
    rw [show 16 * (last - 1) + (sd (zs g S) st (last - 1) - 1) = 16 * (last - 1) + sd (zs g S) st (last - 1) - 1 by omega] at hvl
    have hel := m_endsIt hg h.1 hv hvl
    have e1 : nI last - nI 1 = nI (last - 1) := pI_sub (by omega)
    have e2 : nI (16 * (last - 1) + sd (zs g S) st (last - 1)) - nI 1 = nI (16 * (last - 1) + sd (zs g S) st (last - 1) - 1) := pI_sub (by omega)
    by_cases hx : last - 1 = r
    · rw [if_pos hx]
      simp (disch := omega) only [l0, l1, l2, l3, l4, l5, l6, l7, l8, l9, l10, l11, l12, l16, l18, l19, l20, l21, l24, l96, l128, l100, l144, l200, l256, l288, l1536, l1728, l1800, bnd, nI_add, pk_mul, pI_sub, pI_m1, pT_le, pF_le, pT_lt, pF_lt, pT_eq, pF_eq, pF_m1, mF_eq, mT_eq, mT_lt, mF_le, lm1, rd_nI, wr_nI, cl_nI, pk_us, un_ne, pk_uLs, uL_ne, zI_uI, zI_uJ, zI_uA, zI_uB, zI_uR, zI_uN, zJ_uI, zJ_uJ, zJ_uA, zJ_uB, zJ_uR, zJ_uN, zA_uI, zA_uJ, zA_uA, zA_uB, zA_uR, zA_uN, zB_uI, zB_uJ, zB_uA, zB_uB, zB_uR, zB_uN, zR_uI, zR_uJ, zR_uA, zR_uB, zR_uR, zR_uN, zN_uI, zN_uJ, zN_uA, zN_uB, zN_uR, zN_uN, zI_ne, zJ_ne, zA_ne, zB_ne, zR_ne, zN_ne, bi_T, bi_F, nz16, ↓reduceIte, not_true_eq_false, not_false_eq_true, Bool.false_eq_true, reduceCtorEq, h2, e1, hx]
    · rw [if_neg hx]
      cases he : eg g (16 * r + sd (zs g S) st r) (16 * (last - 1) + sd (zs g S) st (last - 1) - 1) with
      | true =>
        rw [he] at hel
        simp (disch := omega) only [l0, l1, l2, l3, l4, l5, l6, l7, l8, l9, l10, l11, l12, l16, l18, l19, l20, l21, l24, l96, l128, l100, l144, l200, l256, l288, l1536, l1728, l1800, bnd, nI_add, pk_mul, pI_sub, pI_m1, pT_le, pF_le, pT_lt, pF_lt, pT_eq, pF_eq, pF_m1, mF_eq, mT_eq, mT_lt, mF_le, lm1, rd_nI, wr_nI, cl_nI, pk_us, un_ne, pk_uLs, uL_ne, zI_uI, zI_uJ, zI_uA, zI_uB, zI_uR, zI_uN, zJ_uI, zJ_uJ, zJ_uA, zJ_uB, zJ_uR, zJ_uN, zA_uI, zA_uJ, zA_uA, zA_uB, zA_uR, zA_uN, zB_uI, zB_uJ, zB_uA, zB_uB, zB_uR, zB_uN, zR_uI, zR_uJ, zR_uA, zR_uB, zR_uR, zR_uN, zN_uI, zN_uJ, zN_uA, zN_uB, zN_uR, zN_uN, zI_ne, zJ_ne, zA_ne, zB_ne, zR_ne, zN_ne, bi_T, bi_F, nz16, ↓reduceIte, not_true_eq_false, not_false_eq_true, Bool.false_eq_true, reduceCtorEq, h2, e1, h3, e2, hel]
      | false =>
        rw [he] at hel
        simp (disch := omega) only [l0, l1, l2, l3, l4, l5, l6, l7, l8, l9, l10, l11, l12, l16, l18, l19, l20, l21, l24, l96, l128, l100, l144, l200, l256, l288, l1536, l1728, l1800, bnd, nI_add, pk_mul, pI_sub, pI_m1, pT_le, pF_le, pT_lt, pF_lt, pT_eq, pF_eq, pF_m1, mF_eq, mT_eq, mT_lt, mF_le, lm1, rd_nI, wr_nI, cl_nI, pk_us, un_ne, pk_uLs, uL_ne, zI_uI, zI_uJ, zI_uA, zI_uB, zI_uR, zI_uN, zJ_uI, zJ_uJ, zJ_uA, zJ_uB, zJ_uR, zJ_uN, zA_uI, zA_uJ, zA_uA, zA_uB, zA_uR, zA_uN, zB_uI, zB_uJ, zB_uA, zB_uB, zB_uR, zB_uN, zR_uI, zR_uJ, zR_uA, zR_uB, zR_uR, zR_uN, zN_uI, zN_uJ, zN_uA, zN_uB, zN_uR, zN_uN, zI_ne, zJ_ne, zA_ne, zB_ne, zR_ne, zN_ne, bi_T, bi_F, nz16, ↓reduceIte, not_true_eq_false, not_false_eq_true, Bool.false_eq_true, reduceCtorEq, h2, e1, h3, e2, hel]
