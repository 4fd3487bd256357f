/-! wrong; the rehearsal -/
def isWr (g : Gh) (pl : List Nat) (k : Nat) : Bool :=
  if k = 0 then decide ((gC g (pl.getD 0 0)).length ≠ 0) else (decide (pl.getD (k - 1) 0 / 16 = pl.getD k 0 / 16) || !eg g (pl.getD k 0) (pl.getD (k - 1) 0))
def wrL (P : Nat → Bool) (i : Int32) : List Nat → Nat → Int32
  | [], n => if i = mI then nI n else mI
  | k :: l, n => if P k = true then (if nI n = i then nI k else wrL P i l (n + 1)) else wrL P i l n
theorem c_gap {σ : St} {g : Gh} {pl : List Nat} (hg : okG g) (hj : JC σ g) (hp : PI σ g pl) {k : Nat} (h : k < pl.length) : fX8_hasGapAhead σ (nI k) = some (isWr g pl k) := by
  have hpl := (pl_le hg hp.2.2.2.1 hp.2.2.2.2).1
  have hat := c_playedAt hg hp h
  have hv := hp.2.2.2.1 _ (getD_mem (l := pl) (k := k) (d := 0) h)
  have hvl := vd_lt hg hv
  unfold fX8_hasGapAhead isWr
  by_cases h0 : k = 0
  · subst h0
    rw [if_pos rfl]
    have hc := c_hasCue hg hj (s := pl.getD 0 0) (by omega)
    rw [hv, Bool.true_and] at hc
    simp (disch := omega) only [l0, l1, l2, l3, l4, l5, l6, l7, l8, l9, l10, l11, l12, l16, l18, l19, l20, l21, l24, l96, l128, l100, l144, l200, l256, l288, l1536, l1728, l1800, bnd, nI_add, pk_mul, pI_sub, pI_m1, pT_le, pF_le, pT_lt, pF_lt, pT_eq, pF_eq, pF_m1, mF_eq, mT_eq, mT_lt, mF_le, lm1, rd_nI, wr_nI, cl_nI, pk_us, un_ne, pk_uLs, uL_ne, zI_uI, zI_uJ, zI_uA, zI_uB, zI_uR, zI_uN, zJ_uI, zJ_uJ, zJ_uA, zJ_uB, zJ_uR, zJ_uN, zA_uI, zA_uJ, zA_uA, zA_uB, zA_uR, zA_uN, zB_uI, zB_uJ, zB_uA, zB_uB, zB_uR, zB_uN, zR_uI, zR_uJ, zR_uA, zR_uB, zR_uR, zR_uN, zN_uI, zN_uJ, zN_uA, zN_uB, zN_uR, zN_uN, zI_ne, zJ_ne, zA_ne, zB_ne, zR_ne, zN_ne, bi_T, bi_F, nz16, ↓reduceIte, not_true_eq_false, not_false_eq_true, Bool.false_eq_true, reduceCtorEq, hat, hc]
  · rw [if_neg h0]
    have hat2 := c_playedAt hg hp (k := k - 1) (by omega)
    have hv2 := hp.2.2.2.1 _ (getD_mem (l := pl) (k := k - 1) (d := 0) (by omega))
    have hvl2 := vd_lt hg hv2
    have hcl := c_closes hg hj hv hv2
    by_cases e : pl.getD (k - 1) 0 / 16 = pl.getD k 0 / 16
    · have e2 : (nI (pl.getD (k - 1) 0 / 16) = nI (pl.getD k 0 / 16)) = True := eq_true (by rw [e])
      rw [decide_eq_true e, Bool.true_or]
      simp (disch := omega) only [l0, l1, l2, l3, l4, l5, l6, l7, l8, l9, l10, l11, l12, l16, l18, l19, l20, l21, l24, l96, l128, l100, l144, l200, l256, l288, l1536, l1728, l1800, bnd, nI_add, pk_mul, pI_sub, pI_m1, pT_le, pF_le, pT_lt, pF_lt, pT_eq, pF_eq, pF_m1, mF_eq, mT_eq, mT_lt, mF_le, lm1, rd_nI, wr_nI, cl_nI, pk_us, un_ne, pk_uLs, uL_ne, zI_uI, zI_uJ, zI_uA, zI_uB, zI_uR, zI_uN, zJ_uI, zJ_uJ, zJ_uA, zJ_uB, zJ_uR, zJ_uN, zA_uI, zA_uJ, zA_uA, zA_uB, zA_uR, zA_uN, zB_uI, zB_uJ, zB_uA, zB_uB, zB_uR, zB_uN, zR_uI, zR_uJ, zR_uA, zR_uB, zR_uR, zR_uN, zN_uI, zN_uJ, zN_uA, zN_uB, zN_uR, zN_uN, zI_ne, zJ_ne, zA_ne, zB_ne, zR_ne, zN_ne, bi_T, bi_F, nz16, ↓reduceIte, not_true_eq_false, not_false_eq_true, Bool.false_eq_true, reduceCtorEq, hat, hat2, c_rollOf, e2]
    · have e2 : (nI (pl.getD (k - 1) 0 / 16) = nI (pl.getD k 0 / 16)) = False := pF_eq e (by omega) (by omega)
      rw [decide_eq_false e, Bool.false_or]
      cases h3 : eg g (pl.getD k 0) (pl.getD (k - 1) 0) with
      | true =>
        rw [h3] at hcl
        simp (disch := omega) only [l0, l1, l2, l3, l4, l5, l6, l7, l8, l9, l10, l11, l12, l16, l18, l19, l20, l21, l24, l96, l128, l100, l144, l200, l256, l288, l1536, l1728, l1800, bnd, nI_add, pk_mul, pI_sub, pI_m1, pT_le, pF_le, pT_lt, pF_lt, pT_eq, pF_eq, pF_m1, mF_eq, mT_eq, mT_lt, mF_le, lm1, rd_nI, wr_nI, cl_nI, pk_us, un_ne, pk_uLs, uL_ne, zI_uI, zI_uJ, zI_uA, zI_uB, zI_uR, zI_uN, zJ_uI, zJ_uJ, zJ_uA, zJ_uB, zJ_uR, zJ_uN, zA_uI, zA_uJ, zA_uA, zA_uB, zA_uR, zA_uN, zB_uI, zB_uJ, zB_uA, zB_uB, zB_uR, zB_uN, zR_uI, zR_uJ, zR_uA, zR_uB, zR_uR, zR_uN, zN_uI, zN_uJ, zN_uA, zN_uB, zN_uR, zN_uN, zI_ne, zJ_ne, zA_ne, zB_ne, zR_ne, zN_ne, bi_T, bi_F, nz16, ↓reduceIte, not_true_eq_false, not_false_eq_true, Bool.false_eq_true, reduceCtorEq, hat, hat2, c_rollOf, e2, hcl, Bool.not_true]
      | false =>
        rw [h3] at hcl
        simp (disch := omega) only [l0, l1, l2, l3, l4, l5, l6, l7, l8, l9, l10, l11, l12, l16, l18, l19, l20, l21, l24, l96, l128, l100, l144, l200, l256, l288, l1536, l1728, l1800, bnd, nI_add, pk_mul, pI_sub, pI_m1, pT_le, pF_le, pT_lt, pF_lt, pT_eq, pF_eq, pF_m1, mF_eq, mT_eq, mT_lt, mF_le, lm1, rd_nI, wr_nI, cl_nI, pk_us, un_ne, pk_uLs, uL_ne, zI_uI, zI_uJ, zI_uA, zI_uB, zI_uR, zI_uN, zJ_uI, zJ_uJ, zJ_uA, zJ_uB, zJ_uR, zJ_uN, zA_uI, zA_uJ, zA_uA, zA_uB, zA_uR, zA_uN, zB_uI, zB_uJ, zB_uA, zB_uB, zB_uR, zB_uN, zR_uI, zR_uJ, zR_uA, zR_uB, zR_uR, zR_uN, zN_uI, zN_uJ, zN_uA, zN_uB, zN_uR, zN_uN, zI_ne, zJ_ne, zA_ne, zB_ne, zR_ne, zN_ne, bi_T, bi_F, nz16, ↓reduceIte, not_true_eq_false, not_false_eq_true, Bool.false_eq_true, reduceCtorEq, hat, hat2, c_rollOf, e2, hcl, Bool.not_false]
theorem m_gap {σ : St} {g : Gh} {pl : List Nat} (hg : okG g) (hj : JM σ g) (hp : PI σ g pl) {k : Nat} (h : k < pl.length) : fX12_isWrong σ (nI k) = some (isWr g pl k) := by
  have hpl := (pl_le hg hp.2.2.2.1 hp.2.2.2.2).1
  have hat := (hp.2.2.1 k h).2
  have hv := hp.2.2.2.1 _ (getD_mem (l := pl) (k := k) (d := 0) h)
  have hvl := vd_lt hg hv
  unfold fX12_isWrong isWr
  by_cases h0 : k = 0
  · subst h0
    rw [if_pos rfl]
    have h61 := (hj.2.2 _ hv).1
    have hc2 := (vd_ok hg hv).1
    by_cases hc : (gC g (pl.getD 0 0)).length = 0
    · rw [decide_eq_false (fun x => x hc)]
      simp (disch := omega) only [l0, l1, l2, l3, l4, l5, l6, l7, l8, l9, l10, l11, l12, l16, l18, l19, l20, l21, l24, l96, l128, l100, l144, l200, l256, l288, l1536, l1728, l1800, bnd, nI_add, pk_mul, pI_sub, pI_m1, pT_le, pF_le, pT_lt, pF_lt, pT_eq, pF_eq, pF_m1, mF_eq, mT_eq, mT_lt, mF_le, lm1, rd_nI, wr_nI, cl_nI, pk_us, un_ne, pk_uLs, uL_ne, zI_uI, zI_uJ, zI_uA, zI_uB, zI_uR, zI_uN, zJ_uI, zJ_uJ, zJ_uA, zJ_uB, zJ_uR, zJ_uN, zA_uI, zA_uJ, zA_uA, zA_uB, zA_uR, zA_uN, zB_uI, zB_uJ, zB_uA, zB_uB, zB_uR, zB_uN, zR_uI, zR_uJ, zR_uA, zR_uB, zR_uR, zR_uN, zN_uI, zN_uJ, zN_uA, zN_uB, zN_uR, zN_uN, zI_ne, zJ_ne, zA_ne, zB_ne, zR_ne, zN_ne, bi_T, bi_F, nz16, ↓reduceIte, not_true_eq_false, not_false_eq_true, Bool.false_eq_true, reduceCtorEq, hat, h61]
    · rw [decide_eq_true hc]
      simp (disch := omega) only [l0, l1, l2, l3, l4, l5, l6, l7, l8, l9, l10, l11, l12, l16, l18, l19, l20, l21, l24, l96, l128, l100, l144, l200, l256, l288, l1536, l1728, l1800, bnd, nI_add, pk_mul, pI_sub, pI_m1, pT_le, pF_le, pT_lt, pF_lt, pT_eq, pF_eq, pF_m1, mF_eq, mT_eq, mT_lt, mF_le, lm1, rd_nI, wr_nI, cl_nI, pk_us, un_ne, pk_uLs, uL_ne, zI_uI, zI_uJ, zI_uA, zI_uB, zI_uR, zI_uN, zJ_uI, zJ_uJ, zJ_uA, zJ_uB, zJ_uR, zJ_uN, zA_uI, zA_uJ, zA_uA, zA_uB, zA_uR, zA_uN, zB_uI, zB_uJ, zB_uA, zB_uB, zB_uR, zB_uN, zR_uI, zR_uJ, zR_uA, zR_uB, zR_uR, zR_uN, zN_uI, zN_uJ, zN_uA, zN_uB, zN_uR, zN_uN, zI_ne, zJ_ne, zA_ne, zB_ne, zR_ne, zN_ne, bi_T, bi_F, nz16, ↓reduceIte, not_true_eq_false, not_false_eq_true, Bool.false_eq_true, reduceCtorEq, hat, h61]
  · rw [if_neg h0]
    have hat2 := (hp.2.2.1 (k - 1) (by omega)).2
    have hv2 := hp.2.2.2.1 _ (getD_mem (l := pl) (k := k - 1) (d := 0) (by omega))
    have hvl2 := vd_lt hg hv2
    have hcl := m_endsIt hg hj hv hv2
    by_cases e : pl.getD (k - 1) 0 / 16 = pl.getD k 0 / 16
    · have e2 : (nI (pl.getD (k - 1) 0 / 16) = nI (pl.getD k 0 / 16)) = True := eq_true (by rw [e])
      rw [decide_eq_true e, Bool.true_or]
      simp (disch := omega) only [l0, l1, l2, l3, l4, l5, l6, l7, l8, l9, l10, l11, l12, l16, l18, l19, l20, l21, l24, l96, l128, l100, l144, l200, l256, l288, l1536, l1728, l1800, bnd, nI_add, pk_mul, pI_sub, pI_m1, pT_le, pF_le, pT_lt, pF_lt, pT_eq, pF_eq, pF_m1, mF_eq, mT_eq, mT_lt, mF_le, lm1, rd_nI, wr_nI, cl_nI, pk_us, un_ne, pk_uLs, uL_ne, zI_uI, zI_uJ, zI_uA, zI_uB, zI_uR, zI_uN, zJ_uI, zJ_uJ, zJ_uA, zJ_uB, zJ_uR, zJ_uN, zA_uI, zA_uJ, zA_uA, zA_uB, zA_uR, zA_uN, zB_uI, zB_uJ, zB_uA, zB_uB, zB_uR, zB_uN, zR_uI, zR_uJ, zR_uA, zR_uB, zR_uR, zR_uN, zN_uI, zN_uJ, zN_uA, zN_uB, zN_uR, zN_uN, zI_ne, zJ_ne, zA_ne, zB_ne, zR_ne, zN_ne, bi_T, bi_F, nz16, ↓reduceIte, not_true_eq_false, not_false_eq_true, Bool.false_eq_true, reduceCtorEq, hat, hat2, pk_div, e2]
    · have e2 : (nI (pl.getD (k - 1) 0 / 16) = nI (pl.getD k 0 / 16)) = False := pF_eq e (by omega) (by omega)
      rw [decide_eq_false e, Bool.false_or]
      cases h3 : eg g (pl.getD k 0) (pl.getD (k - 1) 0) with
      | true =>
        rw [h3] at hcl
        simp (disch := omega) only [l0, l1, l2, l3, l4, l5, l6, l7, l8, l9, l10, l11, l12, l16, l18, l19, l20, l21, l24, l96, l128, l100, l144, l200, l256, l288, l1536, l1728, l1800, bnd, nI_add, pk_mul, pI_sub, pI_m1, pT_le, pF_le, pT_lt, pF_lt, pT_eq, pF_eq, pF_m1, mF_eq, mT_eq, mT_lt, mF_le, lm1, rd_nI, wr_nI, cl_nI, pk_us, un_ne, pk_uLs, uL_ne, zI_uI, zI_uJ, zI_uA, zI_uB, zI_uR, zI_uN, zJ_uI, zJ_uJ, zJ_uA, zJ_uB, zJ_uR, zJ_uN, zA_uI, zA_uJ, zA_uA, zA_uB, zA_uR, zA_uN, zB_uI, zB_uJ, zB_uA, zB_uB, zB_uR, zB_uN, zR_uI, zR_uJ, zR_uA, zR_uB, zR_uR, zR_uN, zN_uI, zN_uJ, zN_uA, zN_uB, zN_uR, zN_uN, zI_ne, zJ_ne, zA_ne, zB_ne, zR_ne, zN_ne, bi_T, bi_F, nz16, ↓reduceIte, not_true_eq_false, not_false_eq_true, Bool.false_eq_true, reduceCtorEq, hat, hat2, pk_div, e2, hcl, Bool.not_true]
      | false =>
        rw [h3] at hcl
        simp (disch := omega) only [l0, l1, l2, l3, l4, l5, l6, l7, l8, l9, l10, l11, l12, l16, l18, l19, l20, l21, l24, l96, l128, l100, l144, l200, l256, l288, l1536, l1728, l1800, bnd, nI_add, pk_mul, pI_sub, pI_m1, pT_le, pF_le, pT_lt, pF_lt, pT_eq, pF_eq, pF_m1, mF_eq, mT_eq, mT_lt, mF_le, lm1, rd_nI, wr_nI, cl_nI, pk_us, un_ne, pk_uLs, uL_ne, zI_uI, zI_uJ, zI_uA, zI_uB, zI_uR, zI_uN, zJ_uI, zJ_uJ, zJ_uA, zJ_uB, zJ_uR, zJ_uN, zA_uI, zA_uJ, zA_uA, zA_uB, zA_uR, zA_uN, zB_uI, zB_uJ, zB_uA, zB_uB, zB_uR, zB_uN, zR_uI, zR_uJ, zR_uA, zR_uB, zR_uR, zR_uN, zN_uI, zN_uJ, zN_uA, zN_uB, zN_uR, zN_uN, zI_ne, zJ_ne, zA_ne, zB_ne, zR_ne, zN_ne, bi_T, bi_F, nz16, ↓reduceIte, not_true_eq_false, not_false_eq_true, Bool.false_eq_true, reduceCtorEq, hat, hat2, pk_div, e2, hcl, Bool.not_false]
theorem t_wrong {σ : St} {g : Gh} {lim : Nat} {pl : List Nat} (h : RI σ g lim) (hp : PI σ g pl) (p : Int32) : B1 σ (fX11_wrong σ p) (fun τ => fX12_wrong τ p) := by
  have hg := h.1
  have hpl := (pl_le hg hp.2.2.2.1 hp.2.2.2.2).1
  have s3 := se30 σ (nI 0)
  have hp3 := hp.se s3
  have h3 := h.se s3
  refine ⟨wrL (isWr g pl) p (List.range pl.length) 0, uI σ 30 (nI 0), ?_, ?_, s3⟩
  · have key := it_for (β := Nat) (body := fun (kb : (Int32 × Int32) → Option Int32) (x : Int32 × Int32) => fX8_gapOfPlay_L4 p (fun x2 => if p = mI then (some x2) else (some mI)) (fun v2 v3 => kb (v2, v3)) σ x.1 x.2) pl.length (by omega) (fun k a => (nI a, nI k)) (fun k a => a ≤ k) (fun k a z => z = some (wrL (isWr g pl) p ((List.range pl.length).drop k) a)) ?_ 0 0 (Nat.zero_le _) (Nat.le_refl _)
    · unfold fX11_wrong fX8_gapOfPlay
      rw [List.drop_zero] at key
      rw [show fX8_gapOfPlay_P4 p (fun x2 => if p = (-1 : Int32) then (some x2) else (some (-1 : Int32))) σ 0 0 = _ from key]
      simp (disch := omega) only [l0, l1, l2, l3, l4, l5, l6, l7, l8, l9, l10, l11, l12, l16, l18, l19, l20, l21, l24, l96, l128, l100, l144, l200, l256, l288, l1536, l1728, l1800, bnd, nI_add, pk_mul, pI_sub, pI_m1, pT_le, pF_le, pT_lt, pF_lt, pT_eq, pF_eq, pF_m1, mF_eq, mT_eq, mT_lt, mF_le, lm1, rd_nI, wr_nI, cl_nI, pk_us, un_ne, pk_uLs, uL_ne, zI_uI, zI_uJ, zI_uA, zI_uB, zI_uR, zI_uN, zJ_uI, zJ_uJ, zJ_uA, zJ_uB, zJ_uR, zJ_uN, zA_uI, zA_uJ, zA_uA, zA_uB, zA_uR, zA_uN, zB_uI, zB_uJ, zB_uA, zB_uB, zB_uR, zB_uN, zR_uI, zR_uJ, zR_uA, zR_uB, zR_uR, zR_uN, zN_uI, zN_uJ, zN_uA, zN_uB, zN_uR, zN_uN, zI_ne, zJ_ne, zA_ne, zB_ne, zR_ne, zN_ne, bi_T, bi_F, nz16, ↓reduceIte, not_true_eq_false, not_false_eq_true, Bool.false_eq_true, reduceCtorEq]
    · intro k a hk ha kb hkb
      show fX8_gapOfPlay_L4 _ _ _ _ (nI a) (nI k) = _
      unfold fX8_gapOfPlay_L4
      have h26 := hp.1
      by_cases hkn : k = pl.length
      · have e1 : (List.range pl.length).drop k = [] := List.drop_of_length_le (by rw [List.length_range]; omega)
        rw [e1, hkn]
        simp (disch := omega) only [l0, l1, l2, l3, l4, l5, l6, l7, l8, l9, l10, l11, l12, l16, l18, l19, l20, l21, l24, l96, l128, l100, l144, l200, l256, l288, l1536, l1728, l1800, bnd, nI_add, pk_mul, pI_sub, pI_m1, pT_le, pF_le, pT_lt, pF_lt, pT_eq, pF_eq, pF_m1, mF_eq, mT_eq, mT_lt, mF_le, lm1, rd_nI, wr_nI, cl_nI, pk_us, un_ne, pk_uLs, uL_ne, zI_uI, zI_uJ, zI_uA, zI_uB, zI_uR, zI_uN, zJ_uI, zJ_uJ, zJ_uA, zJ_uB, zJ_uR, zJ_uN, zA_uI, zA_uJ, zA_uA, zA_uB, zA_uR, zA_uN, zB_uI, zB_uJ, zB_uA, zB_uB, zB_uR, zB_uN, zR_uI, zR_uJ, zR_uA, zR_uB, zR_uR, zR_uN, zN_uI, zN_uJ, zN_uA, zN_uB, zN_uR, zN_uN, zI_ne, zJ_ne, zA_ne, zB_ne, zR_ne, zN_ne, bi_T, bi_F, nz16, ↓reduceIte, not_true_eq_false, not_false_eq_true, Bool.false_eq_true, reduceCtorEq, h26]
        unfold wrL
        split <;> rfl
      · have hgap := c_gap hg h.2.1 hp (k := k) (by omega)
        rw [rng_drop (by omega)]
        unfold wrL
        cases hb : isWr g pl k with
        | false =>
          rw [hb] at hgap
          have nx := hkb a (by omega) (by omega)
          simp (disch := omega) only [l0, l1, l2, l3, l4, l5, l6, l7, l8, l9, l10, l11, l12, l16, l18, l19, l20, l21, l24, l96, l128, l100, l144, l200, l256, l288, l1536, l1728, l1800, bnd, nI_add, pk_mul, pI_sub, pI_m1, pT_le, pF_le, pT_lt, pF_lt, pT_eq, pF_eq, pF_m1, mF_eq, mT_eq, mT_lt, mF_le, lm1, rd_nI, wr_nI, cl_nI, pk_us, un_ne, pk_uLs, uL_ne, zI_uI, zI_uJ, zI_uA, zI_uB, zI_uR, zI_uN, zJ_uI, zJ_uJ, zJ_uA, zJ_uB, zJ_uR, zJ_uN, zA_uI, zA_uJ, zA_uA, zA_uB, zA_uR, zA_uN, zB_uI, zB_uJ, zB_uA, zB_uB, zB_uR, zB_uN, zR_uI, zR_uJ, zR_uA, zR_uB, zR_uR, zR_uN, zN_uI, zN_uJ, zN_uA, zN_uB, zN_uR, zN_uN, zI_ne, zJ_ne, zA_ne, zB_ne, zR_ne, zN_ne, bi_T, bi_F, nz16, ↓reduceIte, not_true_eq_false, not_false_eq_true, Bool.false_eq_true, reduceCtorEq, h26, hgap]
          exact nx
        | true =>
          rw [hb] at hgap
          have nx := hkb (a + 1) (by omega) (by omega)
          by_cases hi : nI a = p
          · rw [if_pos rfl, if_pos hi]
            simp (disch := omega) only [l0, l1, l2, l3, l4, l5, l6, l7, l8, l9, l10, l11, l12, l16, l18, l19, l20, l21, l24, l96, l128, l100, l144, l200, l256, l288, l1536, l1728, l1800, bnd, nI_add, pk_mul, pI_sub, pI_m1, pT_le, pF_le, pT_lt, pF_lt, pT_eq, pF_eq, pF_m1, mF_eq, mT_eq, mT_lt, mF_le, lm1, rd_nI, wr_nI, cl_nI, pk_us, un_ne, pk_uLs, uL_ne, zI_uI, zI_uJ, zI_uA, zI_uB, zI_uR, zI_uN, zJ_uI, zJ_uJ, zJ_uA, zJ_uB, zJ_uR, zJ_uN, zA_uI, zA_uJ, zA_uA, zA_uB, zA_uR, zA_uN, zB_uI, zB_uJ, zB_uA, zB_uB, zB_uR, zB_uN, zR_uI, zR_uJ, zR_uA, zR_uB, zR_uR, zR_uN, zN_uI, zN_uJ, zN_uA, zN_uB, zN_uR, zN_uN, zI_ne, zJ_ne, zA_ne, zB_ne, zR_ne, zN_ne, bi_T, bi_F, nz16, ↓reduceIte, not_true_eq_false, not_false_eq_true, Bool.false_eq_true, reduceCtorEq, h26, hgap, hi]
          · have hi' : (nI a = p) = False := eq_false hi
            rw [if_pos rfl, if_neg hi]
            simp (disch := omega) only [l0, l1, l2, l3, l4, l5, l6, l7, l8, l9, l10, l11, l12, l16, l18, l19, l20, l21, l24, l96, l128, l100, l144, l200, l256, l288, l1536, l1728, l1800, bnd, nI_add, pk_mul, pI_sub, pI_m1, pT_le, pF_le, pT_lt, pF_lt, pT_eq, pF_eq, pF_m1, mF_eq, mT_eq, mT_lt, mF_le, lm1, rd_nI, wr_nI, cl_nI, pk_us, un_ne, pk_uLs, uL_ne, zI_uI, zI_uJ, zI_uA, zI_uB, zI_uR, zI_uN, zJ_uI, zJ_uJ, zJ_uA, zJ_uB, zJ_uR, zJ_uN, zA_uI, zA_uJ, zA_uA, zA_uB, zA_uR, zA_uN, zB_uI, zB_uJ, zB_uA, zB_uB, zB_uR, zB_uN, zR_uI, zR_uJ, zR_uA, zR_uB, zR_uR, zR_uN, zN_uI, zN_uJ, zN_uA, zN_uB, zN_uR, zN_uN, zI_ne, zJ_ne, zA_ne, zB_ne, zR_ne, zN_ne, bi_T, bi_F, nz16, ↓reduceIte, not_true_eq_false, not_false_eq_true, Bool.false_eq_true, reduceCtorEq, h26, hgap, hi']
            exact nx
  · show fX12_wrong σ p = _
    have key := it_for (β := Nat) (body := fun (kb : (Int32 × Int32) → Option (Int32 × St)) (x : Int32 × Int32) => fX12_wrong_L9 p (fun x3 => if p = mI then (some (x3, uI σ 30 (nI 0))) else (some (mI, uI σ 30 (nI 0)))) (fun v2 v3 => kb (v2, v3)) (uI σ 30 (nI 0)) x.1 x.2) pl.length (by omega) (fun k a => (nI a, nI k)) (fun k a => a ≤ k) (fun k a z => z = some (wrL (isWr g pl) p ((List.range pl.length).drop k) a, uI σ 30 (nI 0))) ?_ 0 0 (Nat.zero_le _) (Nat.le_refl _)
    · unfold fX12_wrong
      rw [List.drop_zero] at key
      simp (disch := omega) only [l0, l1, l2, l3, l4, l5, l6, l7, l8, l9, l10, l11, l12, l16, l18, l19, l20, l21, l24, l96, l128, l100, l144, l200, l256, l288, l1536, l1728, l1800, bnd, nI_add, pk_mul, pI_sub, pI_m1, pT_le, pF_le, pT_lt, pF_lt, pT_eq, pF_eq, pF_m1, mF_eq, mT_eq, mT_lt, mF_le, lm1, rd_nI, wr_nI, cl_nI, pk_us, un_ne, pk_uLs, uL_ne, zI_uI, zI_uJ, zI_uA, zI_uB, zI_uR, zI_uN, zJ_uI, zJ_uJ, zJ_uA, zJ_uB, zJ_uR, zJ_uN, zA_uI, zA_uJ, zA_uA, zA_uB, zA_uR, zA_uN, zB_uI, zB_uJ, zB_uA, zB_uB, zB_uR, zB_uN, zR_uI, zR_uJ, zR_uA, zR_uB, zR_uR, zR_uN, zN_uI, zN_uJ, zN_uA, zN_uB, zN_uR, zN_uN, zI_ne, zJ_ne, zA_ne, zB_ne, zR_ne, zN_ne, bi_T, bi_F, nz16, ↓reduceIte, not_true_eq_false, not_false_eq_true, Bool.false_eq_true, reduceCtorEq]
      exact key
    · intro k a hk ha kb hkb
      show fX12_wrong_L9 _ _ _ _ (nI a) (nI k) = _
      unfold fX12_wrong_L9
      have h48 := hp3.2.1
      by_cases hkn : k = pl.length
      · have e1 : (List.range pl.length).drop k = [] := List.drop_of_length_le (by rw [List.length_range]; omega)
        rw [e1, hkn, h48, if_pos (nI_le (Nat.le_refl _) (by omega))]
        unfold wrL
        split <;> rfl
      · have hgap := m_gap hg h3.2.2.1 hp3 (k := k) (by omega)
        rw [rng_drop (by omega), h48, if_neg (nI_ge (by omega) (by omega))]
        unfold wrL
        cases hb : isWr g pl k with
        | false =>
          rw [hb] at hgap
          have nx := hkb a (by omega) (by omega)
          simp (disch := omega) only [l0, l1, l2, l3, l4, l5, l6, l7, l8, l9, l10, l11, l12, l16, l18, l19, l20, l21, l24, l96, l128, l100, l144, l200, l256, l288, l1536, l1728, l1800, bnd, nI_add, pk_mul, pI_sub, pI_m1, pT_le, pF_le, pT_lt, pF_lt, pT_eq, pF_eq, pF_m1, mF_eq, mT_eq, mT_lt, mF_le, lm1, rd_nI, wr_nI, cl_nI, pk_us, un_ne, pk_uLs, uL_ne, zI_uI, zI_uJ, zI_uA, zI_uB, zI_uR, zI_uN, zJ_uI, zJ_uJ, zJ_uA, zJ_uB, zJ_uR, zJ_uN, zA_uI, zA_uJ, zA_uA, zA_uB, zA_uR, zA_uN, zB_uI, zB_uJ, zB_uA, zB_uB, zB_uR, zB_uN, zR_uI, zR_uJ, zR_uA, zR_uB, zR_uR, zR_uN, zN_uI, zN_uJ, zN_uA, zN_uB, zN_uR, zN_uN, zI_ne, zJ_ne, zA_ne, zB_ne, zR_ne, zN_ne, bi_T, bi_F, nz16, ↓reduceIte, not_true_eq_false, not_false_eq_true, Bool.false_eq_true, reduceCtorEq, hgap]
          exact nx
        | true =>
          rw [hb] at hgap
          have nx := hkb (a + 1) (by omega) (by omega)
          by_cases hi : nI a = p
          · rw [if_pos rfl, if_pos hi]
            simp (disch := omega) only [l0, l1, l2, l3, l4, l5, l6, l7, l8, l9, l10, l11, l12, l16, l18, l19, l20, l21, l24, l96, l128, l100, l144, l200, l256, l288, l1536, l1728, l1800, bnd, nI_add, pk_mul, pI_sub, pI_m1, pT_le, pF_le, pT_lt, pF_lt, pT_eq, pF_eq, pF_m1, mF_eq, mT_eq, mT_lt, mF_le, lm1, rd_nI, wr_nI, cl_nI, pk_us, un_ne, pk_uLs, uL_ne, zI_uI, zI_uJ, zI_uA, zI_uB, zI_uR, zI_uN, zJ_uI, zJ_uJ, zJ_uA, zJ_uB, zJ_uR, zJ_uN, zA_uI, zA_uJ, zA_uA, zA_uB, zA_uR, zA_uN, zB_uI, zB_uJ, zB_uA, zB_uB, zB_uR, zB_uN, zR_uI, zR_uJ, zR_uA, zR_uB, zR_uR, zR_uN, zN_uI, zN_uJ, zN_uA, zN_uB, zN_uR, zN_uN, zI_ne, zJ_ne, zA_ne, zB_ne, zR_ne, zN_ne, bi_T, bi_F, nz16, ↓reduceIte, not_true_eq_false, not_false_eq_true, Bool.false_eq_true, reduceCtorEq, hgap, hi]
          · have hi' : (nI a = p) = False := eq_false hi
            rw [if_pos rfl, if_neg hi]
            simp (disch := omega) only [l0, l1, l2, l3, l4, l5, l6, l7, l8, l9, l10, l11, l12, l16, l18, l19, l20, l21, l24, l96, l128, l100, l144, l200, l256, l288, l1536, l1728, l1800, bnd, nI_add, pk_mul, pI_sub, pI_m1, pT_le, pF_le, pT_lt, pF_lt, pT_eq, pF_eq, pF_m1, mF_eq, mT_eq, mT_lt, mF_le, lm1, rd_nI, wr_nI, cl_nI, pk_us, un_ne, pk_uLs, uL_ne, zI_uI, zI_uJ, zI_uA, zI_uB, zI_uR, zI_uN, zJ_uI, zJ_uJ, zJ_uA, zJ_uB, zJ_uR, zJ_uN, zA_uI, zA_uJ, zA_uA, zA_uB, zA_uR, zA_uN, zB_uI, zB_uJ, zB_uA, zB_uB, zB_uR, zB_uN, zR_uI, zR_uJ, zR_uA, zR_uB, zR_uR, zR_uN, zN_uI, zN_uJ, zN_uA, zN_uB, zN_uR, zN_uN, zI_ne, zJ_ne, zA_ne, zB_ne, zR_ne, zN_ne, bi_T, bi_F, nz16, ↓reduceIte, not_true_eq_false, not_false_eq_true, Bool.false_eq_true, reduceCtorEq, hgap, hi']
            exact nx
/-! the rehearsal: who waits where (w), who is ready (R, as bits) -/
def rbC (g : Gh) (t : Nat) (w : Nat → Nat) (r s o : Nat) : Bool := (decide (o ≠ r) && t.testBit o) && (decide (w o < gS g o) && eg g (16 * o + w o) s)
def rbF (C : Nat → Bool) (a o : Nat) : Nat := if C o = true then a ||| 2 ^ o else a
def rb (C : Nat → Bool) : Nat := (List.range 8).foldl (rbF C) 0
def up (w : Nat → Nat) (r v : Nat) : Nat → Nat := fun k => if k = r then v else w k
def low (R : Nat) : Option Nat := (List.range 8).find? (fun r => R.testBit r)
def run (g : Gh) (t : Nat) : Nat → (Nat → Nat) → Nat → List Nat
  | 0, _, _ => []
  | n + 1, w, R => match low R with
    | none => []
    | some r => (16 * r + w r) :: run g t n (up w r (w r + 1)) (oth R r ||| rb (rbC g t (up w r (w r + 1)) r (16 * r + w r)))
theorem run_0 (g : Gh) (t : Nat) (w : Nat → Nat) (R : Nat) : run g t 0 w R = [] := rfl
theorem run_n {g : Gh} {t : Nat} (n : Nat) {w : Nat → Nat} {R : Nat} (h : low R = none) : run g t n w R = [] := by
  cases n with
  | zero => rfl
  | succ n => unfold run; rw [h]
theorem run_s {g : Gh} {t n : Nat} {w : Nat → Nat} {R r : Nat} (h : low R = some r) : run g t (n + 1) w R = (16 * r + w r) :: run g t n (up w r (w r + 1)) (oth R r ||| rb (rbC g t (up w r (w r + 1)) r (16 * r + w r))) := by
  rw [run, h]
theorem rbF_bits (C : Nat → Bool) : ∀ n, n ≤ 8 → (List.range n).foldl (rbF C) 0 < 256 ∧ ∀ i, ((List.range n).foldl (rbF C) 0).testBit i = (decide (i < n) && C i) := by
  intro n
  induction n with
  | zero =>
    intro _
    refine ⟨show (0 : Nat) < 256 by decide, fun i => ?_⟩
    rw [List.range_zero, List.foldl_nil, Nat.zero_testBit, decide_eq_false (Nat.not_lt_zero i), Bool.false_and]
  | succ n ih =>
    intro hn
    obtain ⟨h1, h2⟩ := ih (by omega)
    rw [List.range_succ, List.foldl_append, List.foldl_cons, List.foldl_nil]
    unfold rbF at h1 h2 ⊢
    by_cases hc : C n = true
    · rw [if_pos hc]
      refine ⟨or_lt h1 (by omega), fun i => ?_⟩
      rw [or_bit, h2]
      by_cases e : i = n
      · subst e
        rw [hc, decide_eq_true rfl, decide_eq_true (Nat.lt_succ_self i)]
        simp
      · rw [decide_eq_false e, Bool.or_false]
        congr 1
        exact dec_iff (by omega)
    · rw [if_neg hc]
      refine ⟨h1, fun i => ?_⟩
      rw [h2]
      by_cases e : i = n
      · subst e
        have hc2 : C i = false := by
          cases h : C i with
          | false => rfl
          | true => exact absurd h hc
        rw [hc2, Bool.and_false, Bool.and_false]
      · congr 1
        exact dec_iff (by omega)
theorem rb_lt (C : Nat → Bool) : rb C < 256 := (rbF_bits C 8 (Nat.le_refl _)).1
theorem rb_bit (C : Nat → Bool) {i : Nat} (hi : i < 8) : (rb C).testBit i = C i := by
  rw [rb, (rbF_bits C 8 (Nat.le_refl _)).2 i, decide_eq_true hi, Bool.true_and]
theorem low_none {R : Nat} (hR : R < 256) : low R = none ↔ R = 0 := by
  unfold low
  rw [List.find?_eq_none]
  constructor
  · intro h
    apply Nat.eq_of_testBit_eq
    intro i
    rw [Nat.zero_testBit]
    by_cases hi : i < 8
    · have := h i (List.mem_range.mpr hi)
      simpa using this
    · exact Nat.testBit_lt_two_pow (Nat.lt_of_lt_of_le hR (show 2 ^ 8 ≤ 2 ^ i from Nat.pow_le_pow_right (by decide) (by omega)))
  · intro h r _
    rw [h, Nat.zero_testBit]
    decide
theorem low_some {R r : Nat} (h : low R = some r) : r < 8 ∧ R.testBit r = true := by
  unfold low at h
  have h1 := List.mem_of_find?_eq_some h
  have h2 := List.find?_some h
  exact ⟨List.mem_range.mp h1, h2⟩
theorem c_low {R : Nat} (hR : R < 256) (h0 : R ≠ 0) : ∃ r, low R = some r ∧ fX8_lowest (nI R) = some (nI r) := by
  have hn : low R ≠ none := fun e => h0 ((low_none hR).mp e)
  obtain ⟨r, hr⟩ : ∃ r, low R = some r := by
    cases h : low R with
    | none => exact absurd h hn
    | some r => exact ⟨r, rfl⟩
  refine ⟨r, hr, ?_⟩
  unfold fX8_lowest
  have key := it_for (β := Unit) (body := fun (kb : Int32 → Option Int32) (x : Int32) => fX8_lowest_L2 (nI R) (fun v1 => kb v1) x) 8 (by omega) (fun k _ => nI k) (fun k _ => ((List.range 8).drop k).find? (fun r => R.testBit r) = some r) (fun k _ z => z = some (nI r)) ?_ 0 () (Nat.zero_le _) hr
  · exact key
  · intro k _ hk hf kb hkb
    show fX8_lowest_L2 _ _ (nI k) = _
    unfold fX8_lowest_L2
    by_cases hk8 : k = 8
    · have e1 : (List.range 8).drop k = [] := List.drop_of_length_le (by rw [List.length_range]; omega)
      rw [e1] at hf
      cases hf
    · rw [rng_drop (by omega)] at hf
      have hin := c_isIn (t := R) (r := k) (by omega) (by omega)
      rw [decide_eq_true (show k < 8 by omega), Bool.true_and] at hin
      cases hb : R.testBit k with
      | true =>
        rw [List.find?_cons_of_pos (by rw [hb])] at hf
        rw [hb] at hin
        cases hf
        simp (disch := omega) only [l0, l1, l2, l3, l4, l5, l6, l7, l8, l9, l10, l11, l12, l16, l18, l19, l20, l21, l24, l96, l128, l100, l144, l200, l256, l288, l1536, l1728, l1800, bnd, nI_add, pk_mul, pI_sub, pI_m1, pT_le, pF_le, pT_lt, pF_lt, pT_eq, pF_eq, pF_m1, mF_eq, mT_eq, mT_lt, mF_le, lm1, rd_nI, wr_nI, cl_nI, pk_us, un_ne, pk_uLs, uL_ne, zI_uI, zI_uJ, zI_uA, zI_uB, zI_uR, zI_uN, zJ_uI, zJ_uJ, zJ_uA, zJ_uB, zJ_uR, zJ_uN, zA_uI, zA_uJ, zA_uA, zA_uB, zA_uR, zA_uN, zB_uI, zB_uJ, zB_uA, zB_uB, zB_uR, zB_uN, zR_uI, zR_uJ, zR_uA, zR_uB, zR_uR, zR_uN, zN_uI, zN_uJ, zN_uA, zN_uB, zN_uR, zN_uN, zI_ne, zJ_ne, zA_ne, zB_ne, zR_ne, zN_ne, bi_T, bi_F, nz16, ↓reduceIte, not_true_eq_false, not_false_eq_true, Bool.false_eq_true, reduceCtorEq, hin]
      | false =>
        rw [List.find?_cons_of_neg (by rw [hb]; decide)] at hf
        rw [hb] at hin
        simp (disch := omega) only [l0, l1, l2, l3, l4, l5, l6, l7, l8, l9, l10, l11, l12, l16, l18, l19, l20, l21, l24, l96, l128, l100, l144, l200, l256, l288, l1536, l1728, l1800, bnd, nI_add, pk_mul, pI_sub, pI_m1, pT_le, pF_le, pT_lt, pF_lt, pT_eq, pF_eq, pF_m1, mF_eq, mT_eq, mT_lt, mF_le, lm1, rd_nI, wr_nI, cl_nI, pk_us, un_ne, pk_uLs, uL_ne, zI_uI, zI_uJ, zI_uA, zI_uB, zI_uR, zI_uN, zJ_uI, zJ_uJ, zJ_uA, zJ_uB, zJ_uR, zJ_uN, zA_uI, zA_uJ, zA_uA, zA_uB, zA_uR, zA_uN, zB_uI, zB_uJ, zB_uA, zB_uB, zB_uR, zB_uN, zR_uI, zR_uJ, zR_uA, zR_uB, zR_uR, zR_uN, zN_uI, zN_uJ, zN_uA, zN_uB, zN_uR, zN_uN, zI_ne, zJ_ne, zA_ne, zB_ne, zR_ne, zN_ne, bi_T, bi_F, nz16, ↓reduceIte, not_true_eq_false, not_false_eq_true, Bool.false_eq_true, reduceCtorEq, hin]
        exact hkb () (by omega) hf
