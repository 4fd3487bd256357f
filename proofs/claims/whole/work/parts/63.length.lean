/-! length -/
theorem m_sameCue {σ : St} {g : Gh} (hg : okG g) (hj : JM σ g) {s o : Nat} (h : vd g s = true) (ho : vd g o = true) : fX12_isSameCue σ (nI s) (nI o) = some (decide (gC g s = gC g o)) := by
  have ls := vd_lt hg h
  have lo := vd_lt hg ho
  have k1 := (vd_ok hg h).1
  have k2 := (vd_ok hg ho).1
  have a1 := (hj.2.2 s h).1
  have a2 := (hj.2.2 o ho).1
  unfold fX12_isSameCue
  by_cases hl : (gC g s).length = (gC g o).length
  · have key := it_for (β := Unit) (body := fun (kb : Int32 → Option Bool) (x : Int32) => fX12_isSameCue_L19 (nI s) (nI o) (fun v3 => kb v3) σ x) (gC g s).length (by omega) (fun k _ => nI k) (fun _ _ => True) (fun k _ r => r = some (decide (∀ j, j < (gC g s).length → k ≤ j → (gC g s).getD j [] = (gC g o).getD j []))) ?_ 0 () (Nat.zero_le _) trivial
    · simp (disch := omega) only [l0, l1, l2, l3, l4, l5, l6, l7, l8, l9, l10, l11, l12, l16, l18, l19, l20, l21, l24, l96, l128, l100, l144, l200, l256, l288, l1536, l1728, l1800, bnd, nI_add, pk_mul, pI_sub, pI_m1, pT_le, pF_le, pT_lt, pF_lt, pT_eq, pF_eq, pF_m1, mF_eq, mT_eq, mT_lt, mF_le, lm1, rd_nI, wr_nI, cl_nI, pk_us, un_ne, pk_uLs, uL_ne, zI_uI, zI_uJ, zI_uA, zI_uB, zI_uR, zI_uN, zJ_uI, zJ_uJ, zJ_uA, zJ_uB, zJ_uR, zJ_uN, zA_uI, zA_uJ, zA_uA, zA_uB, zA_uR, zA_uN, zB_uI, zB_uJ, zB_uA, zB_uB, zB_uR, zB_uN, zR_uI, zR_uJ, zR_uA, zR_uB, zR_uR, zR_uN, zN_uI, zN_uJ, zN_uA, zN_uB, zN_uR, zN_uN, zI_ne, zJ_ne, zA_ne, zB_ne, zR_ne, zN_ne, bi_T, bi_F, nz16, ↓reduceIte, not_true_eq_false, not_false_eq_true, Bool.false_eq_true, reduceCtorEq, a1, a2, hl]
      refine Eq.trans ?_ (key.trans (congrArg some (dec_iff ?_)))
      · rfl
      · constructor
        · intro x
          apply List.ext_getElem hl
          intro i h1 h2
          have := x i h1 (Nat.zero_le _)
          rw [List.getD_eq_getElem?_getD, List.getD_eq_getElem?_getD, List.getElem?_eq_getElem h1, List.getElem?_eq_getElem h2] at this
          exact this
        · intro x j _ _
          rw [x]
    · intro k _ hk _ kb hkb
      show fX12_isSameCue_L19 _ _ _ _ (nI k) = _
      unfold fX12_isSameCue_L19
      by_cases hkn : k = (gC g s).length
      · rw [hkn]
        simp (disch := omega) only [l0, l1, l2, l3, l4, l5, l6, l7, l8, l9, l10, l11, l12, l16, l18, l19, l20, l21, l24, l96, l128, l100, l144, l200, l256, l288, l1536, l1728, l1800, bnd, nI_add, pk_mul, pI_sub, pI_m1, pT_le, pF_le, pT_lt, pF_lt, pT_eq, pF_eq, pF_m1, mF_eq, mT_eq, mT_lt, mF_le, lm1, rd_nI, wr_nI, cl_nI, pk_us, un_ne, pk_uLs, uL_ne, zI_uI, zI_uJ, zI_uA, zI_uB, zI_uR, zI_uN, zJ_uI, zJ_uJ, zJ_uA, zJ_uB, zJ_uR, zJ_uN, zA_uI, zA_uJ, zA_uA, zA_uB, zA_uR, zA_uN, zB_uI, zB_uJ, zB_uA, zB_uB, zB_uR, zB_uN, zR_uI, zR_uJ, zR_uA, zR_uB, zR_uR, zR_uN, zN_uI, zN_uJ, zN_uA, zN_uB, zN_uR, zN_uN, zI_ne, zJ_ne, zA_ne, zB_ne, zR_ne, zN_ne, bi_T, bi_F, nz16, ↓reduceIte, not_true_eq_false, not_false_eq_true, Bool.false_eq_true, reduceCtorEq, a1]
        exact congrArg some (decide_eq_true (fun j h1 h2 => by omega)).symm
      · obtain ⟨f1, p1, p2, p3, p4⟩ := (hj.2.2 s h).2.2.1 k (by omega)
        obtain ⟨f2, q1, q2, q3, q4⟩ := (hj.2.2 o ho).2.2.1 k (by omega)
        have oa : okL ((gC g s).getD k []) := okL_at (vd_ok hg h).2.2.2.1 k
        have ob : okL ((gC g o).getD k []) := okL_at (vd_ok hg ho).2.2.2.1 k
        have nx := hkb () (by omega) trivial
        have split : decide (∀ j, j < (gC g s).length → k ≤ j → (gC g s).getD j [] = (gC g o).getD j []) = (decide ((gC g s).getD k [] = (gC g o).getD k []) && decide (∀ j, j < (gC g s).length → k + 1 ≤ j → (gC g s).getD j [] = (gC g o).getD j [])) := by
          rw [← Bool.decide_and]
          apply dec_iff
          constructor
          · intro x
            exact ⟨x k (by omega) (Nat.le_refl _), fun j h1 h2 => x j h1 (by omega)⟩
          · rintro ⟨x1, x2⟩ j h1 h2
            by_cases e : j = k
            · rw [e]; exact x1
            · exact x2 j h1 (by omega)
        rw [split]
        generalize hA : (gC g s).getD k [] = A at *
        generalize hB : (gC g o).getD k [] = B at *
        have oa1 := oa.1
        have ob1 := ob.1
        by_cases hlw : A.length = B.length
        · have inner := it_for (β := Unit) (body := fun (kb' : Int32 → Option Bool) (x : Int32) => fX12_isSameCue_L57 (nI s) (nI o) (nI k) (fun _u => kb (nI (k + 1))) (fun v4 => kb' v4) σ x) A.length (by omega) (fun i _ => nI i) (fun _ _ => True) (fun i _ r => r = if (∀ j, j < A.length → i ≤ j → A.getD j 0 = B.getD j 0) then kb (nI (k + 1)) else some false) ?_ 0 () (Nat.zero_le _) trivial
          · have e0 : (∀ j, j < A.length → 0 ≤ j → A.getD j 0 = B.getD j 0) ↔ A = B := by
              constructor
              · intro x
                apply List.ext_getElem hlw
                intro i h1 h2
                have := x i h1 (Nat.zero_le _)
                rw [List.getD_eq_getElem?_getD, List.getD_eq_getElem?_getD, List.getElem?_eq_getElem h1, List.getElem?_eq_getElem h2] at this
                exact this
              · intro x j _ _
                rw [x]
            simp (disch := omega) only [l0, l1, l2, l3, l4, l5, l6, l7, l8, l9, l10, l11, l12, l16, l18, l19, l20, l21, l24, l96, l128, l100, l144, l200, l256, l288, l1536, l1728, l1800, bnd, nI_add, pk_mul, pI_sub, pI_m1, pT_le, pF_le, pT_lt, pF_lt, pT_eq, pF_eq, pF_m1, mF_eq, mT_eq, mT_lt, mF_le, lm1, rd_nI, wr_nI, cl_nI, pk_us, un_ne, pk_uLs, uL_ne, zI_uI, zI_uJ, zI_uA, zI_uB, zI_uR, zI_uN, zJ_uI, zJ_uJ, zJ_uA, zJ_uB, zJ_uR, zJ_uN, zA_uI, zA_uJ, zA_uA, zA_uB, zA_uR, zA_uN, zB_uI, zB_uJ, zB_uA, zB_uB, zB_uR, zB_uN, zR_uI, zR_uJ, zR_uA, zR_uB, zR_uR, zR_uN, zN_uI, zN_uJ, zN_uA, zN_uB, zN_uR, zN_uN, zI_ne, zJ_ne, zA_ne, zB_ne, zR_ne, zN_ne, bi_T, bi_F, nz16, ↓reduceIte, not_true_eq_false, not_false_eq_true, Bool.false_eq_true, reduceCtorEq, a1, p3, q3, hlw]
            refine (show fX12_isSameCue_P57 (nI s) (nI o) (nI k) (fun _u => kb (nI (k + 1))) σ (nI 0) = _ from inner).trans ?_
            by_cases hAB : A = B
            · rw [if_pos (e0.mpr hAB), decide_eq_true hAB, Bool.true_and]
              exact nx
            · rw [if_neg (fun x => hAB (e0.mp x)), decide_eq_false hAB, Bool.false_and]
          · intro i _ hi _ kb' hkb'
            show fX12_isSameCue_L57 _ _ _ _ _ _ (nI i) = _
            unfold fX12_isSameCue_L57
            by_cases hin : i = A.length
            · rw [hin]
              simp (disch := omega) only [l0, l1, l2, l3, l4, l5, l6, l7, l8, l9, l10, l11, l12, l16, l18, l19, l20, l21, l24, l96, l128, l100, l144, l200, l256, l288, l1536, l1728, l1800, bnd, nI_add, pk_mul, pI_sub, pI_m1, pT_le, pF_le, pT_lt, pF_lt, pT_eq, pF_eq, pF_m1, mF_eq, mT_eq, mT_lt, mF_le, lm1, rd_nI, wr_nI, cl_nI, pk_us, un_ne, pk_uLs, uL_ne, zI_uI, zI_uJ, zI_uA, zI_uB, zI_uR, zI_uN, zJ_uI, zJ_uJ, zJ_uA, zJ_uB, zJ_uR, zJ_uN, zA_uI, zA_uJ, zA_uA, zA_uB, zA_uR, zA_uN, zB_uI, zB_uJ, zB_uA, zB_uB, zB_uR, zB_uN, zR_uI, zR_uJ, zR_uA, zR_uB, zR_uR, zR_uN, zN_uI, zN_uJ, zN_uA, zN_uB, zN_uR, zN_uN, zI_ne, zJ_ne, zA_ne, zB_ne, zR_ne, zN_ne, bi_T, bi_F, nz16, ↓reduceIte, not_true_eq_false, not_false_eq_true, Bool.false_eq_true, reduceCtorEq, p3]
              rw [if_pos (fun j h1 h2 => by omega)]
            · have c1 := m_letter (σ := σ) ls (j := f1 + i) (by omega) (p4 i (by omega))
              have c2 := m_letter (σ := σ) lo (j := f2 + i) (by omega) (q4 i (by omega))
              have d1 := oa.2 _ (getD_mem (l := A) (k := i) (d := 0) (by omega))
              have d2 := ob.2 _ (getD_mem (l := B) (k := i) (d := 0) (by omega))
              by_cases he : A.getD i 0 = B.getD i 0
              · have he2 : 96 + A.getD i 0 = 96 + B.getD i 0 := by rw [he]
                have nx' := hkb' () (by omega) trivial
                have e1 : (∀ j, j < A.length → i ≤ j → A.getD j 0 = B.getD j 0) ↔ (∀ j, j < A.length → i + 1 ≤ j → A.getD j 0 = B.getD j 0) := by
                  constructor
                  · intro x j h1 h2
                    exact x j h1 (by omega)
                  · intro x j h1 h2
                    by_cases hjk : j = i
                    · rw [hjk]; exact he
                    · exact x j h1 (by omega)
                simp (disch := omega) only [l0, l1, l2, l3, l4, l5, l6, l7, l8, l9, l10, l11, l12, l16, l18, l19, l20, l21, l24, l96, l128, l100, l144, l200, l256, l288, l1536, l1728, l1800, bnd, nI_add, pk_mul, pI_sub, pI_m1, pT_le, pF_le, pT_lt, pF_lt, pT_eq, pF_eq, pF_m1, mF_eq, mT_eq, mT_lt, mF_le, lm1, rd_nI, wr_nI, cl_nI, pk_us, un_ne, pk_uLs, uL_ne, zI_uI, zI_uJ, zI_uA, zI_uB, zI_uR, zI_uN, zJ_uI, zJ_uJ, zJ_uA, zJ_uB, zJ_uR, zJ_uN, zA_uI, zA_uJ, zA_uA, zA_uB, zA_uR, zA_uN, zB_uI, zB_uJ, zB_uA, zB_uB, zB_uR, zB_uN, zR_uI, zR_uJ, zR_uA, zR_uB, zR_uR, zR_uN, zN_uI, zN_uJ, zN_uA, zN_uB, zN_uR, zN_uN, zI_ne, zJ_ne, zA_ne, zB_ne, zR_ne, zN_ne, bi_T, bi_F, nz16, ↓reduceIte, not_true_eq_false, not_false_eq_true, Bool.false_eq_true, reduceCtorEq, p3, p2, q2, c1, c2, he2]
                rw [nx']
                by_cases hc : (∀ j, j < A.length → i ≤ j → A.getD j 0 = B.getD j 0)
                · rw [if_pos hc, if_pos (e1.mp hc)]
                · rw [if_neg hc, if_neg (fun x => hc (e1.mpr x))]
              · have hne : (nI (96 + A.getD i 0) = nI (96 + B.getD i 0)) = False := pF_eq (by omega) (by omega) (by omega)
                simp (disch := omega) only [l0, l1, l2, l3, l4, l5, l6, l7, l8, l9, l10, l11, l12, l16, l18, l19, l20, l21, l24, l96, l128, l100, l144, l200, l256, l288, l1536, l1728, l1800, bnd, nI_add, pk_mul, pI_sub, pI_m1, pT_le, pF_le, pT_lt, pF_lt, pT_eq, pF_eq, pF_m1, mF_eq, mT_eq, mT_lt, mF_le, lm1, rd_nI, wr_nI, cl_nI, pk_us, un_ne, pk_uLs, uL_ne, zI_uI, zI_uJ, zI_uA, zI_uB, zI_uR, zI_uN, zJ_uI, zJ_uJ, zJ_uA, zJ_uB, zJ_uR, zJ_uN, zA_uI, zA_uJ, zA_uA, zA_uB, zA_uR, zA_uN, zB_uI, zB_uJ, zB_uA, zB_uB, zB_uR, zB_uN, zR_uI, zR_uJ, zR_uA, zR_uB, zR_uR, zR_uN, zN_uI, zN_uJ, zN_uA, zN_uB, zN_uR, zN_uN, zI_ne, zJ_ne, zA_ne, zB_ne, zR_ne, zN_ne, bi_T, bi_F, nz16, ↓reduceIte, not_true_eq_false, not_false_eq_true, Bool.false_eq_true, reduceCtorEq, p3, p2, q2, c1, c2, hne]
                rw [if_neg (fun x => he (x i (by omega) (Nat.le_refl _)))]
        · have hne : (nI A.length = nI B.length) = False := pF_eq hlw (by omega) (by omega)
          have hAB : ¬ A = B := fun e => hlw (by rw [e])
          rw [decide_eq_false hAB, Bool.false_and]
          simp (disch := omega) only [l0, l1, l2, l3, l4, l5, l6, l7, l8, l9, l10, l11, l12, l16, l18, l19, l20, l21, l24, l96, l128, l100, l144, l200, l256, l288, l1536, l1728, l1800, bnd, nI_add, pk_mul, pI_sub, pI_m1, pT_le, pF_le, pT_lt, pF_lt, pT_eq, pF_eq, pF_m1, mF_eq, mT_eq, mT_lt, mF_le, lm1, rd_nI, wr_nI, cl_nI, pk_us, un_ne, pk_uLs, uL_ne, zI_uI, zI_uJ, zI_uA, zI_uB, zI_uR, zI_uN, zJ_uI, zJ_uJ, zJ_uA, zJ_uB, zJ_uR, zJ_uN, zA_uI, zA_uJ, zA_uA, zA_uB, zA_uR, zA_uN, zB_uI, zB_uJ, zB_uA, zB_uB, zB_uR, zB_uN, zR_uI, zR_uJ, zR_uA, zR_uB, zR_uR, zR_uN, zN_uI, zN_uJ, zN_uA, zN_uB, zN_uR, zN_uN, zI_ne, zJ_ne, zA_ne, zB_ne, zR_ne, zN_ne, bi_T, bi_F, nz16, ↓reduceIte, not_true_eq_false, not_false_eq_true, Bool.false_eq_true, reduceCtorEq, a1, p3, q3, hne]
  · have hne : (nI (gC g s).length = nI (gC g o).length) = False := pF_eq hl (by omega) (by omega)
    have hAB : ¬ gC g s = gC g o := fun e => hl (by rw [e])
    rw [decide_eq_false hAB]
    simp (disch := omega) only [l0, l1, l2, l3, l4, l5, l6, l7, l8, l9, l10, l11, l12, l16, l18, l19, l20, l21, l24, l96, l128, l100, l144, l200, l256, l288, l1536, l1728, l1800, bnd, nI_add, pk_mul, pI_sub, pI_m1, pT_le, pF_le, pT_lt, pF_lt, pT_eq, pF_eq, pF_m1, mF_eq, mT_eq, mT_lt, mF_le, lm1, rd_nI, wr_nI, cl_nI, pk_us, un_ne, pk_uLs, uL_ne, zI_uI, zI_uJ, zI_uA, zI_uB, zI_uR, zI_uN, zJ_uI, zJ_uJ, zJ_uA, zJ_uB, zJ_uR, zJ_uN, zA_uI, zA_uJ, zA_uA, zA_uB, zA_uR, zA_uN, zB_uI, zB_uJ, zB_uA, zB_uB, zB_uR, zB_uN, zR_uI, zR_uJ, zR_uA, zR_uB, zR_uR, zR_uN, zN_uI, zN_uJ, zN_uA, zN_uB, zN_uR, zN_uN, zI_ne, zJ_ne, zA_ne, zB_ne, zR_ne, zN_ne, bi_T, bi_F, nz16, ↓reduceIte, not_true_eq_false, not_false_eq_true, Bool.false_eq_true, reduceCtorEq, a1, a2, hne]
theorem c_alike {σ : St} {g : Gh} (hg : okG g) (hj : JC σ g) {s o : Nat} (h : vd g s = true) (ho : vd g o = true) : fX0_alike σ (nI s) (nI o) = some (decide (gC g s = gC g o)) := by
  have k1 := (vd_ok hg h).1
  have k2 := (vd_ok hg ho).1
  unfold fX0_alike
  by_cases hl : (gC g s).length = (gC g o).length
  · have key := it_for (β := Unit) (body := fun (kb : Int32 → Option Bool) (x : Int32) => fX0_alike_L26 (nI s) (nI o) (nI (gC g o).length) (fun v4 => kb v4) σ x) (gC g o).length (by omega) (fun k _ => nI k) (fun _ _ => True) (fun k _ r => r = some (decide (∀ j, j < (gC g o).length → k ≤ j → (gC g s).getD j [] = (gC g o).getD j []))) ?_ 0 () (Nat.zero_le _) trivial
    · simp (disch := omega) only [l0, l1, l2, l3, l4, l5, l6, l7, l8, l9, l10, l11, l12, l16, l18, l19, l20, l21, l24, l96, l128, l100, l144, l200, l256, l288, l1536, l1728, l1800, bnd, nI_add, pk_mul, pI_sub, pI_m1, pT_le, pF_le, pT_lt, pF_lt, pT_eq, pF_eq, pF_m1, mF_eq, mT_eq, mT_lt, mF_le, lm1, rd_nI, wr_nI, cl_nI, pk_us, un_ne, pk_uLs, uL_ne, zI_uI, zI_uJ, zI_uA, zI_uB, zI_uR, zI_uN, zJ_uI, zJ_uJ, zJ_uA, zJ_uB, zJ_uR, zJ_uN, zA_uI, zA_uJ, zA_uA, zA_uB, zA_uR, zA_uN, zB_uI, zB_uJ, zB_uA, zB_uB, zB_uR, zB_uN, zR_uI, zR_uJ, zR_uA, zR_uB, zR_uR, zR_uN, zN_uI, zN_uJ, zN_uA, zN_uB, zN_uR, zN_uN, zI_ne, zJ_ne, zA_ne, zB_ne, zR_ne, zN_ne, bi_T, bi_F, nz16, ↓reduceIte, not_true_eq_false, not_false_eq_true, Bool.false_eq_true, reduceCtorEq, c_cw hg hj h, c_cw hg hj ho, hl]
      refine Eq.trans ?_ (key.trans (congrArg some (dec_iff ?_)))
      · rfl
      · constructor
        · intro x
          apply List.ext_getElem hl
          intro i h1 h2
          have := x i h2 (Nat.zero_le _)
          rw [List.getD_eq_getElem?_getD, List.getD_eq_getElem?_getD, List.getElem?_eq_getElem h1, List.getElem?_eq_getElem h2] at this
          exact this
        · intro x j _ _
          rw [x]
    · intro k _ hk _ kb hkb
      show fX0_alike_L26 _ _ _ _ _ (nI k) = _
      unfold fX0_alike_L26
      by_cases hkn : k = (gC g o).length
      · rw [hkn]
        simp (disch := omega) only [l0, l1, l2, l3, l4, l5, l6, l7, l8, l9, l10, l11, l12, l16, l18, l19, l20, l21, l24, l96, l128, l100, l144, l200, l256, l288, l1536, l1728, l1800, bnd, nI_add, pk_mul, pI_sub, pI_m1, pT_le, pF_le, pT_lt, pF_lt, pT_eq, pF_eq, pF_m1, mF_eq, mT_eq, mT_lt, mF_le, lm1, rd_nI, wr_nI, cl_nI, pk_us, un_ne, pk_uLs, uL_ne, zI_uI, zI_uJ, zI_uA, zI_uB, zI_uR, zI_uN, zJ_uI, zJ_uJ, zJ_uA, zJ_uB, zJ_uR, zJ_uN, zA_uI, zA_uJ, zA_uA, zA_uB, zA_uR, zA_uN, zB_uI, zB_uJ, zB_uA, zB_uB, zB_uR, zB_uN, zR_uI, zR_uJ, zR_uA, zR_uB, zR_uR, zR_uN, zN_uI, zN_uJ, zN_uA, zN_uB, zN_uR, zN_uN, zI_ne, zJ_ne, zA_ne, zB_ne, zR_ne, zN_ne, bi_T, bi_F, nz16, ↓reduceIte, not_true_eq_false, not_false_eq_true, Bool.false_eq_true, reduceCtorEq]
        exact congrArg some (decide_eq_true (fun j h1 h2 => by omega)).symm
      · have hc := c_cue hg hj h (k := k) (by omega)
        have hc2 := c_cue hg hj ho (k := k) (by omega)
        have oa : okL ((gC g s).getD k []) := okL_at (vd_ok hg h).2.2.2.1 k
        have ob : okL ((gC g o).getD k []) := okL_at (vd_ok hg ho).2.2.2.1 k
        have b1 := oa.lt
        have b2 := ob.lt
        by_cases he : (gC g s).getD k [] = (gC g o).getD k []
        · have he2 : enc ((gC g s).getD k []) = enc ((gC g o).getD k []) := by rw [he]
          simp (disch := omega) only [l0, l1, l2, l3, l4, l5, l6, l7, l8, l9, l10, l11, l12, l16, l18, l19, l20, l21, l24, l96, l128, l100, l144, l200, l256, l288, l1536, l1728, l1800, bnd, nI_add, pk_mul, pI_sub, pI_m1, pT_le, pF_le, pT_lt, pF_lt, pT_eq, pF_eq, pF_m1, mF_eq, mT_eq, mT_lt, mF_le, lm1, rd_nI, wr_nI, cl_nI, pk_us, un_ne, pk_uLs, uL_ne, zI_uI, zI_uJ, zI_uA, zI_uB, zI_uR, zI_uN, zJ_uI, zJ_uJ, zJ_uA, zJ_uB, zJ_uR, zJ_uN, zA_uI, zA_uJ, zA_uA, zA_uB, zA_uR, zA_uN, zB_uI, zB_uJ, zB_uA, zB_uB, zB_uR, zB_uN, zR_uI, zR_uJ, zR_uA, zR_uB, zR_uR, zR_uN, zN_uI, zN_uJ, zN_uA, zN_uB, zN_uR, zN_uN, zI_ne, zJ_ne, zA_ne, zB_ne, zR_ne, zN_ne, bi_T, bi_F, nz16, ↓reduceIte, not_true_eq_false, not_false_eq_true, Bool.false_eq_true, reduceCtorEq, hc, hc2, cT_eq he2]
          refine (hkb () (by omega) trivial).trans (congrArg some (dec_iff ?_))
          constructor
          · intro x j h1 h2
            by_cases hjk : j = k
            · rw [hjk]; exact he
            · exact x j h1 (by omega)
          · intro x j h1 h2
            exact x j h1 (by omega)
        · have he2 : enc ((gC g s).getD k []) ≠ enc ((gC g o).getD k []) := fun e => he ((enc_iff oa ob).mp e)
          simp (disch := omega) only [l0, l1, l2, l3, l4, l5, l6, l7, l8, l9, l10, l11, l12, l16, l18, l19, l20, l21, l24, l96, l128, l100, l144, l200, l256, l288, l1536, l1728, l1800, bnd, nI_add, pk_mul, pI_sub, pI_m1, pT_le, pF_le, pT_lt, pF_lt, pT_eq, pF_eq, pF_m1, mF_eq, mT_eq, mT_lt, mF_le, lm1, rd_nI, wr_nI, cl_nI, pk_us, un_ne, pk_uLs, uL_ne, zI_uI, zI_uJ, zI_uA, zI_uB, zI_uR, zI_uN, zJ_uI, zJ_uJ, zJ_uA, zJ_uB, zJ_uR, zJ_uN, zA_uI, zA_uJ, zA_uA, zA_uB, zA_uR, zA_uN, zB_uI, zB_uJ, zB_uA, zB_uB, zB_uR, zB_uN, zR_uI, zR_uJ, zR_uA, zR_uB, zR_uR, zR_uN, zN_uI, zN_uJ, zN_uA, zN_uB, zN_uR, zN_uN, zI_ne, zJ_ne, zA_ne, zB_ne, zR_ne, zN_ne, bi_T, bi_F, nz16, ↓reduceIte, not_true_eq_false, not_false_eq_true, Bool.false_eq_true, reduceCtorEq, hc, hc2, cF_eq he2]
          exact congrArg some (decide_eq_false (fun x => he (x k (by omega) (Nat.le_refl _)))).symm
  · have hne : (nI (gC g s).length = nI (gC g o).length) = False := pF_eq hl (by omega) (by omega)
    have hAB : ¬ gC g s = gC g o := fun e => hl (by rw [e])
    rw [decide_eq_false hAB]
    simp (disch := omega) only [l0, l1, l2, l3, l4, l5, l6, l7, l8, l9, l10, l11, l12, l16, l18, l19, l20, l21, l24, l96, l128, l100, l144, l200, l256, l288, l1536, l1728, l1800, bnd, nI_add, pk_mul, pI_sub, pI_m1, pT_le, pF_le, pT_lt, pF_lt, pT_eq, pF_eq, pF_m1, mF_eq, mT_eq, mT_lt, mF_le, lm1, rd_nI, wr_nI, cl_nI, pk_us, un_ne, pk_uLs, uL_ne, zI_uI, zI_uJ, zI_uA, zI_uB, zI_uR, zI_uN, zJ_uI, zJ_uJ, zJ_uA, zJ_uB, zJ_uR, zJ_uN, zA_uI, zA_uJ, zA_uA, zA_uB, zA_uR, zA_uN, zB_uI, zB_uJ, zB_uA, zB_uB, zB_uR, zB_uN, zR_uI, zR_uJ, zR_uA, zR_uB, zR_uR, zR_uN, zN_uI, zN_uJ, zN_uA, zN_uB, zN_uR, zN_uN, zI_ne, zJ_ne, zA_ne, zB_ne, zR_ne, zN_ne, bi_T, bi_F, nz16, ↓reduceIte, not_true_eq_false, not_false_eq_true, Bool.false_eq_true, reduceCtorEq, c_cw hg hj h, c_cw hg hj ho, hne]
