/-! the calls bars, cast, could -/
theorem t_bars {σ : St} {h : Gp} (k : TI σ h) (p x y v : Int32) : B2 σ (fX11_bars σ p x y v) (fun τ => fX12_bars τ p x y v) := by
  have s3 := se30 σ (nI 0)
  have h4 := k.1
  rcases plot2 k p with ⟨q, hq, rfl, e⟩ | e
  · have e1 := (e σ (SE.rf σ)).1
    have e2 := (e _ s3).2
    -- what either side says where something is wrong
    have noC : ∀ b1 b2 b4 : Bool, fX4_hasPart σ (nI q) x = some b1 → fX4_hasPart σ (nI q) y = some b2 → fX4_isChange v = some b4 → ¬ (b1 = true ∧ b2 = true ∧ x ≠ y ∧ b4 = true) → fX11_bars σ (nI q) x y v = some (mI, σ) := by
      intro b1 b2 b4 f1 f2 f4 hn
      unfold fX11_bars
      by_cases hxy : x = y
      · have hxy' : (x = y) = True := eq_true hxy
        cases b4 <;> simp (disch := omega) only [l0, l1, l2, l3, l4, l5, l6, l7, l8, l9, l10, l11, l12, l16, l18, l19, l20, l21, l24, l96, l128, l100, l144, l200, l256, l288, l1536, l1728, l1800, bnd, nI_add, pk_mul, pI_sub, pI_m1, pT_le, pF_le, pT_lt, pF_lt, pT_eq, pF_eq, pF_m1, mF_eq, mT_eq, mT_lt, mF_le, lm1, rd_nI, wr_nI, cl_nI, pk_us, un_ne, pk_uLs, uL_ne, zI_uI, zI_uJ, zI_uA, zI_uB, zI_uR, zI_uN, zJ_uI, zJ_uJ, zJ_uA, zJ_uB, zJ_uR, zJ_uN, zA_uI, zA_uJ, zA_uA, zA_uB, zA_uR, zA_uN, zB_uI, zB_uJ, zB_uA, zB_uB, zB_uR, zB_uN, zR_uI, zR_uJ, zR_uA, zR_uB, zR_uR, zR_uN, zN_uI, zN_uJ, zN_uA, zN_uB, zN_uR, zN_uN, zI_ne, zJ_ne, zA_ne, zB_ne, zR_ne, zN_ne, bi_T, bi_F, nz16, ↓reduceIte, not_true_eq_false, not_false_eq_true, Bool.false_eq_true, reduceCtorEq, e1, f4, hxy']
      · have hxy' : (x = y) = False := eq_false hxy
        cases b4 <;> cases b1 <;> cases b2 <;> first | exact absurd ⟨rfl, rfl, hxy, rfl⟩ hn | simp (disch := omega) only [l0, l1, l2, l3, l4, l5, l6, l7, l8, l9, l10, l11, l12, l16, l18, l19, l20, l21, l24, l96, l128, l100, l144, l200, l256, l288, l1536, l1728, l1800, bnd, nI_add, pk_mul, pI_sub, pI_m1, pT_le, pF_le, pT_lt, pF_lt, pT_eq, pF_eq, pF_m1, mF_eq, mT_eq, mT_lt, mF_le, lm1, rd_nI, wr_nI, cl_nI, pk_us, un_ne, pk_uLs, uL_ne, zI_uI, zI_uJ, zI_uA, zI_uB, zI_uR, zI_uN, zJ_uI, zJ_uJ, zJ_uA, zJ_uB, zJ_uR, zJ_uN, zA_uI, zA_uJ, zA_uA, zA_uB, zA_uR, zA_uN, zB_uI, zB_uJ, zB_uA, zB_uB, zB_uR, zB_uN, zR_uI, zR_uJ, zR_uA, zR_uB, zR_uR, zR_uN, zN_uI, zN_uJ, zN_uA, zN_uB, zN_uR, zN_uN, zI_ne, zJ_ne, zA_ne, zB_ne, zR_ne, zN_ne, bi_T, bi_F, nz16, ↓reduceIte, not_true_eq_false, not_false_eq_true, Bool.false_eq_true, reduceCtorEq, e1, f4, hxy', f1, f2]
    have noM : ∀ b1 b2 b4 : Bool, fX12_isPart (uI σ 30 (nI 0)) (nI q) x = some b1 → fX12_isPart (uI σ 30 (nI 0)) (nI q) y = some b2 → fX12_isIn v (nI 0) (nI 3) = some b4 → ¬ (b1 = true ∧ b2 = true ∧ x ≠ y ∧ b4 = true) → fX12_bars σ (nI q) x y v = some (mI, uI σ 30 (nI 0)) := by
      intro b1 b2 b4 f1 f2 f4 hn
      unfold fX12_bars
      by_cases hxy : x = y
      · have hxy' : (x = y) = True := eq_true hxy
        cases b1 <;> cases b2 <;> simp (disch := omega) only [l0, l1, l2, l3, l4, l5, l6, l7, l8, l9, l10, l11, l12, l16, l18, l19, l20, l21, l24, l96, l128, l100, l144, l200, l256, l288, l1536, l1728, l1800, bnd, nI_add, pk_mul, pI_sub, pI_m1, pT_le, pF_le, pT_lt, pF_lt, pT_eq, pF_eq, pF_m1, mF_eq, mT_eq, mT_lt, mF_le, lm1, rd_nI, wr_nI, cl_nI, pk_us, un_ne, pk_uLs, uL_ne, zI_uI, zI_uJ, zI_uA, zI_uB, zI_uR, zI_uN, zJ_uI, zJ_uJ, zJ_uA, zJ_uB, zJ_uR, zJ_uN, zA_uI, zA_uJ, zA_uA, zA_uB, zA_uR, zA_uN, zB_uI, zB_uJ, zB_uA, zB_uB, zB_uR, zB_uN, zR_uI, zR_uJ, zR_uA, zR_uB, zR_uR, zR_uN, zN_uI, zN_uJ, zN_uA, zN_uB, zN_uR, zN_uN, zI_ne, zJ_ne, zA_ne, zB_ne, zR_ne, zN_ne, bi_T, bi_F, nz16, ↓reduceIte, not_true_eq_false, not_false_eq_true, Bool.false_eq_true, reduceCtorEq, f1, f2, hxy']
      · have hxy' : (x = y) = False := eq_false hxy
        cases b4 <;> cases b1 <;> cases b2 <;> first | exact absurd ⟨rfl, rfl, hxy, rfl⟩ hn | simp (disch := omega) only [l0, l1, l2, l3, l4, l5, l6, l7, l8, l9, l10, l11, l12, l16, l18, l19, l20, l21, l24, l96, l128, l100, l144, l200, l256, l288, l1536, l1728, l1800, bnd, nI_add, pk_mul, pI_sub, pI_m1, pT_le, pF_le, pT_lt, pF_lt, pT_eq, pF_eq, pF_m1, mF_eq, mT_eq, mT_lt, mF_le, lm1, rd_nI, wr_nI, cl_nI, pk_us, un_ne, pk_uLs, uL_ne, zI_uI, zI_uJ, zI_uA, zI_uB, zI_uR, zI_uN, zJ_uI, zJ_uJ, zJ_uA, zJ_uB, zJ_uR, zJ_uN, zA_uI, zA_uJ, zA_uA, zA_uB, zA_uR, zA_uN, zB_uI, zB_uJ, zB_uA, zB_uB, zB_uR, zB_uN, zR_uI, zR_uJ, zR_uA, zR_uB, zR_uR, zR_uN, zN_uI, zN_uJ, zN_uA, zN_uB, zN_uR, zN_uN, zI_ne, zJ_ne, zA_ne, zB_ne, zR_ne, zN_ne, bi_T, bi_F, nz16, ↓reduceIte, not_true_eq_false, not_false_eq_true, Bool.false_eq_true, reduceCtorEq, f4, hxy', f1, f2]
    rcases part2 k hq x with ⟨a, ha, hab, rfl, f⟩ | f
    · have f1 := (f σ (SE.rf σ)).1
      have f2 := (f _ s3).2
      rcases part2 k hq y with ⟨b, hb, hbb, rfl, g⟩ | g
      · have g1 := (g σ (SE.rf σ)).1
        have g2 := (g _ s3).2
        rcases chg2 v with ⟨c, hc, rfl, c1, c2⟩ | ⟨c1, c2⟩
        · by_cases hxy : a = b
          · exact B2.no mI (noC _ _ _ f1 g1 c1 (fun z => z.2.2.1 (by rw [hxy]))) (noM _ _ _ f2 g2 c2 (fun z => z.2.2.1 (by rw [hxy])))
          · have hne : (nI a = nI b) = False := pF_eq hxy (by omega) (by omega)
            obtain ⟨fz, z1, z2⟩ := c_layNear k hq hc
            have k2 : TI (uA σ 52 fz) h := k.se (SE.uA (by decide))
            have seT : SE σ (uI (uA σ 52 fz) 30 (nI 0)) := (SE.uA (by decide)).tr (se30 _ _)
            have k3 := k.se seT
            have h29 := k2.2.2.2.2.2.1
            have hby := k.2.2.2.2.1
            have n1024 := nr_lt (c := c) (a := a) k hq
            have y1 := c4_isIn (t := pBy h) (r := a) (by omega) (by omega)
            have y2 := c4_isIn (t := pBy h) (r := b) (by omega) (by omega)
            have y3 := c4_isIn (t := nr h q c a) (r := b) (by omega) (by omega)
            rw [nr_bit] at y3
            have hm := m_barsIt k3 (a := a) (b := b) hq hc ha hb
            have f2' := (f _ seT).2
            have g2' := (g _ seT).2
            have hza : zA (uA σ 52 fz) 52 a = nI (nr h q c a) := by rw [zA_uA]; exact z2 a ha
            refine ⟨bi (decide ((pBy h).testBit a = (pBy h).testBit b) && bz h q c a b), uA σ 52 fz, uI (uA σ 52 fz) 30 (nI 0), ?_, SE.uA (by decide), ?_, se30 _ _⟩
            · unfold fX11_bars fX4_bar
              by_cases he : (pBy h).testBit a = (pBy h).testBit b
              · rw [decide_eq_true he, Bool.true_and]
                have e5 : (bi ((pBy h).testBit a) = bi ((pBy h).testBit b)) = True := eq_true (by rw [he])
                cases hz : bz h q c a b with
                | true =>
                  rw [hz] at y3
                  simp (disch := omega) only [l0, l1, l2, l3, l4, l5, l6, l7, l8, l9, l10, l11, l12, l16, l18, l19, l20, l21, l24, l96, l128, l100, l144, l200, l256, l288, l1536, l1728, l1800, bnd, nI_add, pk_mul, pI_sub, pI_m1, pT_le, pF_le, pT_lt, pF_lt, pT_eq, pF_eq, pF_m1, mF_eq, mT_eq, mT_lt, mF_le, lm1, rd_nI, wr_nI, cl_nI, pk_us, un_ne, pk_uLs, uL_ne, zI_uI, zI_uJ, zI_uA, zI_uB, zI_uR, zI_uN, zJ_uI, zJ_uJ, zJ_uA, zJ_uB, zJ_uR, zJ_uN, zA_uI, zA_uJ, zA_uA, zA_uB, zA_uR, zA_uN, zB_uI, zB_uJ, zB_uA, zB_uB, zB_uR, zB_uN, zR_uI, zR_uJ, zR_uA, zR_uB, zR_uR, zR_uN, zN_uI, zN_uJ, zN_uA, zN_uB, zN_uR, zN_uN, zI_ne, zJ_ne, zA_ne, zB_ne, zR_ne, zN_ne, bi_T, bi_F, nz16, ↓reduceIte, not_true_eq_false, not_false_eq_true, Bool.false_eq_true, reduceCtorEq, e1, c1, hne, f1, g1, z1, h29, y1, y2, e5, z2 a ha, y3]
                | false =>
                  rw [hz] at y3
                  simp (disch := omega) only [l0, l1, l2, l3, l4, l5, l6, l7, l8, l9, l10, l11, l12, l16, l18, l19, l20, l21, l24, l96, l128, l100, l144, l200, l256, l288, l1536, l1728, l1800, bnd, nI_add, pk_mul, pI_sub, pI_m1, pT_le, pF_le, pT_lt, pF_lt, pT_eq, pF_eq, pF_m1, mF_eq, mT_eq, mT_lt, mF_le, lm1, rd_nI, wr_nI, cl_nI, pk_us, un_ne, pk_uLs, uL_ne, zI_uI, zI_uJ, zI_uA, zI_uB, zI_uR, zI_uN, zJ_uI, zJ_uJ, zJ_uA, zJ_uB, zJ_uR, zJ_uN, zA_uI, zA_uJ, zA_uA, zA_uB, zA_uR, zA_uN, zB_uI, zB_uJ, zB_uA, zB_uB, zB_uR, zB_uN, zR_uI, zR_uJ, zR_uA, zR_uB, zR_uR, zR_uN, zN_uI, zN_uJ, zN_uA, zN_uB, zN_uR, zN_uN, zI_ne, zJ_ne, zA_ne, zB_ne, zR_ne, zN_ne, bi_T, bi_F, nz16, ↓reduceIte, not_true_eq_false, not_false_eq_true, Bool.false_eq_true, reduceCtorEq, e1, c1, hne, f1, g1, z1, h29, y1, y2, e5, z2 a ha, y3]
              · rw [decide_eq_false he, Bool.false_and]
                have e5 : (bi ((pBy h).testBit a) = bi ((pBy h).testBit b)) = False := eq_false (fun x => he (by
                  cases h1 : (pBy h).testBit a <;> cases h2 : (pBy h).testBit b <;> rw [h1, h2] at x <;> first | rfl | exact absurd x (by decide)))
                simp (disch := omega) only [l0, l1, l2, l3, l4, l5, l6, l7, l8, l9, l10, l11, l12, l16, l18, l19, l20, l21, l24, l96, l128, l100, l144, l200, l256, l288, l1536, l1728, l1800, bnd, nI_add, pk_mul, pI_sub, pI_m1, pT_le, pF_le, pT_lt, pF_lt, pT_eq, pF_eq, pF_m1, mF_eq, mT_eq, mT_lt, mF_le, lm1, rd_nI, wr_nI, cl_nI, pk_us, un_ne, pk_uLs, uL_ne, zI_uI, zI_uJ, zI_uA, zI_uB, zI_uR, zI_uN, zJ_uI, zJ_uJ, zJ_uA, zJ_uB, zJ_uR, zJ_uN, zA_uI, zA_uJ, zA_uA, zA_uB, zA_uR, zA_uN, zB_uI, zB_uJ, zB_uA, zB_uB, zB_uR, zB_uN, zR_uI, zR_uJ, zR_uA, zR_uB, zR_uR, zR_uN, zN_uI, zN_uJ, zN_uA, zN_uB, zN_uR, zN_uN, zI_ne, zJ_ne, zA_ne, zB_ne, zR_ne, zN_ne, bi_T, bi_F, nz16, ↓reduceIte, not_true_eq_false, not_false_eq_true, Bool.false_eq_true, reduceCtorEq, e1, c1, hne, f1, g1, z1, h29, y1, y2, e5]
            · show fX12_bars (uA σ 52 fz) (nI q) (nI a) (nI b) (nI c) = _
              unfold fX12_bars
              cases hz : (decide ((pBy h).testBit a = (pBy h).testBit b) && bz h q c a b) with
              | true =>
                rw [hz] at hm
                simp (disch := omega) only [l0, l1, l2, l3, l4, l5, l6, l7, l8, l9, l10, l11, l12, l16, l18, l19, l20, l21, l24, l96, l128, l100, l144, l200, l256, l288, l1536, l1728, l1800, bnd, nI_add, pk_mul, pI_sub, pI_m1, pT_le, pF_le, pT_lt, pF_lt, pT_eq, pF_eq, pF_m1, mF_eq, mT_eq, mT_lt, mF_le, lm1, rd_nI, wr_nI, cl_nI, pk_us, un_ne, pk_uLs, uL_ne, zI_uI, zI_uJ, zI_uA, zI_uB, zI_uR, zI_uN, zJ_uI, zJ_uJ, zJ_uA, zJ_uB, zJ_uR, zJ_uN, zA_uI, zA_uJ, zA_uA, zA_uB, zA_uR, zA_uN, zB_uI, zB_uJ, zB_uA, zB_uB, zB_uR, zB_uN, zR_uI, zR_uJ, zR_uA, zR_uB, zR_uR, zR_uN, zN_uI, zN_uJ, zN_uA, zN_uB, zN_uR, zN_uN, zI_ne, zJ_ne, zA_ne, zB_ne, zR_ne, zN_ne, bi_T, bi_F, nz16, ↓reduceIte, not_true_eq_false, not_false_eq_true, Bool.false_eq_true, reduceCtorEq, f2', g2', hne, c2, hm]
              | false =>
                rw [hz] at hm
                simp (disch := omega) only [l0, l1, l2, l3, l4, l5, l6, l7, l8, l9, l10, l11, l12, l16, l18, l19, l20, l21, l24, l96, l128, l100, l144, l200, l256, l288, l1536, l1728, l1800, bnd, nI_add, pk_mul, pI_sub, pI_m1, pT_le, pF_le, pT_lt, pF_lt, pT_eq, pF_eq, pF_m1, mF_eq, mT_eq, mT_lt, mF_le, lm1, rd_nI, wr_nI, cl_nI, pk_us, un_ne, pk_uLs, uL_ne, zI_uI, zI_uJ, zI_uA, zI_uB, zI_uR, zI_uN, zJ_uI, zJ_uJ, zJ_uA, zJ_uB, zJ_uR, zJ_uN, zA_uI, zA_uJ, zA_uA, zA_uB, zA_uR, zA_uN, zB_uI, zB_uJ, zB_uA, zB_uB, zB_uR, zB_uN, zR_uI, zR_uJ, zR_uA, zR_uB, zR_uR, zR_uN, zN_uI, zN_uJ, zN_uA, zN_uB, zN_uR, zN_uN, zI_ne, zJ_ne, zA_ne, zB_ne, zR_ne, zN_ne, bi_T, bi_F, nz16, ↓reduceIte, not_true_eq_false, not_false_eq_true, Bool.false_eq_true, reduceCtorEq, f2', g2', hne, c2, hm]
        · exact B2.no mI (noC _ _ _ f1 g1 c1 (fun z => absurd z.2.2.2 (by decide))) (noM _ _ _ f2 g2 c2 (fun z => absurd z.2.2.2 (by decide)))
      · have g1 := (g σ (SE.rf σ)).1
        have g2 := (g _ s3).2
        rcases chg2 v with ⟨c, hc, -, c1, c2⟩ | ⟨c1, c2⟩ <;> exact B2.no mI (noC _ _ _ f1 g1 c1 (fun z => absurd z.2.1 (by decide))) (noM _ _ _ f2 g2 c2 (fun z => absurd z.2.1 (by decide)))
    · have f1 := (f σ (SE.rf σ)).1
      have f2 := (f _ s3).2
      rcases part2 k hq y with ⟨b, hb, hbb, -, g⟩ | g
      · have g1 := (g σ (SE.rf σ)).1
        have g2 := (g _ s3).2
        rcases chg2 v with ⟨c, hc, -, c1, c2⟩ | ⟨c1, c2⟩ <;> exact B2.no mI (noC _ _ _ f1 g1 c1 (fun z => absurd z.1 (by decide))) (noM _ _ _ f2 g2 c2 (fun z => absurd z.1 (by decide)))
      · have g1 := (g σ (SE.rf σ)).1
        have g2 := (g _ s3).2
        rcases chg2 v with ⟨c, hc, -, c1, c2⟩ | ⟨c1, c2⟩ <;> exact B2.no mI (noC _ _ _ f1 g1 c1 (fun z => absurd z.1 (by decide))) (noM _ _ _ f2 g2 c2 (fun z => absurd z.1 (by decide)))
  · have e1 := (e σ (SE.rf σ)).1
    have e2 := (e _ s3).2
    refine B2.no mI ?_ ?_
    · unfold fX11_bars
      simp (disch := omega) only [l0, l1, l2, l3, l4, l5, l6, l7, l8, l9, l10, l11, l12, l16, l18, l19, l20, l21, l24, l96, l128, l100, l144, l200, l256, l288, l1536, l1728, l1800, bnd, nI_add, pk_mul, pI_sub, pI_m1, pT_le, pF_le, pT_lt, pF_lt, pT_eq, pF_eq, pF_m1, mF_eq, mT_eq, mT_lt, mF_le, lm1, rd_nI, wr_nI, cl_nI, pk_us, un_ne, pk_uLs, uL_ne, zI_uI, zI_uJ, zI_uA, zI_uB, zI_uR, zI_uN, zJ_uI, zJ_uJ, zJ_uA, zJ_uB, zJ_uR, zJ_uN, zA_uI, zA_uJ, zA_uA, zA_uB, zA_uR, zA_uN, zB_uI, zB_uJ, zB_uA, zB_uB, zB_uR, zB_uN, zR_uI, zR_uJ, zR_uA, zR_uB, zR_uR, zR_uN, zN_uI, zN_uJ, zN_uA, zN_uB, zN_uR, zN_uN, zI_ne, zJ_ne, zA_ne, zB_ne, zR_ne, zN_ne, bi_T, bi_F, nz16, ↓reduceIte, not_true_eq_false, not_false_eq_true, Bool.false_eq_true, reduceCtorEq, e1]
    · unfold fX12_bars fX12_isPart
      simp (disch := omega) only [l0, l1, l2, l3, l4, l5, l6, l7, l8, l9, l10, l11, l12, l16, l18, l19, l20, l21, l24, l96, l128, l100, l144, l200, l256, l288, l1536, l1728, l1800, bnd, nI_add, pk_mul, pI_sub, pI_m1, pT_le, pF_le, pT_lt, pF_lt, pT_eq, pF_eq, pF_m1, mF_eq, mT_eq, mT_lt, mF_le, lm1, rd_nI, wr_nI, cl_nI, pk_us, un_ne, pk_uLs, uL_ne, zI_uI, zI_uJ, zI_uA, zI_uB, zI_uR, zI_uN, zJ_uI, zJ_uJ, zJ_uA, zJ_uB, zJ_uR, zJ_uN, zA_uI, zA_uJ, zA_uA, zA_uB, zA_uR, zA_uN, zB_uI, zB_uJ, zB_uA, zB_uB, zB_uR, zB_uN, zR_uI, zR_uJ, zR_uA, zR_uB, zR_uR, zR_uN, zN_uI, zN_uJ, zN_uA, zN_uB, zN_uR, zN_uN, zI_ne, zJ_ne, zA_ne, zB_ne, zR_ne, zN_ne, bi_T, bi_F, nz16, ↓reduceIte, not_true_eq_false, not_false_eq_true, Bool.false_eq_true, reduceCtorEq, e2]
theorem t_cast {σ : St} {h : Gp} (k : TI σ h) (p x v : Int32) : B2 σ (fX11_cast σ p x v) (fun τ => fX12_cast τ p x v) := by
  have s3 := se30 σ (nI 0)
  have h4 := k.1
  have hby := k.2.2.2.2.1
  rcases plot2 k p with ⟨q, hq, rfl, e⟩ | e
  · have e1 := (e σ (SE.rf σ)).1
    have e2 := (e _ s3).2
    rcases chg2 v with ⟨c, hc, rfl, c1, c2⟩ | ⟨c1, c2⟩
    · obtain ⟨f, g, z1, z2⟩ := c_clash k hq hc
      have hpo := c4_partsOf k hq
      obtain ⟨m, hm, m1, m2⟩ := nd_ex (S := po h q) (K := KC h q c)
      have seC : SE σ (uA (uA σ 52 f) 53 g) := (SE.uA (by decide)).tr (SE.uA (by decide))
      have kC := k.se seC
      have hpoC := c4_partsOf kC hq
      obtain ⟨z, w1, w2⟩ := c_fewest (σ := uA (uA σ 52 f) 53 g) hpo.2.2 hby hm m1 m2 (by rw [zA_uA]; exact z2)
      have seD : SE σ (uA (uA (uA σ 52 f) 53 g) 54 z) := seC.tr (SE.uA (by decide))
      have kD := k.se (seD.tr (se30 _ (nI 0)))
      have hpoD := c4_partsOf kD hq
      obtain ⟨z', u1, u2⟩ := m_need kD hq hc hpo.2.2 hm m1 m2
      have eD := (e _ (seD.tr (se30 _ (nI 0)))).2
      have hda : fX4_dressAll σ (nI q) (nI c) = some (nI m, uA (uA (uA σ 52 f) 53 g) 54 z) := by
        unfold fX4_dressAll
        simp (disch := omega) only [l0, l1, l2, l3, l4, l5, l6, l7, l8, l9, l10, l11, l12, l16, l18, l19, l20, l21, l24, l96, l128, l100, l144, l200, l256, l288, l1536, l1728, l1800, bnd, nI_add, pk_mul, pI_sub, pI_m1, pT_le, pF_le, pT_lt, pF_lt, pT_eq, pF_eq, pF_m1, mF_eq, mT_eq, mT_lt, mF_le, lm1, rd_nI, wr_nI, cl_nI, pk_us, un_ne, pk_uLs, uL_ne, zI_uI, zI_uJ, zI_uA, zI_uB, zI_uR, zI_uN, zJ_uI, zJ_uJ, zJ_uA, zJ_uB, zJ_uR, zJ_uN, zA_uI, zA_uJ, zA_uA, zA_uB, zA_uR, zA_uN, zB_uI, zB_uJ, zB_uA, zB_uB, zB_uR, zB_uN, zR_uI, zR_uJ, zR_uA, zR_uB, zR_uR, zR_uN, zN_uI, zN_uJ, zN_uA, zN_uB, zN_uR, zN_uN, zI_ne, zJ_ne, zA_ne, zB_ne, zR_ne, zN_ne, bi_T, bi_F, nz16, ↓reduceIte, not_true_eq_false, not_false_eq_true, Bool.false_eq_true, reduceCtorEq, z1, hpoC.1, w1]
      by_cases hx : x = mI
      · have hx' : (x = mI) = True := eq_true hx
        refine ⟨nI m, _, _, ?_, seD, ?_, (se30 _ (nI 0)).tr (SE.uA (q := 82) (f := z') (by decide))⟩
        · unfold fX11_cast
          simp (disch := omega) only [l0, l1, l2, l3, l4, l5, l6, l7, l8, l9, l10, l11, l12, l16, l18, l19, l20, l21, l24, l96, l128, l100, l144, l200, l256, l288, l1536, l1728, l1800, bnd, nI_add, pk_mul, pI_sub, pI_m1, pT_le, pF_le, pT_lt, pF_lt, pT_eq, pF_eq, pF_m1, mF_eq, mT_eq, mT_lt, mF_le, lm1, rd_nI, wr_nI, cl_nI, pk_us, un_ne, pk_uLs, uL_ne, zI_uI, zI_uJ, zI_uA, zI_uB, zI_uR, zI_uN, zJ_uI, zJ_uJ, zJ_uA, zJ_uB, zJ_uR, zJ_uN, zA_uI, zA_uJ, zA_uA, zA_uB, zA_uR, zA_uN, zB_uI, zB_uJ, zB_uA, zB_uB, zB_uR, zB_uN, zR_uI, zR_uJ, zR_uA, zR_uB, zR_uR, zR_uN, zN_uI, zN_uJ, zN_uA, zN_uB, zN_uR, zN_uN, zI_ne, zJ_ne, zA_ne, zB_ne, zR_ne, zN_ne, bi_T, bi_F, nz16, ↓reduceIte, not_true_eq_false, not_false_eq_true, Bool.false_eq_true, reduceCtorEq, e1, c1, hx', hda]
        · show fX12_cast _ (nI q) x (nI c) = _
          unfold fX12_cast
          simp (disch := omega) only [l0, l1, l2, l3, l4, l5, l6, l7, l8, l9, l10, l11, l12, l16, l18, l19, l20, l21, l24, l96, l128, l100, l144, l200, l256, l288, l1536, l1728, l1800, bnd, nI_add, pk_mul, pI_sub, pI_m1, pT_le, pF_le, pT_lt, pF_lt, pT_eq, pF_eq, pF_m1, mF_eq, mT_eq, mT_lt, mF_le, lm1, rd_nI, wr_nI, cl_nI, pk_us, un_ne, pk_uLs, uL_ne, zI_uI, zI_uJ, zI_uA, zI_uB, zI_uR, zI_uN, zJ_uI, zJ_uJ, zJ_uA, zJ_uB, zJ_uR, zJ_uN, zA_uI, zA_uJ, zA_uA, zA_uB, zA_uR, zA_uN, zB_uI, zB_uJ, zB_uA, zB_uB, zB_uR, zB_uN, zR_uI, zR_uJ, zR_uA, zR_uB, zR_uR, zR_uN, zN_uI, zN_uJ, zN_uA, zN_uB, zN_uR, zN_uN, zI_ne, zJ_ne, zA_ne, zB_ne, zR_ne, zN_ne, bi_T, bi_F, nz16, ↓reduceIte, not_true_eq_false, not_false_eq_true, Bool.false_eq_true, reduceCtorEq, eD, c2, hx', hpoD.2.1, u1]
      · have hx' : (x = mI) = False := eq_false hx
        rcases part2 k hq x with ⟨a, ha, hab, rfl, fp⟩ | fp
        · have fp1 := (fp σ (SE.rf σ)).1
          have fp2 := (fp _ (seD.tr (se30 _ (nI 0)))).2
          obtain ⟨G, hG⟩ : ∃ G, ndF (po h q) (KC h q c) m = some G := by
            cases hn : ndF (po h q) (KC h q c) m with
            | none => rw [hn] at m1; cases m1
            | some G => exact ⟨G, rfl⟩
          have wa := w2 G hG a ha hab
          have ua := u2 G hG a ha hab
          refine ⟨nI (G a), _, _, ?_, seD, ?_, (se30 _ (nI 0)).tr (SE.uA (q := 82) (f := z') (by decide))⟩
          · unfold fX11_cast fX4_coatOf
            simp (disch := omega) only [l0, l1, l2, l3, l4, l5, l6, l7, l8, l9, l10, l11, l12, l16, l18, l19, l20, l21, l24, l96, l128, l100, l144, l200, l256, l288, l1536, l1728, l1800, bnd, nI_add, pk_mul, pI_sub, pI_m1, pT_le, pF_le, pT_lt, pF_lt, pT_eq, pF_eq, pF_m1, mF_eq, mT_eq, mT_lt, mF_le, lm1, rd_nI, wr_nI, cl_nI, pk_us, un_ne, pk_uLs, uL_ne, zI_uI, zI_uJ, zI_uA, zI_uB, zI_uR, zI_uN, zJ_uI, zJ_uJ, zJ_uA, zJ_uB, zJ_uR, zJ_uN, zA_uI, zA_uJ, zA_uA, zA_uB, zA_uR, zA_uN, zB_uI, zB_uJ, zB_uA, zB_uB, zB_uR, zB_uN, zR_uI, zR_uJ, zR_uA, zR_uB, zR_uR, zR_uN, zN_uI, zN_uJ, zN_uA, zN_uB, zN_uR, zN_uN, zI_ne, zJ_ne, zA_ne, zB_ne, zR_ne, zN_ne, bi_T, bi_F, nz16, ↓reduceIte, not_true_eq_false, not_false_eq_true, Bool.false_eq_true, reduceCtorEq, e1, c1, fp1, hda, wa.1]
          · show fX12_cast _ (nI q) (nI a) (nI c) = _
            unfold fX12_cast
            simp (disch := omega) only [l0, l1, l2, l3, l4, l5, l6, l7, l8, l9, l10, l11, l12, l16, l18, l19, l20, l21, l24, l96, l128, l100, l144, l200, l256, l288, l1536, l1728, l1800, bnd, nI_add, pk_mul, pI_sub, pI_m1, pT_le, pF_le, pT_lt, pF_lt, pT_eq, pF_eq, pF_m1, mF_eq, mT_eq, mT_lt, mF_le, lm1, rd_nI, wr_nI, cl_nI, pk_us, un_ne, pk_uLs, uL_ne, zI_uI, zI_uJ, zI_uA, zI_uB, zI_uR, zI_uN, zJ_uI, zJ_uJ, zJ_uA, zJ_uB, zJ_uR, zJ_uN, zA_uI, zA_uJ, zA_uA, zA_uB, zA_uR, zA_uN, zB_uI, zB_uJ, zB_uA, zB_uB, zB_uR, zB_uN, zR_uI, zR_uJ, zR_uA, zR_uB, zR_uR, zR_uN, zN_uI, zN_uJ, zN_uA, zN_uB, zN_uR, zN_uN, zI_ne, zJ_ne, zA_ne, zB_ne, zR_ne, zN_ne, bi_T, bi_F, nz16, ↓reduceIte, not_true_eq_false, not_false_eq_true, Bool.false_eq_true, reduceCtorEq, eD, c2, fp2, hpoD.2.1, u1, ua.1]
        · have fp1 := (fp σ (SE.rf σ)).1
          have fp2 := (fp _ s3).2
          refine B2.no mI ?_ ?_
          · unfold fX11_cast
            simp (disch := omega) only [l0, l1, l2, l3, l4, l5, l6, l7, l8, l9, l10, l11, l12, l16, l18, l19, l20, l21, l24, l96, l128, l100, l144, l200, l256, l288, l1536, l1728, l1800, bnd, nI_add, pk_mul, pI_sub, pI_m1, pT_le, pF_le, pT_lt, pF_lt, pT_eq, pF_eq, pF_m1, mF_eq, mT_eq, mT_lt, mF_le, lm1, rd_nI, wr_nI, cl_nI, pk_us, un_ne, pk_uLs, uL_ne, zI_uI, zI_uJ, zI_uA, zI_uB, zI_uR, zI_uN, zJ_uI, zJ_uJ, zJ_uA, zJ_uB, zJ_uR, zJ_uN, zA_uI, zA_uJ, zA_uA, zA_uB, zA_uR, zA_uN, zB_uI, zB_uJ, zB_uA, zB_uB, zB_uR, zB_uN, zR_uI, zR_uJ, zR_uA, zR_uB, zR_uR, zR_uN, zN_uI, zN_uJ, zN_uA, zN_uB, zN_uR, zN_uN, zI_ne, zJ_ne, zA_ne, zB_ne, zR_ne, zN_ne, bi_T, bi_F, nz16, ↓reduceIte, not_true_eq_false, not_false_eq_true, Bool.false_eq_true, reduceCtorEq, e1, c1, hx', fp1]
          · unfold fX12_cast
            simp (disch := omega) only [l0, l1, l2, l3, l4, l5, l6, l7, l8, l9, l10, l11, l12, l16, l18, l19, l20, l21, l24, l96, l128, l100, l144, l200, l256, l288, l1536, l1728, l1800, bnd, nI_add, pk_mul, pI_sub, pI_m1, pT_le, pF_le, pT_lt, pF_lt, pT_eq, pF_eq, pF_m1, mF_eq, mT_eq, mT_lt, mF_le, lm1, rd_nI, wr_nI, cl_nI, pk_us, un_ne, pk_uLs, uL_ne, zI_uI, zI_uJ, zI_uA, zI_uB, zI_uR, zI_uN, zJ_uI, zJ_uJ, zJ_uA, zJ_uB, zJ_uR, zJ_uN, zA_uI, zA_uJ, zA_uA, zA_uB, zA_uR, zA_uN, zB_uI, zB_uJ, zB_uA, zB_uB, zB_uR, zB_uN, zR_uI, zR_uJ, zR_uA, zR_uB, zR_uR, zR_uN, zN_uI, zN_uJ, zN_uA, zN_uB, zN_uR, zN_uN, zI_ne, zJ_ne, zA_ne, zB_ne, zR_ne, zN_ne, bi_T, bi_F, nz16, ↓reduceIte, not_true_eq_false, not_false_eq_true, Bool.false_eq_true, reduceCtorEq, e2, c2, hx', fp2]
    · refine B2.no mI ?_ ?_
      · unfold fX11_cast
        simp (disch := omega) only [l0, l1, l2, l3, l4, l5, l6, l7, l8, l9, l10, l11, l12, l16, l18, l19, l20, l21, l24, l96, l128, l100, l144, l200, l256, l288, l1536, l1728, l1800, bnd, nI_add, pk_mul, pI_sub, pI_m1, pT_le, pF_le, pT_lt, pF_lt, pT_eq, pF_eq, pF_m1, mF_eq, mT_eq, mT_lt, mF_le, lm1, rd_nI, wr_nI, cl_nI, pk_us, un_ne, pk_uLs, uL_ne, zI_uI, zI_uJ, zI_uA, zI_uB, zI_uR, zI_uN, zJ_uI, zJ_uJ, zJ_uA, zJ_uB, zJ_uR, zJ_uN, zA_uI, zA_uJ, zA_uA, zA_uB, zA_uR, zA_uN, zB_uI, zB_uJ, zB_uA, zB_uB, zB_uR, zB_uN, zR_uI, zR_uJ, zR_uA, zR_uB, zR_uR, zR_uN, zN_uI, zN_uJ, zN_uA, zN_uB, zN_uR, zN_uN, zI_ne, zJ_ne, zA_ne, zB_ne, zR_ne, zN_ne, bi_T, bi_F, nz16, ↓reduceIte, not_true_eq_false, not_false_eq_true, Bool.false_eq_true, reduceCtorEq, e1, c1]
      · unfold fX12_cast
        simp (disch := omega) only [l0, l1, l2, l3, l4, l5, l6, l7, l8, l9, l10, l11, l12, l16, l18, l19, l20, l21, l24, l96, l128, l100, l144, l200, l256, l288, l1536, l1728, l1800, bnd, nI_add, pk_mul, pI_sub, pI_m1, pT_le, pF_le, pT_lt, pF_lt, pT_eq, pF_eq, pF_m1, mF_eq, mT_eq, mT_lt, mF_le, lm1, rd_nI, wr_nI, cl_nI, pk_us, un_ne, pk_uLs, uL_ne, zI_uI, zI_uJ, zI_uA, zI_uB, zI_uR, zI_uN, zJ_uI, zJ_uJ, zJ_uA, zJ_uB, zJ_uR, zJ_uN, zA_uI, zA_uJ, zA_uA, zA_uB, zA_uR, zA_uN, zB_uI, zB_uJ, zB_uA, zB_uB, zB_uR, zB_uN, zR_uI, zR_uJ, zR_uA, zR_uB, zR_uR, zR_uN, zN_uI, zN_uJ, zN_uA, zN_uB, zN_uR, zN_uN, zI_ne, zJ_ne, zA_ne, zB_ne, zR_ne, zN_ne, bi_T, bi_F, nz16, ↓reduceIte, not_true_eq_false, not_false_eq_true, Bool.false_eq_true, reduceCtorEq, e2, c2]
  · have e1 := (e σ (SE.rf σ)).1
    have e2 := (e _ s3).2
    refine B2.no mI ?_ ?_
    · unfold fX11_cast
      simp (disch := omega) only [l0, l1, l2, l3, l4, l5, l6, l7, l8, l9, l10, l11, l12, l16, l18, l19, l20, l21, l24, l96, l128, l100, l144, l200, l256, l288, l1536, l1728, l1800, bnd, nI_add, pk_mul, pI_sub, pI_m1, pT_le, pF_le, pT_lt, pF_lt, pT_eq, pF_eq, pF_m1, mF_eq, mT_eq, mT_lt, mF_le, lm1, rd_nI, wr_nI, cl_nI, pk_us, un_ne, pk_uLs, uL_ne, zI_uI, zI_uJ, zI_uA, zI_uB, zI_uR, zI_uN, zJ_uI, zJ_uJ, zJ_uA, zJ_uB, zJ_uR, zJ_uN, zA_uI, zA_uJ, zA_uA, zA_uB, zA_uR, zA_uN, zB_uI, zB_uJ, zB_uA, zB_uB, zB_uR, zB_uN, zR_uI, zR_uJ, zR_uA, zR_uB, zR_uR, zR_uN, zN_uI, zN_uJ, zN_uA, zN_uB, zN_uR, zN_uN, zI_ne, zJ_ne, zA_ne, zB_ne, zR_ne, zN_ne, bi_T, bi_F, nz16, ↓reduceIte, not_true_eq_false, not_false_eq_true, Bool.false_eq_true, reduceCtorEq, e1]
    · unfold fX12_cast
      simp (disch := omega) only [l0, l1, l2, l3, l4, l5, l6, l7, l8, l9, l10, l11, l12, l16, l18, l19, l20, l21, l24, l96, l128, l100, l144, l200, l256, l288, l1536, l1728, l1800, bnd, nI_add, pk_mul, pI_sub, pI_m1, pT_le, pF_le, pT_lt, pF_lt, pT_eq, pF_eq, pF_m1, mF_eq, mT_eq, mT_lt, mF_le, lm1, rd_nI, wr_nI, cl_nI, pk_us, un_ne, pk_uLs, uL_ne, zI_uI, zI_uJ, zI_uA, zI_uB, zI_uR, zI_uN, zJ_uI, zJ_uJ, zJ_uA, zJ_uB, zJ_uR, zJ_uN, zA_uI, zA_uJ, zA_uA, zA_uB, zA_uR, zA_uN, zB_uI, zB_uJ, zB_uA, zB_uB, zB_uR, zB_uN, zR_uI, zR_uJ, zR_uA, zR_uB, zR_uR, zR_uN, zN_uI, zN_uJ, zN_uA, zN_uB, zN_uR, zN_uN, zI_ne, zJ_ne, zA_ne, zB_ne, zR_ne, zN_ne, bi_T, bi_F, nz16, ↓reduceIte, not_true_eq_false, not_false_eq_true, Bool.false_eq_true, reduceCtorEq, e2]
theorem notI {S B : Nat} (hS : S < 1024) (hB : B < 1024) : nI S &&& (nI B ^^^ mI) = nI (S &&& (1023 ^^^ B)) := by
  have h := cla_I (n := 0) hS hB
  rw [Nat.zero_or] at h
  rw [← h]
  congr 1
  apply b_ext
  intro i _
  rw [b_or, show (nI 0 : Int32) = 0 from rfl, b_0, Bool.false_or]
theorem t_could {σ : St} {h : Gp} (k : TI σ h) (p v x y : Int32) : B2 σ (fX11_could σ p v x y) (fun τ => fX12_could τ p v x y) := by
  have s3 := se30 σ (nI 0)
  have h4 := k.1
  have hby := k.2.2.2.2.1
  rcases plot2 k p with ⟨q, hq, rfl, e⟩ | e
  · have e1 := (e σ (SE.rf σ)).1
    have e2 := (e _ s3).2
    rcases chg2 v with ⟨c, hc, rfl, c1, c2⟩ | ⟨c1, c2⟩
    · rcases crew2 x with ⟨men, hmen, rfl, x1, x2⟩ | ⟨x1, x2⟩
      · rcases crew2 y with ⟨bo, hbo, rfl, y1, y2⟩ | ⟨y1, y2⟩
        · obtain ⟨f, g, z1, z2⟩ := c_clash k hq hc
          have hpo := c4_partsOf k hq
          have hS1 : po h q &&& (1023 ^^^ pBy h) < 1024 := Nat.lt_of_le_of_lt Nat.and_le_left hpo.2.2
          have hS2 : po h q &&& pBy h < 1024 := Nat.lt_of_le_of_lt Nat.and_le_left hpo.2.2
          obtain ⟨m, hm, m1, m2⟩ := nd_ex (S := po h q &&& (1023 ^^^ pBy h)) (K := KC h q c)
          obtain ⟨n, hn, n1', n2'⟩ := nd_ex (S := po h q &&& pBy h) (K := KC h q c)
          have seC : SE σ (uA (uA σ 52 f) 53 g) := (SE.uA (by decide)).tr (SE.uA (by decide))
          have kC := k.se seC
          have hpoC := c4_partsOf kC hq
          have h29C := kC.2.2.2.2.2.1
          obtain ⟨z, w1, w2⟩ := c_fewest (σ := uA (uA σ 52 f) 53 g) hS1 hby hm m1 m2 (by rw [zA_uA]; exact z2)
          obtain ⟨z', w3, w4⟩ := c_fewest (σ := uA (uA (uA σ 52 f) 53 g) 54 z) hS2 hby hn n1' n2' (by rw [zA_ne (by decide), zA_uA]; exact z2)
          have seD : SE σ (uA (uA (uA σ 52 f) 53 g) 54 z) := seC.tr (SE.uA (by decide))
          have h29D := (k.se seD).2.2.2.2.2.1
          have seE : SE σ (uA (uA (uA σ 52 f) 53 g) 54 z') := seC.tr (SE.uA (by decide))
          -- the model, behind any store
          have mod : ∀ τ, SE σ τ → ∃ υ, fX12_could τ (nI q) (nI c) (nI men) (nI bo) = some (bi (decide (m ≤ men ∧ n ≤ bo)), υ) ∧ SE τ υ := by
            intro τ se
            have seT := se.tr (se30 τ (nI 0))
            have kT := k.se seT
            have eT := (e _ seT).2
            have poT := c4_partsOf kT hq
            have h50T := kT.2.2.2.2.2.2
            obtain ⟨u, u1, u2⟩ := m_need kT hq hc hS1 hm m1 m2
            have kU : TI (uA (uI τ 30 (nI 0)) 82 u) h := kT.se (SE.uA (by decide))
            have poU := c4_partsOf kU hq
            have h50U := kU.2.2.2.2.2.2
            obtain ⟨u', u3, u4⟩ := m_need kU hq hc hS2 hn n1' n2'
            rw [uA_uA] at u3
            by_cases hm1 : m ≤ men
            · by_cases hn1 : n ≤ bo
              · rw [decide_eq_true ⟨hm1, hn1⟩]
                refine ⟨uA (uI τ 30 (nI 0)) 82 u', ?_, (se30 τ _).tr (SE.uA (by decide))⟩
                unfold fX12_could
                simp (disch := omega) only [l0, l1, l2, l3, l4, l5, l6, l7, l8, l9, l10, l11, l12, l16, l18, l19, l20, l21, l24, l96, l128, l100, l144, l200, l256, l288, l1536, l1728, l1800, bnd, nI_add, pk_mul, pI_sub, pI_m1, pT_le, pF_le, pT_lt, pF_lt, pT_eq, pF_eq, pF_m1, mF_eq, mT_eq, mT_lt, mF_le, lm1, rd_nI, wr_nI, cl_nI, pk_us, un_ne, pk_uLs, uL_ne, zI_uI, zI_uJ, zI_uA, zI_uB, zI_uR, zI_uN, zJ_uI, zJ_uJ, zJ_uA, zJ_uB, zJ_uR, zJ_uN, zA_uI, zA_uJ, zA_uA, zA_uB, zA_uR, zA_uN, zB_uI, zB_uJ, zB_uA, zB_uB, zB_uR, zB_uN, zR_uI, zR_uJ, zR_uA, zR_uB, zR_uR, zR_uN, zN_uI, zN_uJ, zN_uA, zN_uB, zN_uR, zN_uN, zI_ne, zJ_ne, zA_ne, zB_ne, zR_ne, zN_ne, bi_T, bi_F, nz16, ↓reduceIte, not_true_eq_false, not_false_eq_true, Bool.false_eq_true, reduceCtorEq, eT, c2, x2, y2, poT.2.1, h50T, notI hpo.2.2 hby, u1, poU.2.1, h50U, fa_and, u3]
              · rw [decide_eq_false (fun a => hn1 a.2)]
                refine ⟨uA (uI τ 30 (nI 0)) 82 u', ?_, (se30 τ _).tr (SE.uA (by decide))⟩
                unfold fX12_could
                simp (disch := omega) only [l0, l1, l2, l3, l4, l5, l6, l7, l8, l9, l10, l11, l12, l16, l18, l19, l20, l21, l24, l96, l128, l100, l144, l200, l256, l288, l1536, l1728, l1800, bnd, nI_add, pk_mul, pI_sub, pI_m1, pT_le, pF_le, pT_lt, pF_lt, pT_eq, pF_eq, pF_m1, mF_eq, mT_eq, mT_lt, mF_le, lm1, rd_nI, wr_nI, cl_nI, pk_us, un_ne, pk_uLs, uL_ne, zI_uI, zI_uJ, zI_uA, zI_uB, zI_uR, zI_uN, zJ_uI, zJ_uJ, zJ_uA, zJ_uB, zJ_uR, zJ_uN, zA_uI, zA_uJ, zA_uA, zA_uB, zA_uR, zA_uN, zB_uI, zB_uJ, zB_uA, zB_uB, zB_uR, zB_uN, zR_uI, zR_uJ, zR_uA, zR_uB, zR_uR, zR_uN, zN_uI, zN_uJ, zN_uA, zN_uB, zN_uR, zN_uN, zI_ne, zJ_ne, zA_ne, zB_ne, zR_ne, zN_ne, bi_T, bi_F, nz16, ↓reduceIte, not_true_eq_false, not_false_eq_true, Bool.false_eq_true, reduceCtorEq, eT, c2, x2, y2, poT.2.1, h50T, notI hpo.2.2 hby, u1, poU.2.1, h50U, fa_and, u3]
            · rw [decide_eq_false (fun a => hm1 a.1)]
              refine ⟨uA (uI τ 30 (nI 0)) 82 u, ?_, (se30 τ _).tr (SE.uA (by decide))⟩
              unfold fX12_could
              simp (disch := omega) only [l0, l1, l2, l3, l4, l5, l6, l7, l8, l9, l10, l11, l12, l16, l18, l19, l20, l21, l24, l96, l128, l100, l144, l200, l256, l288, l1536, l1728, l1800, bnd, nI_add, pk_mul, pI_sub, pI_m1, pT_le, pF_le, pT_lt, pF_lt, pT_eq, pF_eq, pF_m1, mF_eq, mT_eq, mT_lt, mF_le, lm1, rd_nI, wr_nI, cl_nI, pk_us, un_ne, pk_uLs, uL_ne, zI_uI, zI_uJ, zI_uA, zI_uB, zI_uR, zI_uN, zJ_uI, zJ_uJ, zJ_uA, zJ_uB, zJ_uR, zJ_uN, zA_uI, zA_uJ, zA_uA, zA_uB, zA_uR, zA_uN, zB_uI, zB_uJ, zB_uA, zB_uB, zB_uR, zB_uN, zR_uI, zR_uJ, zR_uA, zR_uB, zR_uR, zR_uN, zN_uI, zN_uJ, zN_uA, zN_uB, zN_uR, zN_uN, zI_ne, zJ_ne, zA_ne, zB_ne, zR_ne, zN_ne, bi_T, bi_F, nz16, ↓reduceIte, not_true_eq_false, not_false_eq_true, Bool.false_eq_true, reduceCtorEq, eT, c2, x2, y2, poT.2.1, h50T, notI hpo.2.2 hby, u1]
          by_cases hm1 : m ≤ men
          · by_cases hn1 : n ≤ bo
            · obtain ⟨υ, d1, d2⟩ := mod _ seE
              rw [decide_eq_true ⟨hm1, hn1⟩] at d1
              refine ⟨bi true, _, υ, ?_, seE, d1, d2⟩
              unfold fX11_could fX4_suffice
              simp (disch := omega) only [l0, l1, l2, l3, l4, l5, l6, l7, l8, l9, l10, l11, l12, l16, l18, l19, l20, l21, l24, l96, l128, l100, l144, l200, l256, l288, l1536, l1728, l1800, bnd, nI_add, pk_mul, pI_sub, pI_m1, pT_le, pF_le, pT_lt, pF_lt, pT_eq, pF_eq, pF_m1, mF_eq, mT_eq, mT_lt, mF_le, lm1, rd_nI, wr_nI, cl_nI, pk_us, un_ne, pk_uLs, uL_ne, zI_uI, zI_uJ, zI_uA, zI_uB, zI_uR, zI_uN, zJ_uI, zJ_uJ, zJ_uA, zJ_uB, zJ_uR, zJ_uN, zA_uI, zA_uJ, zA_uA, zA_uB, zA_uR, zA_uN, zB_uI, zB_uJ, zB_uA, zB_uB, zB_uR, zB_uN, zR_uI, zR_uJ, zR_uA, zR_uB, zR_uR, zR_uN, zN_uI, zN_uJ, zN_uA, zN_uB, zN_uR, zN_uN, zI_ne, zJ_ne, zA_ne, zB_ne, zR_ne, zN_ne, bi_T, bi_F, nz16, ↓reduceIte, not_true_eq_false, not_false_eq_true, Bool.false_eq_true, reduceCtorEq, e1, c1, x1, y1, z1, hpoC.1, h29C, notI hpo.2.2 hby, w1, h29D, fa_and, w3, uA_uA]
            · obtain ⟨υ, d1, d2⟩ := mod _ seE
              rw [decide_eq_false (fun a => hn1 a.2)] at d1
              refine ⟨bi false, _, υ, ?_, seE, d1, d2⟩
              unfold fX11_could fX4_suffice
              simp (disch := omega) only [l0, l1, l2, l3, l4, l5, l6, l7, l8, l9, l10, l11, l12, l16, l18, l19, l20, l21, l24, l96, l128, l100, l144, l200, l256, l288, l1536, l1728, l1800, bnd, nI_add, pk_mul, pI_sub, pI_m1, pT_le, pF_le, pT_lt, pF_lt, pT_eq, pF_eq, pF_m1, mF_eq, mT_eq, mT_lt, mF_le, lm1, rd_nI, wr_nI, cl_nI, pk_us, un_ne, pk_uLs, uL_ne, zI_uI, zI_uJ, zI_uA, zI_uB, zI_uR, zI_uN, zJ_uI, zJ_uJ, zJ_uA, zJ_uB, zJ_uR, zJ_uN, zA_uI, zA_uJ, zA_uA, zA_uB, zA_uR, zA_uN, zB_uI, zB_uJ, zB_uA, zB_uB, zB_uR, zB_uN, zR_uI, zR_uJ, zR_uA, zR_uB, zR_uR, zR_uN, zN_uI, zN_uJ, zN_uA, zN_uB, zN_uR, zN_uN, zI_ne, zJ_ne, zA_ne, zB_ne, zR_ne, zN_ne, bi_T, bi_F, nz16, ↓reduceIte, not_true_eq_false, not_false_eq_true, Bool.false_eq_true, reduceCtorEq, e1, c1, x1, y1, z1, hpoC.1, h29C, notI hpo.2.2 hby, w1, h29D, fa_and, w3, uA_uA]
          · obtain ⟨υ, d1, d2⟩ := mod _ seD
            rw [decide_eq_false (fun a => hm1 a.1)] at d1
            refine ⟨bi false, _, υ, ?_, seD, d1, d2⟩
            unfold fX11_could fX4_suffice
            simp (disch := omega) only [l0, l1, l2, l3, l4, l5, l6, l7, l8, l9, l10, l11, l12, l16, l18, l19, l20, l21, l24, l96, l128, l100, l144, l200, l256, l288, l1536, l1728, l1800, bnd, nI_add, pk_mul, pI_sub, pI_m1, pT_le, pF_le, pT_lt, pF_lt, pT_eq, pF_eq, pF_m1, mF_eq, mT_eq, mT_lt, mF_le, lm1, rd_nI, wr_nI, cl_nI, pk_us, un_ne, pk_uLs, uL_ne, zI_uI, zI_uJ, zI_uA, zI_uB, zI_uR, zI_uN, zJ_uI, zJ_uJ, zJ_uA, zJ_uB, zJ_uR, zJ_uN, zA_uI, zA_uJ, zA_uA, zA_uB, zA_uR, zA_uN, zB_uI, zB_uJ, zB_uA, zB_uB, zB_uR, zB_uN, zR_uI, zR_uJ, zR_uA, zR_uB, zR_uR, zR_uN, zN_uI, zN_uJ, zN_uA, zN_uB, zN_uR, zN_uN, zI_ne, zJ_ne, zA_ne, zB_ne, zR_ne, zN_ne, bi_T, bi_F, nz16, ↓reduceIte, not_true_eq_false, not_false_eq_true, Bool.false_eq_true, reduceCtorEq, e1, c1, x1, y1, z1, hpoC.1, h29C, notI hpo.2.2 hby, w1]
        · refine B2.no mI ?_ ?_
          · unfold fX11_could
            simp (disch := omega) only [l0, l1, l2, l3, l4, l5, l6, l7, l8, l9, l10, l11, l12, l16, l18, l19, l20, l21, l24, l96, l128, l100, l144, l200, l256, l288, l1536, l1728, l1800, bnd, nI_add, pk_mul, pI_sub, pI_m1, pT_le, pF_le, pT_lt, pF_lt, pT_eq, pF_eq, pF_m1, mF_eq, mT_eq, mT_lt, mF_le, lm1, rd_nI, wr_nI, cl_nI, pk_us, un_ne, pk_uLs, uL_ne, zI_uI, zI_uJ, zI_uA, zI_uB, zI_uR, zI_uN, zJ_uI, zJ_uJ, zJ_uA, zJ_uB, zJ_uR, zJ_uN, zA_uI, zA_uJ, zA_uA, zA_uB, zA_uR, zA_uN, zB_uI, zB_uJ, zB_uA, zB_uB, zB_uR, zB_uN, zR_uI, zR_uJ, zR_uA, zR_uB, zR_uR, zR_uN, zN_uI, zN_uJ, zN_uA, zN_uB, zN_uR, zN_uN, zI_ne, zJ_ne, zA_ne, zB_ne, zR_ne, zN_ne, bi_T, bi_F, nz16, ↓reduceIte, not_true_eq_false, not_false_eq_true, Bool.false_eq_true, reduceCtorEq, e1, c1, x1, y1]
          · unfold fX12_could
            simp (disch := omega) only [l0, l1, l2, l3, l4, l5, l6, l7, l8, l9, l10, l11, l12, l16, l18, l19, l20, l21, l24, l96, l128, l100, l144, l200, l256, l288, l1536, l1728, l1800, bnd, nI_add, pk_mul, pI_sub, pI_m1, pT_le, pF_le, pT_lt, pF_lt, pT_eq, pF_eq, pF_m1, mF_eq, mT_eq, mT_lt, mF_le, lm1, rd_nI, wr_nI, cl_nI, pk_us, un_ne, pk_uLs, uL_ne, zI_uI, zI_uJ, zI_uA, zI_uB, zI_uR, zI_uN, zJ_uI, zJ_uJ, zJ_uA, zJ_uB, zJ_uR, zJ_uN, zA_uI, zA_uJ, zA_uA, zA_uB, zA_uR, zA_uN, zB_uI, zB_uJ, zB_uA, zB_uB, zB_uR, zB_uN, zR_uI, zR_uJ, zR_uA, zR_uB, zR_uR, zR_uN, zN_uI, zN_uJ, zN_uA, zN_uB, zN_uR, zN_uN, zI_ne, zJ_ne, zA_ne, zB_ne, zR_ne, zN_ne, bi_T, bi_F, nz16, ↓reduceIte, not_true_eq_false, not_false_eq_true, Bool.false_eq_true, reduceCtorEq, e2, c2, x2, y2]
      · refine B2.no mI ?_ ?_
        · unfold fX11_could
          simp (disch := omega) only [l0, l1, l2, l3, l4, l5, l6, l7, l8, l9, l10, l11, l12, l16, l18, l19, l20, l21, l24, l96, l128, l100, l144, l200, l256, l288, l1536, l1728, l1800, bnd, nI_add, pk_mul, pI_sub, pI_m1, pT_le, pF_le, pT_lt, pF_lt, pT_eq, pF_eq, pF_m1, mF_eq, mT_eq, mT_lt, mF_le, lm1, rd_nI, wr_nI, cl_nI, pk_us, un_ne, pk_uLs, uL_ne, zI_uI, zI_uJ, zI_uA, zI_uB, zI_uR, zI_uN, zJ_uI, zJ_uJ, zJ_uA, zJ_uB, zJ_uR, zJ_uN, zA_uI, zA_uJ, zA_uA, zA_uB, zA_uR, zA_uN, zB_uI, zB_uJ, zB_uA, zB_uB, zB_uR, zB_uN, zR_uI, zR_uJ, zR_uA, zR_uB, zR_uR, zR_uN, zN_uI, zN_uJ, zN_uA, zN_uB, zN_uR, zN_uN, zI_ne, zJ_ne, zA_ne, zB_ne, zR_ne, zN_ne, bi_T, bi_F, nz16, ↓reduceIte, not_true_eq_false, not_false_eq_true, Bool.false_eq_true, reduceCtorEq, e1, c1, x1]
        · unfold fX12_could
          simp (disch := omega) only [l0, l1, l2, l3, l4, l5, l6, l7, l8, l9, l10, l11, l12, l16, l18, l19, l20, l21, l24, l96, l128, l100, l144, l200, l256, l288, l1536, l1728, l1800, bnd, nI_add, pk_mul, pI_sub, pI_m1, pT_le, pF_le, pT_lt, pF_lt, pT_eq, pF_eq, pF_m1, mF_eq, mT_eq, mT_lt, mF_le, lm1, rd_nI, wr_nI, cl_nI, pk_us, un_ne, pk_uLs, uL_ne, zI_uI, zI_uJ, zI_uA, zI_uB, zI_uR, zI_uN, zJ_uI, zJ_uJ, zJ_uA, zJ_uB, zJ_uR, zJ_uN, zA_uI, zA_uJ, zA_uA, zA_uB, zA_uR, zA_uN, zB_uI, zB_uJ, zB_uA, zB_uB, zB_uR, zB_uN, zR_uI, zR_uJ, zR_uA, zR_uB, zR_uR, zR_uN, zN_uI, zN_uJ, zN_uA, zN_uB, zN_uR, zN_uN, zI_ne, zJ_ne, zA_ne, zB_ne, zR_ne, zN_ne, bi_T, bi_F, nz16, ↓reduceIte, not_true_eq_false, not_false_eq_true, Bool.false_eq_true, reduceCtorEq, e2, c2, x2]
    · refine B2.no mI ?_ ?_
      · unfold fX11_could
        simp (disch := omega) only [l0, l1, l2, l3, l4, l5, l6, l7, l8, l9, l10, l11, l12, l16, l18, l19, l20, l21, l24, l96, l128, l100, l144, l200, l256, l288, l1536, l1728, l1800, bnd, nI_add, pk_mul, pI_sub, pI_m1, pT_le, pF_le, pT_lt, pF_lt, pT_eq, pF_eq, pF_m1, mF_eq, mT_eq, mT_lt, mF_le, lm1, rd_nI, wr_nI, cl_nI, pk_us, un_ne, pk_uLs, uL_ne, zI_uI, zI_uJ, zI_uA, zI_uB, zI_uR, zI_uN, zJ_uI, zJ_uJ, zJ_uA, zJ_uB, zJ_uR, zJ_uN, zA_uI, zA_uJ, zA_uA, zA_uB, zA_uR, zA_uN, zB_uI, zB_uJ, zB_uA, zB_uB, zB_uR, zB_uN, zR_uI, zR_uJ, zR_uA, zR_uB, zR_uR, zR_uN, zN_uI, zN_uJ, zN_uA, zN_uB, zN_uR, zN_uN, zI_ne, zJ_ne, zA_ne, zB_ne, zR_ne, zN_ne, bi_T, bi_F, nz16, ↓reduceIte, not_true_eq_false, not_false_eq_true, Bool.false_eq_true, reduceCtorEq, e1, c1]
      · unfold fX12_could
        simp (disch := omega) only [l0, l1, l2, l3, l4, l5, l6, l7, l8, l9, l10, l11, l12, l16, l18, l19, l20, l21, l24, l96, l128, l100, l144, l200, l256, l288, l1536, l1728, l1800, bnd, nI_add, pk_mul, pI_sub, pI_m1, pT_le, pF_le, pT_lt, pF_lt, pT_eq, pF_eq, pF_m1, mF_eq, mT_eq, mT_lt, mF_le, lm1, rd_nI, wr_nI, cl_nI, pk_us, un_ne, pk_uLs, uL_ne, zI_uI, zI_uJ, zI_uA, zI_uB, zI_uR, zI_uN, zJ_uI, zJ_uJ, zJ_uA, zJ_uB, zJ_uR, zJ_uN, zA_uI, zA_uJ, zA_uA, zA_uB, zA_uR, zA_uN, zB_uI, zB_uJ, zB_uA, zB_uB, zB_uR, zB_uN, zR_uI, zR_uJ, zR_uA, zR_uB, zR_uR, zR_uN, zN_uI, zN_uJ, zN_uA, zN_uB, zN_uR, zN_uN, zI_ne, zJ_ne, zA_ne, zB_ne, zR_ne, zN_ne, bi_T, bi_F, nz16, ↓reduceIte, not_true_eq_false, not_false_eq_true, Bool.false_eq_true, reduceCtorEq, e2, c2]
  · have e1 := (e σ (SE.rf σ)).1
    have e2 := (e _ s3).2
    refine B2.no mI ?_ ?_
    · unfold fX11_could
      simp (disch := omega) only [l0, l1, l2, l3, l4, l5, l6, l7, l8, l9, l10, l11, l12, l16, l18, l19, l20, l21, l24, l96, l128, l100, l144, l200, l256, l288, l1536, l1728, l1800, bnd, nI_add, pk_mul, pI_sub, pI_m1, pT_le, pF_le, pT_lt, pF_lt, pT_eq, pF_eq, pF_m1, mF_eq, mT_eq, mT_lt, mF_le, lm1, rd_nI, wr_nI, cl_nI, pk_us, un_ne, pk_uLs, uL_ne, zI_uI, zI_uJ, zI_uA, zI_uB, zI_uR, zI_uN, zJ_uI, zJ_uJ, zJ_uA, zJ_uB, zJ_uR, zJ_uN, zA_uI, zA_uJ, zA_uA, zA_uB, zA_uR, zA_uN, zB_uI, zB_uJ, zB_uA, zB_uB, zB_uR, zB_uN, zR_uI, zR_uJ, zR_uA, zR_uB, zR_uR, zR_uN, zN_uI, zN_uJ, zN_uA, zN_uB, zN_uR, zN_uN, zI_ne, zJ_ne, zA_ne, zB_ne, zR_ne, zN_ne, bi_T, bi_F, nz16, ↓reduceIte, not_true_eq_false, not_false_eq_true, Bool.false_eq_true, reduceCtorEq, e1]
    · unfold fX12_could
      simp (disch := omega) only [l0, l1, l2, l3, l4, l5, l6, l7, l8, l9, l10, l11, l12, l16, l18, l19, l20, l21, l24, l96, l128, l100, l144, l200, l256, l288, l1536, l1728, l1800, bnd, nI_add, pk_mul, pI_sub, pI_m1, pT_le, pF_le, pT_lt, pF_lt, pT_eq, pF_eq, pF_m1, mF_eq, mT_eq, mT_lt, mF_le, lm1, rd_nI, wr_nI, cl_nI, pk_us, un_ne, pk_uLs, uL_ne, zI_uI, zI_uJ, zI_uA, zI_uB, zI_uR, zI_uN, zJ_uI, zJ_uJ, zJ_uA, zJ_uB, zJ_uR, zJ_uN, zA_uI, zA_uJ, zA_uA, zA_uB, zA_uR, zA_uN, zB_uI, zB_uJ, zB_uA, zB_uB, zB_uR, zB_uN, zR_uI, zR_uJ, zR_uA, zR_uB, zR_uR, zR_uN, zN_uI, zN_uJ, zN_uA, zN_uB, zN_uR, zN_uN, zI_ne, zJ_ne, zA_ne, zB_ne, zR_ne, zN_ne, bi_T, bi_F, nz16, ↓reduceIte, not_true_eq_false, not_false_eq_true, Bool.false_eq_true, reduceCtorEq, e2]
