/-! the class's worth of a habit at two words *-/
def cV (x : Int32) : Int32 := if 0 < (if x < 100 then x else 100) then (if x < 100 then x else 100) else 0
theorem j_clamp (x : Int32) {α : Type} (f : Int32 → Option α) : ((fJ9_min_7cf53 (100 : Int32) x).bind fun a => (fJ9_max_7cf53 (0 : Int32) a).bind f) = f (cV x) := by
  have h1 : fJ9_min_7cf53 (100 : Int32) x = some (if x < 100 then x else 100) := by
    unfold fJ9_min_7cf53
    split <;> rfl
  have h2 : ∀ a, fJ9_max_7cf53 (0 : Int32) a = some (if 0 < a then a else 0) := by
    intro a
    unfold fJ9_max_7cf53
    split <;> rfl
  rw [h1, bnd, h2, bnd]
  rfl
def eW (w1 w2 : Wd) : En := evS w1.length (vwN w1) (w1.getD 0 0) (w1.getD (w1.length - 1) 0) w2.length
theorem eW_b {w1 w2 : Wd} (hw1 : okL w1) (h1 : 1 ≤ w1.length) (hw2 : okL w2) : w1.length < 1000 ∧ vwN w1 < 1000 ∧ w1.getD 0 0 < 1000 ∧ w1.getD (w1.length - 1) 0 < 1000 ∧ w2.length < 1000 := by
  have a1 := hw1.1
  have a2 := hw2.1
  have a3 : vwN w1 ≤ w1.length := vwU_le w1 w1.length
  have a4 := hw1.2 _ (getD_mem (d := 0) (l := w1) (k := 0) (by omega))
  have a5 := hw1.2 _ (getD_mem (d := 0) (l := w1) (k := w1.length - 1) (by omega))
  omega
theorem c_worthOf {σ : St} {nh k : Nat} {hb : Nat → List Nat} {w1 w2 : Wd} (hk : k < nh) (hn : nh ≤ 4) (h11 : zI σ 11 = nI nh) (hX : HX σ nh hb) (h22 : P22 σ) (hw1 : okL w1) (hw1n : 1 ≤ w1.length) (hw2 : okL w2) : ∃ τ, fX1_worthOf σ (nI k) (lN (enc w1)) (lN (enc w2)) = some (cV (iI (pHab (eW w1 w2) (hb k)).1), τ) ∧ FR [] [] [9, 10, 12, 13, 14, 15, 16] [] (uR σ 2 (83 + k)) τ ∧ E15 τ := by
  obtain ⟨b1, b2, b3, b4, b5, b6, b7⟩ := hX k hk
  obtain ⟨n1, n2, n3, n4, n5⟩ := eW_b hw1 hw1n hw2
  have e1 := c_letters hw1
  have e2 := c_vowels hw1
  have e3 := c_first hw1 hw1n
  have e4 := c_letters hw2
  have e5 := c_letter hw1 (b := 0) (by omega)
  rw [Nat.sub_zero] at e5
  obtain ⟨s2, hs2⟩ : ∃ s2, s2 = uI (uI (uR (uI (uI (uI (uI (uJ σ 0 (lN (enc w1))) 12 (nI w1.length)) 13 (nI (vwN w1))) 14 (nI (w1.getD 0 0))) 15 (nI w2.length)) 2 (83 + k)) 9 (nI 0)) 10 mI := ⟨_, rfl⟩
  have hF2 : FR [] [] [9, 10, 12, 13, 14, 15, 16] [] (uR σ 2 (83 + k)) s2 := by
    have h0 : FR [] [] [9, 10, 12, 13, 14, 15, 16] [] σ (uJ σ 0 (lN (enc w1))) := ⟨fun _ _ => rfl, fun _ _ => rfl, fun _ _ => rfl, fun _ _ => rfl, rfl⟩
    have h1 := FR.uI (q := 15) (f := nI w2.length) (FR.uI (q := 14) (f := nI (w1.getD 0 0)) (FR.uI (q := 13) (f := nI (vwN w1)) (FR.uI (q := 12) (f := nI w1.length) h0 (by decide)) (by decide)) (by decide)) (by decide)
    rw [hs2]
    exact FR.uI (FR.uI h1.uR2 (by decide)) (by decide)
  have hS2 : HS s2 (83 + k) (tkF Jh 4 gh (hb k)) (.inr (tkF Jh 4 gh (hb k))) := by
    refine ⟨?_, by omega, ?_, fun j hj => ?_, fun hq => by omega, fun j hj => ?_, b3, [], rfl, ?_⟩
    · rw [hs2, zR_uI, zR_uI, zR_uR]
    · rw [hs2, zI_uI]
    · rw [hs2]
      exact b5 j hj
    · rw [hs2]
      exact h22 j hj
    · rw [hs2, zI_ne (by decide), zI_uI]
      rfl
  have hE2 : EC s2 (eW w1 w2) := by
    refine ⟨w1.length, vwN w1, w1.getD 0 0, w1.getD (w1.length - 1) 0, w2.length, n1, n2, n3, n4, n5, ?_, ?_, ?_, ?_, ?_, rfl⟩
    · rw [hs2]; simp (disch := omega) only [l0, l1, l2, l3, l4, l5, l6, l7, l8, l9, l10, l11, l12, l16, l18, l19, l20, l21, l24, l96, l128, l100, l144, l200, l256, l288, l1536, l1728, l1800, bnd, nI_add, pk_mul, pI_sub, pI_m1, pT_le, pF_le, pT_lt, pF_lt, pT_eq, pF_eq, pF_m1, mF_eq, mT_eq, mT_lt, mF_le, lm1, rd_nI, wr_nI, cl_nI, pk_us, un_ne, pk_uLs, uL_ne, zI_uI, zI_uJ, zI_uA, zI_uB, zI_uR, zI_uN, zJ_uI, zJ_uJ, zJ_uA, zJ_uB, zJ_uR, zJ_uN, zA_uI, zA_uJ, zA_uA, zA_uB, zA_uR, zA_uN, zB_uI, zB_uJ, zB_uA, zB_uB, zB_uR, zB_uN, zR_uI, zR_uJ, zR_uA, zR_uB, zR_uR, zR_uN, zN_uI, zN_uJ, zN_uA, zN_uB, zN_uR, zN_uN, zI_ne, zJ_ne, zA_ne, zB_ne, zR_ne, zN_ne, bi_T, bi_F, nz16, ↓reduceIte, not_true_eq_false, not_false_eq_true, Bool.false_eq_true, reduceCtorEq]
    · rw [hs2]; simp (disch := omega) only [l0, l1, l2, l3, l4, l5, l6, l7, l8, l9, l10, l11, l12, l16, l18, l19, l20, l21, l24, l96, l128, l100, l144, l200, l256, l288, l1536, l1728, l1800, bnd, nI_add, pk_mul, pI_sub, pI_m1, pT_le, pF_le, pT_lt, pF_lt, pT_eq, pF_eq, pF_m1, mF_eq, mT_eq, mT_lt, mF_le, lm1, rd_nI, wr_nI, cl_nI, pk_us, un_ne, pk_uLs, uL_ne, zI_uI, zI_uJ, zI_uA, zI_uB, zI_uR, zI_uN, zJ_uI, zJ_uJ, zJ_uA, zJ_uB, zJ_uR, zJ_uN, zA_uI, zA_uJ, zA_uA, zA_uB, zA_uR, zA_uN, zB_uI, zB_uJ, zB_uA, zB_uB, zB_uR, zB_uN, zR_uI, zR_uJ, zR_uA, zR_uB, zR_uR, zR_uN, zN_uI, zN_uJ, zN_uA, zN_uB, zN_uR, zN_uN, zI_ne, zJ_ne, zA_ne, zB_ne, zR_ne, zN_ne, bi_T, bi_F, nz16, ↓reduceIte, not_true_eq_false, not_false_eq_true, Bool.false_eq_true, reduceCtorEq]
    · rw [hs2]; simp (disch := omega) only [l0, l1, l2, l3, l4, l5, l6, l7, l8, l9, l10, l11, l12, l16, l18, l19, l20, l21, l24, l96, l128, l100, l144, l200, l256, l288, l1536, l1728, l1800, bnd, nI_add, pk_mul, pI_sub, pI_m1, pT_le, pF_le, pT_lt, pF_lt, pT_eq, pF_eq, pF_m1, mF_eq, mT_eq, mT_lt, mF_le, lm1, rd_nI, wr_nI, cl_nI, pk_us, un_ne, pk_uLs, uL_ne, zI_uI, zI_uJ, zI_uA, zI_uB, zI_uR, zI_uN, zJ_uI, zJ_uJ, zJ_uA, zJ_uB, zJ_uR, zJ_uN, zA_uI, zA_uJ, zA_uA, zA_uB, zA_uR, zA_uN, zB_uI, zB_uJ, zB_uA, zB_uB, zB_uR, zB_uN, zR_uI, zR_uJ, zR_uA, zR_uB, zR_uR, zR_uN, zN_uI, zN_uJ, zN_uA, zN_uB, zN_uR, zN_uN, zI_ne, zJ_ne, zA_ne, zB_ne, zR_ne, zN_ne, bi_T, bi_F, nz16, ↓reduceIte, not_true_eq_false, not_false_eq_true, Bool.false_eq_true, reduceCtorEq]
    · rw [hs2]; simp (disch := omega) only [l0, l1, l2, l3, l4, l5, l6, l7, l8, l9, l10, l11, l12, l16, l18, l19, l20, l21, l24, l96, l128, l100, l144, l200, l256, l288, l1536, l1728, l1800, bnd, nI_add, pk_mul, pI_sub, pI_m1, pT_le, pF_le, pT_lt, pF_lt, pT_eq, pF_eq, pF_m1, mF_eq, mT_eq, mT_lt, mF_le, lm1, rd_nI, wr_nI, cl_nI, pk_us, un_ne, pk_uLs, uL_ne, zI_uI, zI_uJ, zI_uA, zI_uB, zI_uR, zI_uN, zJ_uI, zJ_uJ, zJ_uA, zJ_uB, zJ_uR, zJ_uN, zA_uI, zA_uJ, zA_uA, zA_uB, zA_uR, zA_uN, zB_uI, zB_uJ, zB_uA, zB_uB, zB_uR, zB_uN, zR_uI, zR_uJ, zR_uA, zR_uB, zR_uR, zR_uN, zN_uI, zN_uJ, zN_uA, zN_uB, zN_uR, zN_uN, zI_ne, zJ_ne, zA_ne, zB_ne, zR_ne, zN_ne, bi_T, bi_F, nz16, ↓reduceIte, not_true_eq_false, not_false_eq_true, Bool.false_eq_true, reduceCtorEq]
    · rw [hs2]
      exact e5
  obtain ⟨s3, g1, g2, g3, g4⟩ := c_takeAll_h hS2 (gX_F b1 b2 b3) hE2
  have hF3 : FR [] [] [9, 10, 12, 13, 14, 15, 16] [] (uR σ 2 (83 + k)) s3 := hF2.tr (FR.mono g3.1 (by decide) (by decide) (by decide) (by decide))
  refine ⟨s3, ?_, hF3, w1.length, vwN w1, w1.getD 0 0, w2.length, n1, n2, n3, n5, ?_, ?_, ?_, ?_⟩
  · have hhas : fX1_has σ (nI k) = some true := by
      unfold fX1_has
      simp (disch := omega) only [l0, l1, l2, l3, l4, l5, l6, l7, l8, l9, l10, l11, l12, l16, l18, l19, l20, l21, l24, l96, l128, l100, l144, l200, l256, l288, l1536, l1728, l1800, bnd, nI_add, pk_mul, pI_sub, pI_m1, pT_le, pF_le, pT_lt, pF_lt, pT_eq, pF_eq, pF_m1, mF_eq, mT_eq, mT_lt, mF_le, lm1, rd_nI, wr_nI, cl_nI, pk_us, un_ne, pk_uLs, uL_ne, zI_uI, zI_uJ, zI_uA, zI_uB, zI_uR, zI_uN, zJ_uI, zJ_uJ, zJ_uA, zJ_uB, zJ_uR, zJ_uN, zA_uI, zA_uJ, zA_uA, zA_uB, zA_uR, zA_uN, zB_uI, zB_uJ, zB_uA, zB_uB, zB_uR, zB_uN, zR_uI, zR_uJ, zR_uA, zR_uB, zR_uR, zR_uN, zN_uI, zN_uJ, zN_uA, zN_uB, zN_uR, zN_uN, zI_ne, zJ_ne, zA_ne, zB_ne, zR_ne, zN_ne, bi_T, bi_F, nz16, ↓reduceIte, not_true_eq_false, not_false_eq_true, Bool.false_eq_true, reduceCtorEq, h11]
    have hrd : rd (fun j => 83 + j) 4 (nI k) = some (83 + k) := by
      simp (disch := omega) only [l0, l1, l2, l3, l4, l5, l6, l7, l8, l9, l10, l11, l12, l16, l18, l19, l20, l21, l24, l96, l128, l100, l144, l200, l256, l288, l1536, l1728, l1800, bnd, nI_add, pk_mul, pI_sub, pI_m1, pT_le, pF_le, pT_lt, pF_lt, pT_eq, pF_eq, pF_m1, mF_eq, mT_eq, mT_lt, mF_le, lm1, rd_nI, wr_nI, cl_nI, pk_us, un_ne, pk_uLs, uL_ne, zI_uI, zI_uJ, zI_uA, zI_uB, zI_uR, zI_uN, zJ_uI, zJ_uJ, zJ_uA, zJ_uB, zJ_uR, zJ_uN, zA_uI, zA_uJ, zA_uA, zA_uB, zA_uR, zA_uN, zB_uI, zB_uJ, zB_uA, zB_uB, zB_uR, zB_uN, zR_uI, zR_uJ, zR_uA, zR_uB, zR_uR, zR_uN, zN_uI, zN_uJ, zN_uA, zN_uB, zN_uR, zN_uN, zI_ne, zJ_ne, zA_ne, zB_ne, zR_ne, zN_ne, bi_T, bi_F, nz16, ↓reduceIte, not_true_eq_false, not_false_eq_true, Bool.false_eq_true, reduceCtorEq]
    have hbe : fX5_begin_h (uI (uI (uI (uI (uJ σ 0 (lN (enc w1))) 12 (nI w1.length)) 13 (nI (vwN w1))) 14 (nI (w1.getD 0 0))) 15 (nI w2.length)) (83 + k) = some s2 := by rw [hs2]; rfl
    have g4 : zI s3 16 = iI (pHab (eW w1 w2) (hb k)).1 := g4
    unfold fX1_worthOf
    rw [hhas, bnd, if_neg biT0, bnd, e1, bnd, bnd, e2, bnd, bnd, e3, bnd, bnd, e4, bnd, bnd, hrd, bnd, hbe, bnd, g1, bnd, j_clamp, g4]
  · rw [g3.1.2.2.1 12 (by decide), hs2]; simp (disch := omega) only [l0, l1, l2, l3, l4, l5, l6, l7, l8, l9, l10, l11, l12, l16, l18, l19, l20, l21, l24, l96, l128, l100, l144, l200, l256, l288, l1536, l1728, l1800, bnd, nI_add, pk_mul, pI_sub, pI_m1, pT_le, pF_le, pT_lt, pF_lt, pT_eq, pF_eq, pF_m1, mF_eq, mT_eq, mT_lt, mF_le, lm1, rd_nI, wr_nI, cl_nI, pk_us, un_ne, pk_uLs, uL_ne, zI_uI, zI_uJ, zI_uA, zI_uB, zI_uR, zI_uN, zJ_uI, zJ_uJ, zJ_uA, zJ_uB, zJ_uR, zJ_uN, zA_uI, zA_uJ, zA_uA, zA_uB, zA_uR, zA_uN, zB_uI, zB_uJ, zB_uA, zB_uB, zB_uR, zB_uN, zR_uI, zR_uJ, zR_uA, zR_uB, zR_uR, zR_uN, zN_uI, zN_uJ, zN_uA, zN_uB, zN_uR, zN_uN, zI_ne, zJ_ne, zA_ne, zB_ne, zR_ne, zN_ne, bi_T, bi_F, nz16, ↓reduceIte, not_true_eq_false, not_false_eq_true, Bool.false_eq_true, reduceCtorEq]
  · rw [g3.1.2.2.1 13 (by decide), hs2]; simp (disch := omega) only [l0, l1, l2, l3, l4, l5, l6, l7, l8, l9, l10, l11, l12, l16, l18, l19, l20, l21, l24, l96, l128, l100, l144, l200, l256, l288, l1536, l1728, l1800, bnd, nI_add, pk_mul, pI_sub, pI_m1, pT_le, pF_le, pT_lt, pF_lt, pT_eq, pF_eq, pF_m1, mF_eq, mT_eq, mT_lt, mF_le, lm1, rd_nI, wr_nI, cl_nI, pk_us, un_ne, pk_uLs, uL_ne, zI_uI, zI_uJ, zI_uA, zI_uB, zI_uR, zI_uN, zJ_uI, zJ_uJ, zJ_uA, zJ_uB, zJ_uR, zJ_uN, zA_uI, zA_uJ, zA_uA, zA_uB, zA_uR, zA_uN, zB_uI, zB_uJ, zB_uA, zB_uB, zB_uR, zB_uN, zR_uI, zR_uJ, zR_uA, zR_uB, zR_uR, zR_uN, zN_uI, zN_uJ, zN_uA, zN_uB, zN_uR, zN_uN, zI_ne, zJ_ne, zA_ne, zB_ne, zR_ne, zN_ne, bi_T, bi_F, nz16, ↓reduceIte, not_true_eq_false, not_false_eq_true, Bool.false_eq_true, reduceCtorEq]
  · rw [g3.1.2.2.1 14 (by decide), hs2]; simp (disch := omega) only [l0, l1, l2, l3, l4, l5, l6, l7, l8, l9, l10, l11, l12, l16, l18, l19, l20, l21, l24, l96, l128, l100, l144, l200, l256, l288, l1536, l1728, l1800, bnd, nI_add, pk_mul, pI_sub, pI_m1, pT_le, pF_le, pT_lt, pF_lt, pT_eq, pF_eq, pF_m1, mF_eq, mT_eq, mT_lt, mF_le, lm1, rd_nI, wr_nI, cl_nI, pk_us, un_ne, pk_uLs, uL_ne, zI_uI, zI_uJ, zI_uA, zI_uB, zI_uR, zI_uN, zJ_uI, zJ_uJ, zJ_uA, zJ_uB, zJ_uR, zJ_uN, zA_uI, zA_uJ, zA_uA, zA_uB, zA_uR, zA_uN, zB_uI, zB_uJ, zB_uA, zB_uB, zB_uR, zB_uN, zR_uI, zR_uJ, zR_uA, zR_uB, zR_uR, zR_uN, zN_uI, zN_uJ, zN_uA, zN_uB, zN_uR, zN_uN, zI_ne, zJ_ne, zA_ne, zB_ne, zR_ne, zN_ne, bi_T, bi_F, nz16, ↓reduceIte, not_true_eq_false, not_false_eq_true, Bool.false_eq_true, reduceCtorEq]
  · rw [g3.1.2.2.1 15 (by decide), hs2]; simp (disch := omega) only [l0, l1, l2, l3, l4, l5, l6, l7, l8, l9, l10, l11, l12, l16, l18, l19, l20, l21, l24, l96, l128, l100, l144, l200, l256, l288, l1536, l1728, l1800, bnd, nI_add, pk_mul, pI_sub, pI_m1, pT_le, pF_le, pT_lt, pF_lt, pT_eq, pF_eq, pF_m1, mF_eq, mT_eq, mT_lt, mF_le, lm1, rd_nI, wr_nI, cl_nI, pk_us, un_ne, pk_uLs, uL_ne, zI_uI, zI_uJ, zI_uA, zI_uB, zI_uR, zI_uN, zJ_uI, zJ_uJ, zJ_uA, zJ_uB, zJ_uR, zJ_uN, zA_uI, zA_uJ, zA_uA, zA_uB, zA_uR, zA_uN, zB_uI, zB_uJ, zB_uA, zB_uB, zB_uR, zB_uN, zR_uI, zR_uJ, zR_uA, zR_uB, zR_uR, zR_uN, zN_uI, zN_uJ, zN_uA, zN_uB, zN_uR, zN_uN, zI_ne, zJ_ne, zA_ne, zB_ne, zR_ne, zN_ne, bi_T, bi_F, nz16, ↓reduceIte, not_true_eq_false, not_false_eq_true, Bool.false_eq_true, reduceCtorEq]
