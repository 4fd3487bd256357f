/-! the model's worth of a habit at two words: the value *-/
theorem m_vow {σ : St} {w : Wd} {r f : Nat} {p0 p4 : Int32} (k1 : Int32 → Option (Int32 × St)) (hw : okL w) (hr : r ≤ 8) (hf : f + w.length ≤ 200) (hc : ∀ j, j < w.length → zA σ 56 (200 * r + (f + j)) = nI (96 + w.getD j 0)) : fX12_worthOf_P6 p0 (nI r) (nI f) (nI w.length) p4 k1 σ (nI 0) (nI 0) = k1 (nI (vwN w)) := by
  have hl := hw.1
  refine it_for (β := Unit) w.length (by omega) (fun k _ => (nI (vwU w k), nI k)) (fun _ _ => True) (fun _ _ o => o = k1 (nI (vwN w))) ?_ 0 () (Nat.zero_le _) trivial
  intro i _ hi _ kb hkb
  show fX12_worthOf_L6 p0 (nI r) (nI f) (nI w.length) p4 k1 (fun v6 v7 => kb (v6, v7)) σ (nI (vwU w i)) (nI i) = _
  unfold fX12_worthOf_L6
  have hle := vwU_le w i
  by_cases h8 : i = w.length
  · rw [h8, if_pos (by rw [pT_le (Nat.le_refl _) (by omega)]; trivial)]
    rfl
  · have nx := hkb () (by omega) trivial
    have nx : kb (nI (vwU w i + vv w i), nI (i + 1)) = k1 (nI (vwN w)) := nx
    have hci := hc i (by omega)
    have hc26 := hw.2 _ (getD_mem (d := 0) (l := w) (k := i) (by omega))
    have ham := am202 (c := w.getD i 0) (by omega)
    unfold vv at nx
    rw [if_neg (by rw [pF_le (by omega) (by omega)]; exact fun h => h)]
    have hrd : rd (zA σ 56) 1800 (nI 200 * nI r + nI f + nI i) = some (nI (96 + w.getD i 0)) := by
      have e : 200 * r + f + i = 200 * r + (f + i) := by omega
      rw [← hci, ← e]
      simp (disch := omega) only [l0, l1, l2, l3, l4, l5, l6, l7, l8, l9, l10, l11, l12, l16, l18, l19, l20, l21, l24, l96, l128, l100, l144, l200, l256, l288, l1536, l1728, l1800, bnd, nI_add, pk_mul, pI_sub, pI_m1, pT_le, pF_le, pT_lt, pF_lt, pT_eq, pF_eq, pF_m1, mF_eq, mT_eq, mT_lt, mF_le, lm1, rd_nI, wr_nI, cl_nI, pk_us, un_ne, pk_uLs, uL_ne, zI_uI, zI_uJ, zI_uA, zI_uB, zI_uR, zI_uN, zJ_uI, zJ_uJ, zJ_uA, zJ_uB, zJ_uR, zJ_uN, zA_uI, zA_uJ, zA_uA, zA_uB, zA_uR, zA_uN, zB_uI, zB_uJ, zB_uA, zB_uB, zB_uR, zB_uN, zR_uI, zR_uJ, zR_uA, zR_uB, zR_uR, zR_uN, zN_uI, zN_uJ, zN_uA, zN_uB, zN_uR, zN_uN, zI_ne, zJ_ne, zA_ne, zB_ne, zR_ne, zN_ne, bi_T, bi_F, nz16, ↓reduceIte, not_true_eq_false, not_false_eq_true, Bool.false_eq_true, reduceCtorEq]
    rw [l200, hrd, bnd, ham, bnd, l0, l1, nI_add, nI_add, nI_add]
    cases hv : isV (w.getD i 0) with
    | true =>
      rw [hv, if_pos rfl] at nx
      rw [bi_T, if_neg (by decide), bnd]
      exact nx
    | false =>
      rw [hv, if_neg (by decide)] at nx
      rw [bi_F, if_pos rfl, bnd]
      exact nx
theorem m_worthOf {σ : St} {nh k r f : Nat} {hb : Nat → List Nat} {w1 w2 : Wd} (hk : k < nh) (hn : nh ≤ 4) (hX : HX σ nh hb) (hw1 : okL w1) (hw1n : 1 ≤ w1.length) (hw2 : okL w2) (hr : r ≤ 8) (hf : f + w1.length ≤ 200) (hc : ∀ j, j < w1.length → zA σ 56 (200 * r + (f + j)) = nI (96 + w1.getD j 0)) : ∃ υ, fX12_worthOf σ (nI k) (nI r) (nI f) (nI w1.length) (nI w2.length) = some (cV (iI (pHab (eW w1 w2) (hb k)).1), υ) ∧ SE σ υ := by
  obtain ⟨b1, b2, b3, b4, b5, b6, b7⟩ := hX k hk
  obtain ⟨n1, n2, n3, n4, n5⟩ := eW_b hw1 hw1n hw2
  have a1 := hw1.1
  obtain ⟨y1, hy1⟩ : ∃ y1, y1 = uA (uA σ 59 (upd (zA σ 59) 110 (nI w1.length))) 59 (upd (upd (zA σ 59) 110 (nI w1.length)) 118 (nI (vwN w1))) := ⟨_, rfl⟩
  obtain ⟨F, hF⟩ : ∃ F, F = upd (upd (upd (upd (upd (zA σ 59) 110 (nI w1.length)) 118 (nI (vwN w1))) 102 (nI (w1.getD 0 0))) 108 (nI (w1.getD (w1.length - 1) 0))) 119 (nI w2.length) := ⟨_, rfl⟩
  obtain ⟨y, hy⟩ : ∃ y, y = uA (uA (uA y1 59 (upd (upd (upd (zA σ 59) 110 (nI w1.length)) 118 (nI (vwN w1))) 102 (nI (w1.getD 0 0)))) 59 (upd (upd (upd (upd (zA σ 59) 110 (nI w1.length)) 118 (nI (vwN w1))) 102 (nI (w1.getD 0 0))) 108 (nI (w1.getD (w1.length - 1) 0)))) 59 F := ⟨_, rfl⟩
  have hFy : FR [59] [] [] [] σ y := by
    rw [hy, hy1]
    exact FR.uA (FR.uA (FR.uA (FR.uA (FR.uA (FR.rf _ _ _ _ _) (by decide)) (by decide)) (by decide)) (by decide)) (by decide)
  have h59 : zA y 59 = F := by rw [hy, zA_uA]
  have hE : EM y (eW w1 w2) := by
    intro s v hv
    rw [h59, hF]
    unfold eW evS at hv
    by_cases c1 : s = 102
    · rw [if_pos c1] at hv
      cases hv
      rw [iI_nat, c1, un_ne (by decide), un_ne (by decide), pk_us]
    · rw [if_neg c1] at hv
      by_cases c2 : s = 108
      · rw [if_pos c2] at hv
        cases hv
        rw [iI_nat, c2, un_ne (by decide), pk_us]
      · rw [if_neg c2] at hv
        by_cases c3 : s = 110
        · rw [if_pos c3] at hv
          cases hv
          rw [iI_nat, c3, un_ne (by decide), un_ne (by decide), un_ne (by decide), un_ne (by decide), pk_us]
        · rw [if_neg c3] at hv
          by_cases c4 : s = 118
          · rw [if_pos c4] at hv
            cases hv
            rw [iI_nat, c4, un_ne (by decide), un_ne (by decide), un_ne (by decide), pk_us]
          · rw [if_neg c4] at hv
            by_cases c5 : s = 119
            · rw [if_pos c5] at hv
              cases hv
              rw [iI_nat, c5, pk_us]
            · rw [if_neg c5] at hv
              cases hv
  have hEC : eB (eW w1 w2) := by
    have h : EC (uI (uI (uI (uI (uJ σ 0 (lN (enc w1))) 12 (nI w1.length)) 13 (nI (vwN w1))) 14 (nI (w1.getD 0 0))) 15 (nI w2.length)) (eW w1 w2) := by
      have e5 := c_letter hw1 (b := 0) (by omega)
      rw [Nat.sub_zero] at e5
      exact ⟨w1.length, vwN w1, w1.getD 0 0, w1.getD (w1.length - 1) 0, w2.length, n1, n2, n3, n4, n5, by simp (disch := omega) only [l0, l1, l2, l3, l4, l5, l6, l7, l8, l9, l10, l11, l12, l16, l18, l19, l20, l21, l24, l96, l128, l100, l144, l200, l256, l288, l1536, l1728, l1800, bnd, nI_add, pk_mul, pI_sub, pI_m1, pT_le, pF_le, pT_lt, pF_lt, pT_eq, pF_eq, pF_m1, mF_eq, mT_eq, mT_lt, mF_le, lm1, rd_nI, wr_nI, cl_nI, pk_us, un_ne, pk_uLs, uL_ne, zI_uI, zI_uJ, zI_uA, zI_uB, zI_uR, zI_uN, zJ_uI, zJ_uJ, zJ_uA, zJ_uB, zJ_uR, zJ_uN, zA_uI, zA_uJ, zA_uA, zA_uB, zA_uR, zA_uN, zB_uI, zB_uJ, zB_uA, zB_uB, zB_uR, zB_uN, zR_uI, zR_uJ, zR_uA, zR_uB, zR_uR, zR_uN, zN_uI, zN_uJ, zN_uA, zN_uB, zN_uR, zN_uN, zI_ne, zJ_ne, zA_ne, zB_ne, zR_ne, zN_ne, bi_T, bi_F, nz16, ↓reduceIte, not_true_eq_false, not_false_eq_true, Bool.false_eq_true, reduceCtorEq], by simp (disch := omega) only [l0, l1, l2, l3, l4, l5, l6, l7, l8, l9, l10, l11, l12, l16, l18, l19, l20, l21, l24, l96, l128, l100, l144, l200, l256, l288, l1536, l1728, l1800, bnd, nI_add, pk_mul, pI_sub, pI_m1, pT_le, pF_le, pT_lt, pF_lt, pT_eq, pF_eq, pF_m1, mF_eq, mT_eq, mT_lt, mF_le, lm1, rd_nI, wr_nI, cl_nI, pk_us, un_ne, pk_uLs, uL_ne, zI_uI, zI_uJ, zI_uA, zI_uB, zI_uR, zI_uN, zJ_uI, zJ_uJ, zJ_uA, zJ_uB, zJ_uR, zJ_uN, zA_uI, zA_uJ, zA_uA, zA_uB, zA_uR, zA_uN, zB_uI, zB_uJ, zB_uA, zB_uB, zB_uR, zB_uN, zR_uI, zR_uJ, zR_uA, zR_uB, zR_uR, zR_uN, zN_uI, zN_uJ, zN_uA, zN_uB, zN_uR, zN_uN, zI_ne, zJ_ne, zA_ne, zB_ne, zR_ne, zN_ne, bi_T, bi_F, nz16, ↓reduceIte, not_true_eq_false, not_false_eq_true, Bool.false_eq_true, reduceCtorEq], by simp (disch := omega) only [l0, l1, l2, l3, l4, l5, l6, l7, l8, l9, l10, l11, l12, l16, l18, l19, l20, l21, l24, l96, l128, l100, l144, l200, l256, l288, l1536, l1728, l1800, bnd, nI_add, pk_mul, pI_sub, pI_m1, pT_le, pF_le, pT_lt, pF_lt, pT_eq, pF_eq, pF_m1, mF_eq, mT_eq, mT_lt, mF_le, lm1, rd_nI, wr_nI, cl_nI, pk_us, un_ne, pk_uLs, uL_ne, zI_uI, zI_uJ, zI_uA, zI_uB, zI_uR, zI_uN, zJ_uI, zJ_uJ, zJ_uA, zJ_uB, zJ_uR, zJ_uN, zA_uI, zA_uJ, zA_uA, zA_uB, zA_uR, zA_uN, zB_uI, zB_uJ, zB_uA, zB_uB, zB_uR, zB_uN, zR_uI, zR_uJ, zR_uA, zR_uB, zR_uR, zR_uN, zN_uI, zN_uJ, zN_uA, zN_uB, zN_uR, zN_uN, zI_ne, zJ_ne, zA_ne, zB_ne, zR_ne, zN_ne, bi_T, bi_F, nz16, ↓reduceIte, not_true_eq_false, not_false_eq_true, Bool.false_eq_true, reduceCtorEq], by simp (disch := omega) only [l0, l1, l2, l3, l4, l5, l6, l7, l8, l9, l10, l11, l12, l16, l18, l19, l20, l21, l24, l96, l128, l100, l144, l200, l256, l288, l1536, l1728, l1800, bnd, nI_add, pk_mul, pI_sub, pI_m1, pT_le, pF_le, pT_lt, pF_lt, pT_eq, pF_eq, pF_m1, mF_eq, mT_eq, mT_lt, mF_le, lm1, rd_nI, wr_nI, cl_nI, pk_us, un_ne, pk_uLs, uL_ne, zI_uI, zI_uJ, zI_uA, zI_uB, zI_uR, zI_uN, zJ_uI, zJ_uJ, zJ_uA, zJ_uB, zJ_uR, zJ_uN, zA_uI, zA_uJ, zA_uA, zA_uB, zA_uR, zA_uN, zB_uI, zB_uJ, zB_uA, zB_uB, zB_uR, zB_uN, zR_uI, zR_uJ, zR_uA, zR_uB, zR_uR, zR_uN, zN_uI, zN_uJ, zN_uA, zN_uB, zN_uR, zN_uN, zI_ne, zJ_ne, zA_ne, zB_ne, zR_ne, zN_ne, bi_T, bi_F, nz16, ↓reduceIte, not_true_eq_false, not_false_eq_true, Bool.false_eq_true, reduceCtorEq], e5, rfl⟩
    exact h.eb
  have hda : ∀ j, j < (hb k).length → zA y 57 (200 * k + j) = sbv ((hb k).getD j 0) := by
    intro j hj
    rw [hFy.1 57 (by decide)]
    exact b7 j hj
  obtain ⟨υ, g1, g2, g3, g4⟩ := m_go_57 (σ := y) (b0 := 200 * k) (bs := hb k) ⟨bnd6_n n1, bnd6_n n2, bnd6_n n3, bnd6_n n4, bnd6_n n5⟩ hEC (by omega) hda b1 b2 (gX_F b1 b2 b3)
  have hno : fx (pHab (eW w1 w2) (hb k)).2 = mI := by
    rw [← b4]
    exact congrArg fx (pHab_s (evS_s _ _ _ _ _ 0 0 0 0 0) (hb k))
  have g5 : zI υ 41 = iI (pHab (eW w1 w2) (hb k)).1 := g4 hE hno
  refine ⟨υ, ?_, ?_⟩
  · have hv := m_vow (σ := σ) (p0 := nI k) (p4 := nI w2.length) (fun x5 => wr 128 (110 : Int32) ((some (uA σ 59 (upd (zA σ 59) (Int32.toNatClampNeg (110 : Int32)) (nI w1.length)))).bind fun s6 => wr 128 (118 : Int32) ((some (uA s6 59 (upd (zA s6 59) (Int32.toNatClampNeg (118 : Int32)) x5))).bind fun s7 => (rd (zA s7 56) 1800 (((200 : Int32) * nI r) + nI f)).bind fun x8 => wr 128 (102 : Int32) ((some (uA s7 59 (upd (zA s7 59) (Int32.toNatClampNeg (102 : Int32)) ((x8 - (97 : Int32)) + (1 : Int32))))).bind fun s9 => (rd (zA s9 56) 1800 (((((200 : Int32) * nI r) + nI f) + nI w1.length) - (1 : Int32))).bind fun x10 => wr 128 (108 : Int32) ((some (uA s9 59 (upd (zA s9 59) (Int32.toNatClampNeg (108 : Int32)) ((x10 - (97 : Int32)) + (1 : Int32))))).bind fun s11 => wr 128 (119 : Int32) ((some (uA s11 59 (upd (zA s11 59) (Int32.toNatClampNeg (119 : Int32)) (nI w2.length)))).bind fun s12 => (rd (zA s12 58) 4 (nI k)).bind fun x13 => (fX12_goThrough_57 s12 ((200 : Int32) * nI k) x13).bind fun s14 => (fJ9_min_7cf53 (100 : Int32) (zI s14 41)).bind fun x15 => (fJ9_max_7cf53 (0 : Int32) x15).bind fun x16 => some (x16, s14))))))) hw1 hr hf hc
    have hE0 : fX12_worthOf σ (nI k) (nI r) (nI f) (nI w1.length) (nI w2.length) = _ := hv
    rw [hE0]
    have hc0 := hc 0 (by omega)
    have hcl := hc (w1.length - 1) (by omega)
    have q0 := hw1.2 _ (getD_mem (d := 0) (l := w1) (k := 0) (by omega))
    have ql := hw1.2 _ (getD_mem (d := 0) (l := w1) (k := w1.length - 1) (by omega))
    have l97 : (97 : Int32) = nI 97 := rfl
    have l102 : (102 : Int32) = nI 102 := rfl
    have l108 : (108 : Int32) = nI 108 := rfl
    have l110 : (110 : Int32) = nI 110 := rfl
    have l118 : (118 : Int32) = nI 118 := rfl
    have l119 : (119 : Int32) = nI 119 := rfl
    have i0 : 200 * r + (f + 0) = 200 * r + f := by omega
    have il : 200 * r + (f + (w1.length - 1)) = 200 * r + f + w1.length - 1 := by omega
    rw [i0] at hc0
    rw [il] at hcl
    have s0 : 96 + w1.getD 0 0 - 97 + 1 = w1.getD 0 0 := by omega
    have sl' : 96 + w1.getD (w1.length - 1) 0 - 97 + 1 = w1.getD (w1.length - 1) 0 := by omega
    have h58 : ∀ z : St, FR [59] [] [] [] σ z → zA z 58 k = nI (hb k).length := fun z hz => by rw [hz.1 58 (by decide)]; exact b6
    have h58y := h58 y hFy
    rw [← g5]
    have hcv := j_clamp (zI υ 41) (fun x16 => some (x16, υ))
    simp (disch := omega) only [l0, l1, l2, l3, l4, l5, l6, l7, l8, l9, l10, l11, l12, l16, l18, l19, l20, l21, l24, l96, l128, l100, l144, l200, l256, l288, l1536, l1728, l1800, bnd, nI_add, pk_mul, pI_sub, pI_m1, pT_le, pF_le, pT_lt, pF_lt, pT_eq, pF_eq, pF_m1, mF_eq, mT_eq, mT_lt, mF_le, lm1, rd_nI, wr_nI, cl_nI, pk_us, un_ne, pk_uLs, uL_ne, zI_uI, zI_uJ, zI_uA, zI_uB, zI_uR, zI_uN, zJ_uI, zJ_uJ, zJ_uA, zJ_uB, zJ_uR, zJ_uN, zA_uI, zA_uJ, zA_uA, zA_uB, zA_uR, zA_uN, zB_uI, zB_uJ, zB_uA, zB_uB, zB_uR, zB_uN, zR_uI, zR_uJ, zR_uA, zR_uB, zR_uR, zR_uN, zN_uI, zN_uJ, zN_uA, zN_uB, zN_uR, zN_uN, zI_ne, zJ_ne, zA_ne, zB_ne, zR_ne, zN_ne, bi_T, bi_F, nz16, ↓reduceIte, not_true_eq_false, not_false_eq_true, Bool.false_eq_true, reduceCtorEq, l97, l102, l108, l110, l118, l119, hc0, hcl, s0, sl']
    rw [hy, hy1, hF] at h58y g1
    simp (disch := omega) only [l0, l1, l2, l3, l4, l5, l6, l7, l8, l9, l10, l11, l12, l16, l18, l19, l20, l21, l24, l96, l128, l100, l144, l200, l256, l288, l1536, l1728, l1800, bnd, nI_add, pk_mul, pI_sub, pI_m1, pT_le, pF_le, pT_lt, pF_lt, pT_eq, pF_eq, pF_m1, mF_eq, mT_eq, mT_lt, mF_le, lm1, rd_nI, wr_nI, cl_nI, pk_us, un_ne, pk_uLs, uL_ne, zI_uI, zI_uJ, zI_uA, zI_uB, zI_uR, zI_uN, zJ_uI, zJ_uJ, zJ_uA, zJ_uB, zJ_uR, zJ_uN, zA_uI, zA_uJ, zA_uA, zA_uB, zA_uR, zA_uN, zB_uI, zB_uJ, zB_uA, zB_uB, zB_uR, zB_uN, zR_uI, zR_uJ, zR_uA, zR_uB, zR_uR, zR_uN, zN_uI, zN_uJ, zN_uA, zN_uB, zN_uR, zN_uN, zI_ne, zJ_ne, zA_ne, zB_ne, zR_ne, zN_ne, bi_T, bi_F, nz16, ↓reduceIte, not_true_eq_false, not_false_eq_true, Bool.false_eq_true, reduceCtorEq] at h58y g1
    simp (disch := omega) only [l0, l1, l2, l3, l4, l5, l6, l7, l8, l9, l10, l11, l12, l16, l18, l19, l20, l21, l24, l96, l128, l100, l144, l200, l256, l288, l1536, l1728, l1800, bnd, nI_add, pk_mul, pI_sub, pI_m1, pT_le, pF_le, pT_lt, pF_lt, pT_eq, pF_eq, pF_m1, mF_eq, mT_eq, mT_lt, mF_le, lm1, rd_nI, wr_nI, cl_nI, pk_us, un_ne, pk_uLs, uL_ne, zI_uI, zI_uJ, zI_uA, zI_uB, zI_uR, zI_uN, zJ_uI, zJ_uJ, zJ_uA, zJ_uB, zJ_uR, zJ_uN, zA_uI, zA_uJ, zA_uA, zA_uB, zA_uR, zA_uN, zB_uI, zB_uJ, zB_uA, zB_uB, zB_uR, zB_uN, zR_uI, zR_uJ, zR_uA, zR_uB, zR_uR, zR_uN, zN_uI, zN_uJ, zN_uA, zN_uB, zN_uR, zN_uN, zI_ne, zJ_ne, zA_ne, zB_ne, zR_ne, zN_ne, bi_T, bi_F, nz16, ↓reduceIte, not_true_eq_false, not_false_eq_true, Bool.false_eq_true, reduceCtorEq, h58y, g1]
    have hcv2 := hcv
    simp (disch := omega) only [l0, l1, l2, l3, l4, l5, l6, l7, l8, l9, l10, l11, l12, l16, l18, l19, l20, l21, l24, l96, l128, l100, l144, l200, l256, l288, l1536, l1728, l1800, bnd, nI_add, pk_mul, pI_sub, pI_m1, pT_le, pF_le, pT_lt, pF_lt, pT_eq, pF_eq, pF_m1, mF_eq, mT_eq, mT_lt, mF_le, lm1, rd_nI, wr_nI, cl_nI, pk_us, un_ne, pk_uLs, uL_ne, zI_uI, zI_uJ, zI_uA, zI_uB, zI_uR, zI_uN, zJ_uI, zJ_uJ, zJ_uA, zJ_uB, zJ_uR, zJ_uN, zA_uI, zA_uJ, zA_uA, zA_uB, zA_uR, zA_uN, zB_uI, zB_uJ, zB_uA, zB_uB, zB_uR, zB_uN, zR_uI, zR_uJ, zR_uA, zR_uB, zR_uR, zR_uN, zN_uI, zN_uJ, zN_uA, zN_uB, zN_uR, zN_uN, zI_ne, zJ_ne, zA_ne, zB_ne, zR_ne, zN_ne, bi_T, bi_F, nz16, ↓reduceIte, not_true_eq_false, not_false_eq_true, Bool.false_eq_true, reduceCtorEq, l100] at hcv2
    exact hcv2
  · have s1 : SE σ y := by
      refine ⟨fun q hq => hFy.1 q (fun x => ?_), fun q hq => hFy.2.1 q (by intro x; cases x), fun q hq => hFy.2.2.1 q (by intro x; cases x), ?_, fun h j => ?_⟩
      · rw [List.mem_singleton.mp x] at hq
        exact absurd hq (by decide)
      · funext j
        exact hFy.2.2.2.1 j (by intro x; cases x)
      · rw [hFy.2.2.2.2]
        exact h j
    exact s1.tr (se_fr g2 (by decide) (by decide) (by decide) (by decide))
