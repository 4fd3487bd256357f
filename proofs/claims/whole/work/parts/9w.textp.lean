/-! text of a plot, both sides *-/
theorem l80 : (80 : Int32) = nI 80 := nrfl rfl
theorem c_addp {σ : St} {p m : Nat} (hp : p < 4) (hm : m ≤ 20) (h28 : zI σ 28 = nI p) (h8 : zI σ 8 = nI m) : ∃ υ, FR [50, 51] [] [28] [] σ υ ∧ (∀ j, j / 20 ≠ p → zA υ 50 j = zA σ 50 j) ∧ (∀ k, k < m → zA υ 50 (20 * p + k) = zA σ 20 k) ∧ zA υ 51 = upd (zA σ 51) p (nI m) ∧ zI υ 28 = nI (p + 1) ∧ fX4_add σ = some (nI p, υ) := by
  have key := it_for (β := St) (body := fun (kb : (St × Int32) → Option (Int32 × St)) (t : St × Int32) => fX4_add_L23 (fun s4 => (fX3_scenes s4).bind fun x5 => wr 4 (zI s4 28) ((some (uA s4 51 (upd (zA s4 51) (Int32.toNatClampNeg (zI s4 28)) x5))).bind fun s6 => (some (uI s6 28 ((zI s6 28) + (1 : Int32)))).bind fun s7 => some (((zI s7 28) - (1 : Int32)), s7))) (fun σ v2 => kb (σ, v2)) t.1 t.2) m (by omega) (fun i y => (y, nI i)) (fun i y => FR [50] [] [] [] σ y ∧ (∀ j, j / 20 ≠ p → zA y 50 j = zA σ 50 j) ∧ ∀ k, k < i → zA y 50 (20 * p + k) = zA σ 20 k) (fun i y z => ∃ υ, FR [50, 51] [] [28] [] σ υ ∧ (∀ j, j / 20 ≠ p → zA υ 50 j = zA σ 50 j) ∧ (∀ k, k < m → zA υ 50 (20 * p + k) = zA σ 20 k) ∧ zA υ 51 = upd (zA σ 51) p (nI m) ∧ zI υ 28 = nI (p + 1) ∧ z = some (nI p, υ)) ?_ 0 σ (Nat.zero_le _) ⟨FR.rf _ _ _ _ _, fun _ _ => rfl, fun k hk => absurd hk (Nat.not_lt_zero _)⟩
  · obtain ⟨υ, g1, g2, g3, g4, g5, g6⟩ := key
    refine ⟨υ, g1, g2, g3, g4, g5, ?_⟩
    rw [← g6]
    unfold fX4_add
    simp (disch := omega) only [l0, l1, l2, l3, l4, l5, l6, l7, l8, l9, l10, l11, l12, l16, l18, l19, l20, l21, l24, l96, l128, l100, l144, l200, l256, l288, l1536, l1728, l1800, bnd, nI_add, pk_mul, pI_sub, pI_m1, pT_le, pF_le, pT_lt, pF_lt, pT_eq, pF_eq, pF_m1, mF_eq, mT_eq, mT_lt, mF_le, lm1, rd_nI, wr_nI, cl_nI, pk_us, un_ne, pk_uLs, uL_ne, zI_uI, zI_uJ, zI_uA, zI_uB, zI_uR, zI_uN, zJ_uI, zJ_uJ, zJ_uA, zJ_uB, zJ_uR, zJ_uN, zA_uI, zA_uJ, zA_uA, zA_uB, zA_uR, zA_uN, zB_uI, zB_uJ, zB_uA, zB_uB, zB_uR, zB_uN, zR_uI, zR_uJ, zR_uA, zR_uB, zR_uR, zR_uN, zN_uI, zN_uJ, zN_uA, zN_uB, zN_uR, zN_uN, zI_ne, zJ_ne, zA_ne, zB_ne, zR_ne, zN_ne, bi_T, bi_F, nz16, ↓reduceIte, not_true_eq_false, not_false_eq_true, Bool.false_eq_true, reduceCtorEq, h28]
    rfl
  · rintro i y hi ⟨hF, k1, k2⟩ kb hkb
    have e28 : zI y 28 = nI p := (hF.2.2.1 28 (by decide)).trans h28
    have e8 : fX3_scenes y = some (nI m) := by unfold fX3_scenes; rw [hF.2.2.1 8 (by decide), h8]
    show ∃ υ, _ ∧ _ ∧ _ ∧ _ ∧ _ ∧ fX4_add_L23 _ (fun σ v2 => kb (σ, v2)) y (nI i) = _
    unfold fX4_add_L23
    by_cases him : i = m
    · rw [him] at k2
      have hsub : nI (p + 1) - nI 1 = nI p := by rw [pI_sub (by omega), Nat.add_sub_cancel]
      refine ⟨uI (uA y 51 (upd (zA y 51) p (nI m))) 28 (nI (p + 1)), FR.uI (FR.uA (hF.mono (by decide) (by decide) (by decide) (by decide)) (by decide)) (by decide), fun j hj => by rw [zA_uI, zA_ne (by decide)]; exact k1 j hj, fun k hk => by rw [zA_uI, zA_ne (by decide)]; exact k2 k hk, by rw [zA_uI, zA_uA, hF.1 51 (by decide)], by rw [zI_uI], ?_⟩
      simp (disch := omega) only [l0, l1, l2, l3, l4, l5, l6, l7, l8, l9, l10, l11, l12, l16, l18, l19, l20, l21, l24, l96, l128, l100, l144, l200, l256, l288, l1536, l1728, l1800, bnd, nI_add, pk_mul, pI_sub, pI_m1, pT_le, pF_le, pT_lt, pF_lt, pT_eq, pF_eq, pF_m1, mF_eq, mT_eq, mT_lt, mF_le, lm1, rd_nI, wr_nI, cl_nI, pk_us, un_ne, pk_uLs, uL_ne, zI_uI, zI_uJ, zI_uA, zI_uB, zI_uR, zI_uN, zJ_uI, zJ_uJ, zJ_uA, zJ_uB, zJ_uR, zJ_uN, zA_uI, zA_uJ, zA_uA, zA_uB, zA_uR, zA_uN, zB_uI, zB_uJ, zB_uA, zB_uB, zB_uR, zB_uN, zR_uI, zR_uJ, zR_uA, zR_uB, zR_uR, zR_uN, zN_uI, zN_uJ, zN_uA, zN_uB, zN_uR, zN_uN, zI_ne, zJ_ne, zA_ne, zB_ne, zR_ne, zN_ne, bi_T, bi_F, nz16, ↓reduceIte, not_true_eq_false, not_false_eq_true, Bool.false_eq_true, reduceCtorEq, e8, him, e28, hsub]
    · have hpi : fX3_partsIn y (nI i) = some (zA σ 20 i) := by
        unfold fX3_partsIn
        rw [hF.1 20 (by decide)]
        simp (disch := omega) only [l0, l1, l2, l3, l4, l5, l6, l7, l8, l9, l10, l11, l12, l16, l18, l19, l20, l21, l24, l96, l128, l100, l144, l200, l256, l288, l1536, l1728, l1800, bnd, nI_add, pk_mul, pI_sub, pI_m1, pT_le, pF_le, pT_lt, pF_lt, pT_eq, pF_eq, pF_m1, mF_eq, mT_eq, mT_lt, mF_le, lm1, rd_nI, wr_nI, cl_nI, pk_us, un_ne, pk_uLs, uL_ne, zI_uI, zI_uJ, zI_uA, zI_uB, zI_uR, zI_uN, zJ_uI, zJ_uJ, zJ_uA, zJ_uB, zJ_uR, zJ_uN, zA_uI, zA_uJ, zA_uA, zA_uB, zA_uR, zA_uN, zB_uI, zB_uJ, zB_uA, zB_uB, zB_uR, zB_uN, zR_uI, zR_uJ, zR_uA, zR_uB, zR_uR, zR_uN, zN_uI, zN_uJ, zN_uA, zN_uB, zN_uR, zN_uN, zI_ne, zJ_ne, zA_ne, zB_ne, zR_ne, zN_ne, bi_T, bi_F, nz16, ↓reduceIte, not_true_eq_false, not_false_eq_true, Bool.false_eq_true, reduceCtorEq]
      obtain ⟨υ, g1, g2, g3, g4, g5, g6⟩ := hkb (uA y 50 (upd (zA y 50) (20 * p + i) (zA σ 20 i))) (by omega) ⟨FR.uA hF (by decide), fun j hj => by
        rw [zA_uA, un_ne (by omega)]
        exact k1 j hj, fun k hk => by
        rw [zA_uA]
        by_cases e : k = i
        · rw [e, pk_us]
        · rw [un_ne (by omega)]
          exact k2 k (by omega)⟩
      refine ⟨υ, g1, g2, g3, g4, g5, ?_⟩
      rw [← g6]
      simp (disch := omega) only [l0, l1, l2, l3, l4, l5, l6, l7, l8, l9, l10, l11, l12, l16, l18, l19, l20, l21, l24, l96, l128, l100, l144, l200, l256, l288, l1536, l1728, l1800, bnd, nI_add, pk_mul, pI_sub, pI_m1, pT_le, pF_le, pT_lt, pF_lt, pT_eq, pF_eq, pF_m1, mF_eq, mT_eq, mT_lt, mF_le, lm1, rd_nI, wr_nI, cl_nI, pk_us, un_ne, pk_uLs, uL_ne, zI_uI, zI_uJ, zI_uA, zI_uB, zI_uR, zI_uN, zJ_uI, zJ_uJ, zJ_uA, zJ_uB, zJ_uR, zJ_uN, zA_uI, zA_uJ, zA_uA, zA_uB, zA_uR, zA_uN, zB_uI, zB_uJ, zB_uA, zB_uB, zB_uR, zB_uN, zR_uI, zR_uJ, zR_uA, zR_uB, zR_uR, zR_uN, zN_uI, zN_uJ, zN_uA, zN_uB, zN_uR, zN_uN, zI_ne, zJ_ne, zA_ne, zB_ne, zR_ne, zN_ne, bi_T, bi_F, nz16, ↓reduceIte, not_true_eq_false, not_false_eq_true, Bool.false_eq_true, reduceCtorEq, e8, hpi, e28]
/-- what text keeps of all but a plot more -/
def SGp (σ υ : St) : Prop := (∀ q, q ∈ pA → q ∉ [22, 50, 51, 60, 61, 62, 63, 64, 65, 66, 67, 68] → zA υ q = zA σ q) ∧ (∀ q, q ∈ pB → zB υ q = zB σ q) ∧ (∀ k, k ∈ pI → k ∉ [2, 28, 31, 33] → zI υ k = zI σ k) ∧ zN υ = zN σ ∧ (rOk σ → rOk υ) ∧ eqOn σ υ 60 8 ∧ eqOn σ υ 61 128 ∧ eqOn σ υ 62 128 ∧ eqOn σ υ 63 256 ∧ eqOn σ υ 64 256 ∧ eqOn σ υ 65 1536 ∧ eqOn σ υ 66 1536 ∧ (P22 σ → P22 υ)
def hadd (h : Gp) (l : List Nat) : Gp := (pN h + 1, fun p => if p = pN h then l.length else pS h p, fun p k => if p = pN h then l.getD k 0 else pC h p k, pBy h)
theorem pPl_len : ∀ (n : Nat) (x : Sx), (pPl n x).1.length ≤ n
  | 0, _ => Nat.le_refl _
  | n + 1, x => by
    show (if 0 < n ∧ tb 47 (pSc x).2 = true then _ else _ : List Nat × Sx).1.length ≤ n + 1
    split
    · show (pPl n (tlx (pSc x).2)).1.length + 1 ≤ n + 1
      have := pPl_len n (tlx (pSc x).2)
      omega
    · show 1 ≤ n + 1
      omega
theorem t_text_p {σ : St} {h : Gp} {bs : List Nat} (hP : TI σ h) (hT : TP σ bs) : (∃ τ υ, fX11_text σ (nI 1) = some (mI, τ) ∧ SE σ τ ∧ fX12_text τ (nI 1) = some (mI, υ) ∧ SF τ υ) ∨ ∃ r τ υ l, fX11_text σ (nI 1) = some (r, τ) ∧ fX12_text τ (nI 1) = some (r, υ) ∧ SGp σ υ ∧ TI υ (hadd h l) ∧ TP υ [] := by
  have hn4 := hP.1
  obtain ⟨τ1, h1, h2, h3, h4⟩ := c_faultOf_p hT.2.2.1 hT.2.2.2.2.1 hT.1 hT.2.1
  have hse : SE σ τ1 := se_fr h1 (by decide) (by decide) (by decide) (by decide)
  have P1 := hP.se hse
  have T1 := hT.se hse
  have hin := m_isIn (a := 1) (b := 0) (c := 2) (by decide) (by decide) (by decide)
  rw [decide_eq_true (show 0 ≤ 1 ∧ 1 ≤ 2 by decide)] at hin
  have h28 := P1.2.1
  have h33 := P1.2.2.1
  by_cases hn8 : pN h = 4
  · left
    refine ⟨τ1, uI τ1 30 (nI 0), ?_, hse, ?_, SF.of (se30 τ1 _)⟩
    · unfold fX11_text fX11_stored fX4_add
      rw [hn8] at h28
      by_cases e : fx (pPlot bs).2 = mI
      · rw [e] at h2
        simp (disch := omega) only [l0, l1, l2, l3, l4, l5, l6, l7, l8, l9, l10, l11, l12, l16, l18, l19, l20, l21, l24, l96, l128, l100, l144, l200, l256, l288, l1536, l1728, l1800, bnd, nI_add, pk_mul, pI_sub, pI_m1, pT_le, pF_le, pT_lt, pF_lt, pT_eq, pF_eq, pF_m1, mF_eq, mT_eq, mT_lt, mF_le, lm1, rd_nI, wr_nI, cl_nI, pk_us, un_ne, pk_uLs, uL_ne, zI_uI, zI_uJ, zI_uA, zI_uB, zI_uR, zI_uN, zJ_uI, zJ_uJ, zJ_uA, zJ_uB, zJ_uR, zJ_uN, zA_uI, zA_uJ, zA_uA, zA_uB, zA_uR, zA_uN, zB_uI, zB_uJ, zB_uA, zB_uB, zB_uR, zB_uN, zR_uI, zR_uJ, zR_uA, zR_uB, zR_uR, zR_uN, zN_uI, zN_uJ, zN_uA, zN_uB, zN_uR, zN_uN, zI_ne, zJ_ne, zA_ne, zB_ne, zR_ne, zN_ne, bi_T, bi_F, nz16, ↓reduceIte, not_true_eq_false, not_false_eq_true, Bool.false_eq_true, reduceCtorEq, h2, mI_eq, h28]
      · simp (disch := omega) only [l0, l1, l2, l3, l4, l5, l6, l7, l8, l9, l10, l11, l12, l16, l18, l19, l20, l21, l24, l96, l128, l100, l144, l200, l256, l288, l1536, l1728, l1800, bnd, nI_add, pk_mul, pI_sub, pI_m1, pT_le, pF_le, pT_lt, pF_lt, pT_eq, pF_eq, pF_m1, mF_eq, mT_eq, mT_lt, mF_le, lm1, rd_nI, wr_nI, cl_nI, pk_us, un_ne, pk_uLs, uL_ne, zI_uI, zI_uJ, zI_uA, zI_uB, zI_uR, zI_uN, zJ_uI, zJ_uJ, zJ_uA, zJ_uB, zJ_uR, zJ_uN, zA_uI, zA_uJ, zA_uA, zA_uB, zA_uR, zA_uN, zB_uI, zB_uJ, zB_uA, zB_uB, zB_uR, zB_uN, zR_uI, zR_uJ, zR_uA, zR_uB, zR_uR, zR_uN, zN_uI, zN_uJ, zN_uA, zN_uB, zN_uR, zN_uN, zI_ne, zJ_ne, zA_ne, zB_ne, zR_ne, zN_ne, bi_T, bi_F, nz16, ↓reduceIte, not_true_eq_false, not_false_eq_true, Bool.false_eq_true, reduceCtorEq, h2, mI_eq, if_neg e]
    · rw [hn8] at h33
      unfold fX12_text
      simp (disch := omega) only [l0, l1, l2, l3, l4, l5, l6, l7, l8, l9, l10, l11, l12, l16, l18, l19, l20, l21, l24, l96, l128, l100, l144, l200, l256, l288, l1536, l1728, l1800, bnd, nI_add, pk_mul, pI_sub, pI_m1, pT_le, pF_le, pT_lt, pF_lt, pT_eq, pF_eq, pF_m1, mF_eq, mT_eq, mT_lt, mF_le, lm1, rd_nI, wr_nI, cl_nI, pk_us, un_ne, pk_uLs, uL_ne, zI_uI, zI_uJ, zI_uA, zI_uB, zI_uR, zI_uN, zJ_uI, zJ_uJ, zJ_uA, zJ_uB, zJ_uR, zJ_uN, zA_uI, zA_uJ, zA_uA, zA_uB, zA_uR, zA_uN, zB_uI, zB_uJ, zB_uA, zB_uB, zB_uR, zB_uN, zR_uI, zR_uJ, zR_uA, zR_uB, zR_uR, zR_uN, zN_uI, zN_uJ, zN_uA, zN_uB, zN_uR, zN_uN, zI_ne, zJ_ne, zA_ne, zB_ne, zR_ne, zN_ne, bi_T, bi_F, nz16, ↓reduceIte, not_true_eq_false, not_false_eq_true, Bool.false_eq_true, reduceCtorEq, hin, h33]
  · have hn : pN h < 4 := by omega
    by_cases hfx : fx (pPlot bs).2 = mI
    · right
      rw [hfx] at h2
      have hlen : (pPlot bs).1.length ≤ 20 := pPl_len 20 _
      obtain ⟨τ2, a1, a2, a3, a4, a5, a6⟩ := c_addp hn hlen h28 h4
      obtain ⟨τ3, hτ3⟩ : ∃ τ3, τ3 = uI τ2 2 (nI 0) := ⟨_, rfl⟩
      have hF3 : FR [50, 51] [] [2, 28] [] τ1 τ3 := by
        rw [hτ3]
        exact FR.uI (a1.mono (by decide) (by decide) (by decide) (by decide)) (by decide)
      have hcut : fX9_cut τ2 (nI 0) = some (true, τ3) := by
        have z2 : zI τ2 2 = nI bs.length := (a1.2.2.1 2 (by decide)).trans T1.2.2.1
        have h200 := T1.1
        rw [hτ3]
        unfold fX9_cut
        simp (disch := omega) only [l0, l1, l2, l3, l4, l5, l6, l7, l8, l9, l10, l11, l12, l16, l18, l19, l20, l21, l24, l96, l128, l100, l144, l200, l256, l288, l1536, l1728, l1800, bnd, nI_add, pk_mul, pI_sub, pI_m1, pT_le, pF_le, pT_lt, pF_lt, pT_eq, pF_eq, pF_m1, mF_eq, mT_eq, mT_lt, mF_le, lm1, rd_nI, wr_nI, cl_nI, pk_us, un_ne, pk_uLs, uL_ne, zI_uI, zI_uJ, zI_uA, zI_uB, zI_uR, zI_uN, zJ_uI, zJ_uJ, zJ_uA, zJ_uB, zJ_uR, zJ_uN, zA_uI, zA_uJ, zA_uA, zA_uB, zA_uR, zA_uN, zB_uI, zB_uJ, zB_uA, zB_uB, zB_uR, zB_uN, zR_uI, zR_uJ, zR_uA, zR_uB, zR_uR, zR_uN, zN_uI, zN_uJ, zN_uA, zN_uB, zN_uR, zN_uN, zI_ne, zJ_ne, zA_ne, zB_ne, zR_ne, zN_ne, bi_T, bi_F, nz16, ↓reduceIte, not_true_eq_false, not_false_eq_true, Bool.false_eq_true, reduceCtorEq, z2]
      have hcl : fX11_text σ (nI 1) = some (nI (pN h), τ3) := by
        unfold fX11_text fX11_stored
        simp (disch := omega) only [l0, l1, l2, l3, l4, l5, l6, l7, l8, l9, l10, l11, l12, l16, l18, l19, l20, l21, l24, l96, l128, l100, l144, l200, l256, l288, l1536, l1728, l1800, bnd, nI_add, pk_mul, pI_sub, pI_m1, pT_le, pF_le, pT_lt, pF_lt, pT_eq, pF_eq, pF_m1, mF_eq, mT_eq, mT_lt, mF_le, lm1, rd_nI, wr_nI, cl_nI, pk_us, un_ne, pk_uLs, uL_ne, zI_uI, zI_uJ, zI_uA, zI_uB, zI_uR, zI_uN, zJ_uI, zJ_uJ, zJ_uA, zJ_uB, zJ_uR, zJ_uN, zA_uI, zA_uJ, zA_uA, zA_uB, zA_uR, zA_uN, zB_uI, zB_uJ, zB_uA, zB_uB, zB_uR, zB_uN, zR_uI, zR_uJ, zR_uA, zR_uB, zR_uR, zR_uN, zN_uI, zN_uJ, zN_uA, zN_uB, zN_uR, zN_uN, zI_ne, zJ_ne, zA_ne, zB_ne, zR_ne, zN_ne, bi_T, bi_F, nz16, ↓reduceIte, not_true_eq_false, not_false_eq_true, Bool.false_eq_true, reduceCtorEq, h2, mI_eq, a6, hcut]
      have z31 : zI τ3 31 = nI bs.length := (hF3.2.2.1 31 (by decide)).trans T1.2.2.2.1
      have z55 : hB (zA τ3 55) bs := by rw [hF3.1 55 (by decide)]; exact T1.2.2.2.2.2
      obtain ⟨υ1, b1, b2⟩ := m_fault1 (σ := uI τ3 30 (nI 0)) z31 z55 T1.1 T1.2.1
      rw [hfx] at b1
      have y31 : zI υ1 31 = nI bs.length := (b2.i 31 (by decide)).trans z31
      have y55 : hB (zA υ1 55) bs := by rw [b2.a 55 (by decide) (by decide)]; exact z55
      have z33 : zI τ3 33 = nI (pN h) := (hF3.2.2.1 33 (by decide)).trans h33
      have y33 : zI υ1 33 = nI (pN h) := (b2.i 33 (by decide)).trans z33
      obtain ⟨υ2, d1, d2, d3, d4, d5, d6⟩ := m_readPlot (plot := pN h) y31 y55 T1.1 T1.2.1 (by omega)
      obtain ⟨g1, g2, g3, g4⟩ := d6 hfx
      have x33 : zI υ2 33 = nI (pN h) := (d1.2.2.1 33 (by decide)).trans y33
      obtain ⟨υ, hυ⟩ : ∃ υ, υ = uI (uI υ2 31 (nI 0)) 33 (nI (pN h + 1)) := ⟨_, rfl⟩
      have hFu : FR [] [] [31, 33] [] υ2 υ := by rw [hυ]; exact FR.uI (FR.uI (FR.rf _ _ _ _ _) (by decide)) (by decide)
      have hmo : fX12_text τ3 (nI 1) = some (nI (pN h), υ) := by
        have hsub : nI (pN h + 1) - nI 1 = nI (pN h) := by rw [pI_sub (by omega), Nat.add_sub_cancel]
        unfold fX12_text fX12_text_J55
        rw [hυ]
        simp (disch := omega) only [l0, l1, l2, l3, l4, l5, l6, l7, l8, l9, l10, l11, l12, l16, l18, l19, l20, l21, l24, l96, l128, l100, l144, l200, l256, l288, l1536, l1728, l1800, bnd, nI_add, pk_mul, pI_sub, pI_m1, pT_le, pF_le, pT_lt, pF_lt, pT_eq, pF_eq, pF_m1, mF_eq, mT_eq, mT_lt, mF_le, lm1, rd_nI, wr_nI, cl_nI, pk_us, un_ne, pk_uLs, uL_ne, zI_uI, zI_uJ, zI_uA, zI_uB, zI_uR, zI_uN, zJ_uI, zJ_uJ, zJ_uA, zJ_uB, zJ_uR, zJ_uN, zA_uI, zA_uJ, zA_uA, zA_uB, zA_uR, zA_uN, zB_uI, zB_uJ, zB_uA, zB_uB, zB_uR, zB_uN, zR_uI, zR_uJ, zR_uA, zR_uB, zR_uR, zR_uN, zN_uI, zN_uJ, zN_uA, zN_uB, zN_uR, zN_uN, zI_ne, zJ_ne, zA_ne, zB_ne, zR_ne, zN_ne, bi_T, bi_F, nz16, ↓reduceIte, not_true_eq_false, not_false_eq_true, Bool.false_eq_true, reduceCtorEq, hin, z33, b1, mI_eq, y33, d4, x33, hsub]
      have A : ∀ q, q ∈ pA → q ∉ [22, 50, 51, 60, 61, 62, 63, 64, 65, 66, 67, 68] → zA υ q = zA σ q := by
        intro q hq hn
        have hm : ∀ l : List Nat, (∀ x, x ∈ l → x ∈ [22, 50, 51, 60, 61, 62, 63, 64, 65, 66, 67, 68]) → q ∉ l := fun l hl hx => hn (hl q hx)
        rw [hFu.1 q (by intro x; cases x), d1.1 q (hm _ (by decide))]
        show zA υ1 q = _
        rw [b2.a q hq (hm _ (by decide))]
        show zA τ3 q = _
        rw [hF3.1 q (hm _ (by decide)), hse.a q hq]
      have B : ∀ q, q ∈ pB → zB υ q = zB σ q := by
        intro q hq
        rw [hFu.2.1 q (by intro x; cases x), d1.2.1 q (by intro x; cases x)]
        show zB υ1 q = _
        rw [b2.b q hq]
        show zB τ3 q = _
        rw [hF3.2.1 q (by intro x; cases x), hse.b q hq]
      have I : ∀ k, k ∈ pI → k ∉ [2, 28, 31, 33] → zI υ k = zI σ k := by
        intro k hk hn
        have hm : ∀ l : List Nat, (∀ x, x ∈ l → x ∈ [2, 28, 31, 33]) → k ∉ l := fun l hl hx => hn (hl k hx)
        have h35 : k ∉ [35, 36, 37, 38] := by
          intro x
          have hd : ∀ k, k ∈ [35, 36, 37, 38] → k ∉ pI := by decide
          exact hd k x hk
        rw [hFu.2.2.1 k (hm _ (by decide)), d1.2.2.1 k h35]
        show zI υ1 k = _
        rw [b2.i k hk]
        have h30 : k ≠ 30 := fun e => by rw [e] at hk; revert hk; decide
        rw [zI_ne h30, hF3.2.2.1 k (hm _ (by decide)), hse.i k hk]
      have N : zN υ = zN σ := by
        funext j
        rw [hFu.2.2.2.1 j (by intro x; cases x), d1.2.2.2.1 j (by intro x; cases x)]
        show zN υ1 j = _
        rw [b2.2.2.2.1]
        show zN τ3 j = _
        rw [hF3.2.2.2.1 j (by intro x; cases x), hse.2.2.2.1]
      have R : rOk σ → rOk υ := by
        intro r0
        have r1 := hse.2.2.2.2 r0
        have r3 : rOk τ3 := by unfold rOk; rw [hF3.2.2.2.2]; exact r1
        have r4 : rOk υ1 := b2.2.2.2.2.1 r3
        have r5 : rOk υ2 := by unfold rOk; rw [d1.2.2.2.2]; exact rOk_uR (by decide) r4
        unfold rOk
        rw [hFu.2.2.2.2]
        exact r5
      obtain ⟨p60, p61, p62, p63, p64, p65, p66, p67, p68, p22⟩ := b2.2.2.2.2.2
      have E : ∀ q n, q ∈ [60, 61, 62, 63, 64, 65, 66] → eqOn (uI τ3 30 (nI 0)) υ1 q n → eqOn σ υ q n := by
        intro q n hq he j hj
        have hd : ∀ q, q ∈ [60, 61, 62, 63, 64, 65, 66] → q ∈ pA := by decide
        have hm : ∀ l : List Nat, (∀ x, x ∈ l → x ∉ [60, 61, 62, 63, 64, 65, 66]) → q ∉ l := fun l hl hx => hl q hx hq
        rw [hFu.1 q (by intro x; cases x), d1.1 q (hm _ (by decide))]
        show zA υ1 q j = _
        rw [he j hj]
        show zA τ3 q j = _
        rw [hF3.1 q (hm _ (by decide)), hse.a q (hd q hq)]
      have e50 : zA υ 50 = zA τ2 50 := by
        rw [hFu.1 50 (by intro x; cases x), d1.1 50 (by decide)]
        show zA υ1 50 = _
        rw [b2.a 50 (by decide) (by decide), hτ3]
        rfl
      have e51 : zA υ 51 = zA τ2 51 := by
        rw [hFu.1 51 (by intro x; cases x), d1.1 51 (by decide)]
        show zA υ1 51 = _
        rw [b2.a 51 (by decide) (by decide), hτ3]
        rfl
      refine ⟨nI (pN h), τ3, υ, (pPlot bs).1, hcl, hmo, ⟨A, B, I, N, R, E 60 8 (by decide) p60, E 61 128 (by decide) p61, E 62 128 (by decide) p62, E 63 256 (by decide) p63, E 64 256 (by decide) p64, E 65 1536 (by decide) p65, E 66 1536 (by decide) p66, fun r0 => ?_⟩, ?_, ?_⟩
      · have r1 : P22 τ1 := fun k hk => by rw [hse.a 22 (by decide)]; exact r0 k hk
        have r3 : P22 τ3 := fun k hk => by rw [hF3.1 22 (by decide)]; exact r1 k hk
        have r4 : P22 υ1 := p22 r3
        intro k hk
        rw [hFu.1 22 (by intro x; cases x), d1.1 22 (by decide)]
        exact r4 k hk
      · refine ⟨hn, ?_, ?_, fun p hp => ?_, hP.2.2.2.2.1, by rw [I 29 (by decide) (by decide)]; exact hP.2.2.2.2.2.1, by rw [I 50 (by decide) (by decide)]; exact hP.2.2.2.2.2.2⟩
        · rw [hFu.2.2.1 28 (by decide), d1.2.2.1 28 (by decide)]
          show zI υ1 28 = _
          rw [b2.i 28 (by decide), zI_ne (by decide), hτ3, zI_ne (by decide), a5]
          rfl
        · rw [hυ, zI_uI]; rfl
        · have hp : p < pN h + 1 := hp
          have s1 : pS (hadd h (pPlot bs).1) p = if p = pN h then (pPlot bs).1.length else pS h p := rfl
          have s2 : ∀ k, pC (hadd h (pPlot bs).1) p k = if p = pN h then (pPlot bs).1.getD k 0 else pC h p k := fun _ => rfl
          have u67 : zA υ 67 p = zA υ2 67 p := by rw [hFu.1 67 (by intro x; cases x)]
          have u68 : ∀ j, zA υ 68 j = zA υ2 68 j := fun j => by rw [hFu.1 68 (by intro x; cases x)]
          by_cases e : p = pN h
          · rw [s1, if_pos e]
            refine ⟨g2, g3, ?_, ?_, fun k hk => ?_⟩
            · rw [e51, a4, e, pk_us]
            · rw [u67, e]; exact g1
            · rw [s2, if_pos e, e50, u68, e, a3 k hk]
              have hk1 : zA τ1 20 k = nI ((pPlot bs).1.getD k 0) := h3 k hk
              exact ⟨(g4 k hk).2.1, (g4 k hk).2.2, hk1, (g4 k hk).1⟩
          · rw [s1, if_neg e]
            obtain ⟨w1, w2, w3, w4, w5⟩ := P1.2.2.2.1 p (by omega)
            refine ⟨w1, w2, ?_, ?_, fun k hk => ?_⟩
            · rw [e51, a4, un_ne e]; exact w3
            · rw [u67, d2 p e, p67 p (by omega)]
              show zA τ3 67 p = _
              rw [hF3.1 67 (by decide)]
              exact w4
            · obtain ⟨v1, v2, v3, v4⟩ := w5 k hk
              rw [s2, if_neg e, e50, u68]
              refine ⟨v1, v2, ?_, ?_⟩
              · rw [a2 _ (by omega)]; exact v3
              · rw [d3 _ (by omega), p68 _ (by omega)]
                show zA τ3 68 _ = _
                rw [hF3.1 68 (by decide)]
                exact v4
      · refine ⟨Nat.zero_le _, (fun b hb => nomatch hb), ?_, ?_, (fun j hj => absurd hj (Nat.not_lt_zero _)), (fun j hj => absurd hj (Nat.not_lt_zero _))⟩
        · rw [hFu.2.2.1 2 (by decide), d1.2.2.1 2 (by decide)]
          show zI υ1 2 = _
          rw [b2.i 2 (by decide), zI_ne (by decide), hτ3, zI_uI]
          rfl
        · rw [hυ, zI_ne (by decide), zI_uI]; rfl
    · left
      obtain ⟨υ, b1, b2⟩ := m_fault1 (σ := uI τ1 30 (nI 0)) T1.2.2.2.1 T1.2.2.2.2.2 T1.1 T1.2.1
      refine ⟨τ1, υ, ?_, hse, ?_, (SF.of (se30 τ1 _)).tr b2⟩
      · unfold fX11_text
        simp (disch := omega) only [l0, l1, l2, l3, l4, l5, l6, l7, l8, l9, l10, l11, l12, l16, l18, l19, l20, l21, l24, l96, l128, l100, l144, l200, l256, l288, l1536, l1728, l1800, bnd, nI_add, pk_mul, pI_sub, pI_m1, pT_le, pF_le, pT_lt, pF_lt, pT_eq, pF_eq, pF_m1, mF_eq, mT_eq, mT_lt, mF_le, lm1, rd_nI, wr_nI, cl_nI, pk_us, un_ne, pk_uLs, uL_ne, zI_uI, zI_uJ, zI_uA, zI_uB, zI_uR, zI_uN, zJ_uI, zJ_uJ, zJ_uA, zJ_uB, zJ_uR, zJ_uN, zA_uI, zA_uJ, zA_uA, zA_uB, zA_uR, zA_uN, zB_uI, zB_uJ, zB_uA, zB_uB, zB_uR, zB_uN, zR_uI, zR_uJ, zR_uA, zR_uB, zR_uR, zR_uN, zN_uI, zN_uJ, zN_uA, zN_uB, zN_uR, zN_uN, zI_ne, zJ_ne, zA_ne, zB_ne, zR_ne, zN_ne, bi_T, bi_F, nz16, ↓reduceIte, not_true_eq_false, not_false_eq_true, Bool.false_eq_true, reduceCtorEq, h2, mI_eq, if_neg hfx]
      · unfold fX12_text fX12_text_J55
        simp (disch := omega) only [l0, l1, l2, l3, l4, l5, l6, l7, l8, l9, l10, l11, l12, l16, l18, l19, l20, l21, l24, l96, l128, l100, l144, l200, l256, l288, l1536, l1728, l1800, bnd, nI_add, pk_mul, pI_sub, pI_m1, pT_le, pF_le, pT_lt, pF_lt, pT_eq, pF_eq, pF_m1, mF_eq, mT_eq, mT_lt, mF_le, lm1, rd_nI, wr_nI, cl_nI, pk_us, un_ne, pk_uLs, uL_ne, zI_uI, zI_uJ, zI_uA, zI_uB, zI_uR, zI_uN, zJ_uI, zJ_uJ, zJ_uA, zJ_uB, zJ_uR, zJ_uN, zA_uI, zA_uJ, zA_uA, zA_uB, zA_uR, zA_uN, zB_uI, zB_uJ, zB_uA, zB_uB, zB_uR, zB_uN, zR_uI, zR_uJ, zR_uA, zR_uB, zR_uR, zR_uN, zN_uI, zN_uJ, zN_uA, zN_uB, zN_uR, zN_uN, zI_ne, zJ_ne, zA_ne, zB_ne, zR_ne, zN_ne, bi_T, bi_F, nz16, ↓reduceIte, not_true_eq_false, not_false_eq_true, Bool.false_eq_true, reduceCtorEq, hin, h33, b1, mI_eq, if_neg hfx]
