/-! text of a roll, both sides *-/
theorem c_add {σ : St} {r c m n : Nat} (hr : r < 8) (hm : m ≤ 12) (hc : c + m ≤ 96) (h18 : zI σ 18 = nI r) (h17 : zI σ 17 = nI c) (h5 : zI σ 5 = nI m) (h19 : zI σ 19 = nI n) : ∃ υ, FR [23, 24, 25, 27, 29] [26, 28] [17, 18, 19] [] σ υ ∧ (∀ j, j / 16 ≠ r → zA υ 25 j = zA σ 25 j ∧ zA υ 27 j = zA σ 27 j) ∧ (∀ j, j / 2 / 16 ≠ r → zB υ 26 j = zB σ 26 j) ∧ (∀ j, j / 12 / 16 ≠ r → zB υ 28 j = zB σ 28 j) ∧ (∀ i, i < m → zA υ 25 (16 * r + i) = zA σ 14 i ∧ zA υ 27 (16 * r + i) = zA σ 16 i ∧ (∀ k, k < 2 → zB υ 26 (2 * (16 * r + i) + k) = zB σ 15 (2 * i + k)) ∧ ∀ k, k < 12 → zB υ 28 (12 * (16 * r + i) + k) = zB σ 17 (12 * i + k)) ∧ (∀ j, j < c → zA υ 29 j = zA σ 29 j) ∧ (∀ i, i < m → zA υ 29 (c + i) = nI (16 * r + i)) ∧ zA υ 23 = upd (zA σ 23) r (nI m) ∧ zA υ 24 = upd (zA σ 24) r mI ∧ zI υ 17 = nI (c + m) ∧ zI υ 18 = nI (r + 1) ∧ zI υ 19 = nI (n + 1) ∧ fX7_add σ = some (nI r, υ) := by
  have key := it_for (β := St) (body := fun (kb : (St × Int32) → Option (Int32 × St)) (t : St × Int32) => fX7_add_L24 (fun s5 => (fX6_items s5).bind fun x6 => wr 8 (zI s5 18) ((some (uA s5 23 (upd (zA s5 23) (Int32.toNatClampNeg (zI s5 18)) x6))).bind fun s7 => wr 8 (zI s7 18) ((some (uA s7 24 (upd (zA s7 24) (Int32.toNatClampNeg (zI s7 18)) (-1 : Int32)))).bind fun s8 => (some (uI s8 18 ((zI s8 18) + (1 : Int32)))).bind fun s9 => (some (uI s9 19 ((zI s9 19) + (1 : Int32)))).bind fun s10 => some (((zI s10 18) - (1 : Int32)), s10)))) (fun σ v2 => kb (σ, v2)) t.1 t.2) m (by omega) (fun i y => (y, nI i)) (fun i y => FR [25, 27, 29] [26, 28] [17] [] σ y ∧ (∀ j, j / 16 ≠ r → zA y 25 j = zA σ 25 j ∧ zA y 27 j = zA σ 27 j) ∧ (∀ j, j / 2 / 16 ≠ r → zB y 26 j = zB σ 26 j) ∧ (∀ j, j / 12 / 16 ≠ r → zB y 28 j = zB σ 28 j) ∧ (∀ q, q < i → zA y 25 (16 * r + q) = zA σ 14 q ∧ zA y 27 (16 * r + q) = zA σ 16 q ∧ (∀ k, k < 2 → zB y 26 (2 * (16 * r + q) + k) = zB σ 15 (2 * q + k)) ∧ ∀ k, k < 12 → zB y 28 (12 * (16 * r + q) + k) = zB σ 17 (12 * q + k)) ∧ (∀ j, j < c → zA y 29 j = zA σ 29 j) ∧ (∀ q, q < i → zA y 29 (c + q) = nI (16 * r + q)) ∧ zI y 17 = nI (c + i)) (fun i y z => ∃ υ, FR [23, 24, 25, 27, 29] [26, 28] [17, 18, 19] [] σ υ ∧ (∀ j, j / 16 ≠ r → zA υ 25 j = zA σ 25 j ∧ zA υ 27 j = zA σ 27 j) ∧ (∀ j, j / 2 / 16 ≠ r → zB υ 26 j = zB σ 26 j) ∧ (∀ j, j / 12 / 16 ≠ r → zB υ 28 j = zB σ 28 j) ∧ (∀ i, i < m → zA υ 25 (16 * r + i) = zA σ 14 i ∧ zA υ 27 (16 * r + i) = zA σ 16 i ∧ (∀ k, k < 2 → zB υ 26 (2 * (16 * r + i) + k) = zB σ 15 (2 * i + k)) ∧ ∀ k, k < 12 → zB υ 28 (12 * (16 * r + i) + k) = zB σ 17 (12 * i + k)) ∧ (∀ j, j < c → zA υ 29 j = zA σ 29 j) ∧ (∀ i, i < m → zA υ 29 (c + i) = nI (16 * r + i)) ∧ zA υ 23 = upd (zA σ 23) r (nI m) ∧ zA υ 24 = upd (zA σ 24) r mI ∧ zI υ 17 = nI (c + m) ∧ zI υ 18 = nI (r + 1) ∧ zI υ 19 = nI (n + 1) ∧ z = some (nI r, υ)) ?_ 0 σ (Nat.zero_le _) ⟨FR.rf _ _ _ _ _, fun _ _ => ⟨rfl, rfl⟩, fun _ _ => rfl, fun _ _ => rfl, fun q hq => absurd hq (Nat.not_lt_zero _), fun _ _ => rfl, fun q hq => absurd hq (Nat.not_lt_zero _), h17⟩
  · obtain ⟨υ, g1, g2, g3, g4, g5, g6, g7, g8, g9, g10, g11, g12, g13⟩ := key
    refine ⟨υ, g1, g2, g3, g4, g5, g6, g7, g8, g9, g10, g11, g12, ?_⟩
    rw [← g13]
    unfold fX7_add
    simp (disch := omega) only [l0, l1, l2, l3, l4, l5, l6, l7, l8, l9, l10, l11, l12, l16, l18, l19, l20, l21, l24, l96, l128, l100, l144, l200, l256, l288, l1536, l1728, l1800, bnd, nI_add, pk_mul, pI_sub, pI_m1, pT_le, pF_le, pT_lt, pF_lt, pT_eq, pF_eq, pF_m1, mF_eq, mT_eq, mT_lt, mF_le, lm1, rd_nI, wr_nI, cl_nI, pk_us, un_ne, pk_uLs, uL_ne, zI_uI, zI_uJ, zI_uA, zI_uB, zI_uR, zI_uN, zJ_uI, zJ_uJ, zJ_uA, zJ_uB, zJ_uR, zJ_uN, zA_uI, zA_uJ, zA_uA, zA_uB, zA_uR, zA_uN, zB_uI, zB_uJ, zB_uA, zB_uB, zB_uR, zB_uN, zR_uI, zR_uJ, zR_uA, zR_uB, zR_uR, zR_uN, zN_uI, zN_uJ, zN_uA, zN_uB, zN_uR, zN_uN, zI_ne, zJ_ne, zA_ne, zB_ne, zR_ne, zN_ne, bi_T, bi_F, nz16, ↓reduceIte, not_true_eq_false, not_false_eq_true, Bool.false_eq_true, reduceCtorEq, h18]
    rfl
  · rintro i y hi ⟨hF, k1, k2, k3, k4, k5, k6, k7⟩ kb hkb
    have e18 : zI y 18 = nI r := (hF.2.2.1 18 (by decide)).trans h18
    have e5 : zI y 5 = nI m := (hF.2.2.1 5 (by decide)).trans h5
    have e19 : zI y 19 = nI n := (hF.2.2.1 19 (by decide)).trans h19
    have eit : fX6_items y = some (nI m) := by unfold fX6_items; rw [e5]
    show ∃ υ, _ ∧ _ ∧ _ ∧ _ ∧ _ ∧ _ ∧ _ ∧ _ ∧ _ ∧ _ ∧ _ ∧ _ ∧ fX7_add_L24 _ (fun σ v2 => kb (σ, v2)) y (nI i) = _
    unfold fX7_add_L24
    by_cases him : i = m
    · obtain ⟨υ, hυ⟩ : ∃ υ, υ = uI (uI (uA (uA y 23 (upd (zA y 23) r (nI m))) 24 (upd (zA y 24) r mI)) 18 (nI (r + 1))) 19 (nI (n + 1)) := ⟨_, rfl⟩
      have hFu : FR [23, 24] [] [18, 19] [] y υ := by
        rw [hυ]
        exact FR.uI (FR.uI (FR.uA (FR.uA (FR.rf _ _ _ _ _) (by decide)) (by decide)) (by decide)) (by decide)
      refine ⟨υ, (hF.mono (by decide) (by decide) (by decide) (by decide)).tr (hFu.mono (by decide) (by decide) (by decide) (by decide)), fun j hj => by rw [hFu.1 25 (by decide), hFu.1 27 (by decide)]; exact k1 j hj, fun j hj => by rw [hFu.2.1 26 (by decide)]; exact k2 j hj, fun j hj => by rw [hFu.2.1 28 (by decide)]; exact k3 j hj, fun q hq => by rw [hFu.1 25 (by decide), hFu.1 27 (by decide), hFu.2.1 26 (by decide), hFu.2.1 28 (by decide)]; exact k4 q (by omega), fun j hj => by rw [hFu.1 29 (by decide)]; exact k5 j hj, fun q hq => by rw [hFu.1 29 (by decide)]; exact k6 q (by omega), ?_, ?_, ?_, ?_, ?_, ?_⟩
      · rw [hυ, zA_uI, zA_uI, zA_ne (by decide), zA_uA, hF.1 23 (by decide)]
      · rw [hυ, zA_uI, zA_uI, zA_uA, hF.1 24 (by decide)]
      · rw [hFu.2.2.1 17 (by decide), k7, him]
      · rw [hυ, zI_ne (by decide), zI_uI]
      · rw [hυ, zI_uI]
      · have hsub : nI (r + 1) - nI 1 = nI r := by rw [pI_sub (by omega), Nat.add_sub_cancel]
        rw [hυ]
        simp (disch := omega) only [l0, l1, l2, l3, l4, l5, l6, l7, l8, l9, l10, l11, l12, l16, l18, l19, l20, l21, l24, l96, l128, l100, l144, l200, l256, l288, l1536, l1728, l1800, bnd, nI_add, pk_mul, pI_sub, pI_m1, pT_le, pF_le, pT_lt, pF_lt, pT_eq, pF_eq, pF_m1, mF_eq, mT_eq, mT_lt, mF_le, lm1, rd_nI, wr_nI, cl_nI, pk_us, un_ne, pk_uLs, uL_ne, zI_uI, zI_uJ, zI_uA, zI_uB, zI_uR, zI_uN, zJ_uI, zJ_uJ, zJ_uA, zJ_uB, zJ_uR, zJ_uN, zA_uI, zA_uJ, zA_uA, zA_uB, zA_uR, zA_uN, zB_uI, zB_uJ, zB_uA, zB_uB, zB_uR, zB_uN, zR_uI, zR_uJ, zR_uA, zR_uB, zR_uR, zR_uN, zN_uI, zN_uJ, zN_uA, zN_uB, zN_uR, zN_uN, zI_ne, zJ_ne, zA_ne, zB_ne, zR_ne, zN_ne, bi_T, bi_F, nz16, ↓reduceIte, not_true_eq_false, not_false_eq_true, Bool.false_eq_true, reduceCtorEq, eit, him, e18, e19, hsub]
    · have him2 : i < m := by omega
      obtain ⟨υ, f1, f2, f3, f4, f5, f6, f7, f8⟩ := c_fill (σ := y) (s := 16 * r + i) (i := i) (by omega) (by omega)
      have z17 : zI υ 17 = nI (c + i) := (f1.2.2.1 17 (by decide)).trans k7
      have z18 : zI υ 18 = nI r := (f1.2.2.1 18 (by decide)).trans e18
      obtain ⟨w, hw⟩ : ∃ w, w = uI (uA υ 29 (upd (zA υ 29) (c + i) (nI (16 * r + i)))) 17 (nI (c + i + 1)) := ⟨_, rfl⟩
      have hFw : FR [29] [] [17] [] υ w := by rw [hw]; exact FR.uI (FR.uA (FR.rf _ _ _ _ _) (by decide)) (by decide)
      have e29 : zA w 29 = upd (zA y 29) (c + i) (nI (16 * r + i)) := by rw [hw, zA_uI, zA_uA, f1.1 29 (by decide)]
      have e25 : zA w 25 = upd (zA y 25) (16 * r + i) (zA y 14 i) := by rw [hFw.1 25 (by decide)]; exact f2
      have e27 : zA w 27 = upd (zA y 27) (16 * r + i) (zA y 16 i) := by rw [hFw.1 27 (by decide)]; exact f3
      have e26 : zB w 26 = zB υ 26 := hFw.2.1 26 (by decide)
      have e28 : zB w 28 = zB υ 28 := hFw.2.1 28 (by decide)
      obtain ⟨x, g⟩ := hkb w him2 ⟨(hF.tr (f1.mono (by decide) (by decide) (by decide) (by decide))).tr (hFw.mono (by decide) (by decide) (by decide) (by decide)), fun j hj => by
        rw [e25, e27, un_ne (by omega), un_ne (by omega)]
        exact k1 j hj, fun j hj => by
        rw [e26, f4 j (by omega)]
        exact k2 j hj, fun j hj => by
        rw [e28, f6 j (by omega)]
        exact k3 j hj, fun q hq => by
        by_cases e : q = i
        · rw [e, e25, e27, e26, e28, pk_us, pk_us, hF.1 14 (by decide), hF.1 16 (by decide)]
          refine ⟨rfl, rfl, fun k hk => ?_, fun k hk => ?_⟩
          · rw [f5 k hk, hF.2.1 15 (by decide)]
          · rw [f7 k hk, hF.2.1 17 (by decide)]
        · obtain ⟨b1, b2, b3, b4⟩ := k4 q (by omega)
          rw [e25, e27, e26, e28, un_ne (by omega), un_ne (by omega)]
          refine ⟨b1, b2, fun k hk => ?_, fun k hk => ?_⟩
          · rw [f4 _ (by omega)]
            exact b3 k hk
          · rw [f6 _ (by omega)]
            exact b4 k hk, fun j hj => by
        rw [e29, un_ne (by omega)]
        exact k5 j hj, fun q hq => by
        rw [e29]
        by_cases e : q = i
        · rw [e, pk_us]
        · rw [un_ne (by omega)]
          exact k6 q (by omega), by rw [hw, zI_uI]; rfl⟩
      refine ⟨x, g.1, g.2.1, g.2.2.1, g.2.2.2.1, g.2.2.2.2.1, g.2.2.2.2.2.1, g.2.2.2.2.2.2.1, g.2.2.2.2.2.2.2.1, g.2.2.2.2.2.2.2.2.1, g.2.2.2.2.2.2.2.2.2.1, g.2.2.2.2.2.2.2.2.2.2.1, g.2.2.2.2.2.2.2.2.2.2.2.1, ?_⟩
      rw [← g.2.2.2.2.2.2.2.2.2.2.2.2, hw]
      simp (disch := omega) only [l0, l1, l2, l3, l4, l5, l6, l7, l8, l9, l10, l11, l12, l16, l18, l19, l20, l21, l24, l96, l128, l100, l144, l200, l256, l288, l1536, l1728, l1800, bnd, nI_add, pk_mul, pI_sub, pI_m1, pT_le, pF_le, pT_lt, pF_lt, pT_eq, pF_eq, pF_m1, mF_eq, mT_eq, mT_lt, mF_le, lm1, rd_nI, wr_nI, cl_nI, pk_us, un_ne, pk_uLs, uL_ne, zI_uI, zI_uJ, zI_uA, zI_uB, zI_uR, zI_uN, zJ_uI, zJ_uJ, zJ_uA, zJ_uB, zJ_uR, zJ_uN, zA_uI, zA_uJ, zA_uA, zA_uB, zA_uR, zA_uN, zB_uI, zB_uJ, zB_uA, zB_uB, zB_uR, zB_uN, zR_uI, zR_uJ, zR_uA, zR_uB, zR_uR, zR_uN, zN_uI, zN_uJ, zN_uA, zN_uB, zN_uR, zN_uN, zI_ne, zJ_ne, zA_ne, zB_ne, zR_ne, zN_ne, bi_T, bi_F, nz16, ↓reduceIte, not_true_eq_false, not_false_eq_true, Bool.false_eq_true, reduceCtorEq, eit, e18, f8, z17, z18]
/-- what text keeps of all but a roll more -/
def SG (σ υ : St) : Prop := (∀ q, q ∈ pA → q ∉ [22, 23, 24, 25, 27, 29, 56, 60, 61, 62, 63, 64, 65, 66, 67, 68, 69] → zA υ q = zA σ q) ∧ (∀ q, q ∈ pB → q ∉ [26, 28] → zB υ q = zB σ q) ∧ (∀ k, k ∈ pI → k ∉ [2, 17, 18, 19, 31, 32] → zI υ k = zI σ k) ∧ zN υ = zN σ ∧ (rOk σ → rOk υ) ∧ eqOn σ υ 67 4 ∧ eqOn σ υ 68 80 ∧ (P22 σ → P22 υ)
theorem sbv_nar (b : Nat) : vp_nar .byte (sbv b) = sbv b := pk_vb _
theorem sbv_96 : ∀ c, 1 ≤ c → c ≤ 26 → sbv (96 + c) = nI (96 + c) := by
  have h : ∀ c, c < 27 → 1 ≤ c → sbv (96 + c) = nI (96 + c) := by decide +kernel
  exact fun c h1 h2 => h c (by omega) h1
/-- the model copies a text: array q, from place d on -/
theorem m_copy56 {σ : St} {bs : List Nat} {r : Nat} (k1 : St → Option (Int32 × St)) (hr : r ≤ 8) (h31 : zI σ 31 = nI bs.length) (h55 : hB (zA σ 55) bs) (h32 : zI σ 32 = nI r) (hl : bs.length ≤ 200) : ∃ υ, FR [56] [] [] [] σ υ ∧ (∀ j, j < bs.length → zA υ 56 (200 * r + j) = sbv (bs.getD j 0)) ∧ (∀ j, j / 200 ≠ r → zA υ 56 j = zA σ 56 j) ∧ fX12_text_P80 k1 σ (nI 0) = k1 υ := by
  have key := it_for (β := St) (body := fun (kb : (St × Int32) → Option (Int32 × St)) (t : St × Int32) => fX12_text_L80 k1 (fun σ v2 => kb (σ, v2)) t.1 t.2) bs.length (by omega) (fun i y => (y, nI i)) (fun i y => FR [56] [] [] [] σ y ∧ (∀ j, j < i → zA y 56 (200 * r + j) = sbv (bs.getD j 0)) ∧ ∀ j, j / 200 ≠ r → zA y 56 j = zA σ 56 j) (fun i y z => ∃ υ, FR [56] [] [] [] σ υ ∧ (∀ j, j < bs.length → zA υ 56 (200 * r + j) = sbv (bs.getD j 0)) ∧ (∀ j, j / 200 ≠ r → zA υ 56 j = zA σ 56 j) ∧ z = k1 υ) ?_ 0 σ (Nat.zero_le _) ⟨FR.rf _ _ _ _ _, fun j hj => absurd hj (Nat.not_lt_zero _), fun _ _ => rfl⟩
  · exact key
  · rintro i y hi ⟨hF, h1, h2⟩ kb hkb
    have e31 : zI y 31 = nI bs.length := (hF.2.2.1 31 (by decide)).trans h31
    have e32 : zI y 32 = nI r := (hF.2.2.1 32 (by decide)).trans h32
    show ∃ υ, _ ∧ _ ∧ _ ∧ fX12_text_L80 k1 (fun σ v2 => kb (σ, v2)) y (nI i) = _
    unfold fX12_text_L80
    by_cases hie : i = bs.length
    · rw [hie] at h1
      exact ⟨y, hF, h1, h2, by simp (disch := omega) only [l0, l1, l2, l3, l4, l5, l6, l7, l8, l9, l10, l11, l12, l16, l18, l19, l20, l21, l24, l96, l128, l100, l144, l200, l256, l288, l1536, l1728, l1800, bnd, nI_add, pk_mul, pI_sub, pI_m1, pT_le, pF_le, pT_lt, pF_lt, pT_eq, pF_eq, pF_m1, mF_eq, mT_eq, mT_lt, mF_le, lm1, rd_nI, wr_nI, cl_nI, pk_us, un_ne, pk_uLs, uL_ne, zI_uI, zI_uJ, zI_uA, zI_uB, zI_uR, zI_uN, zJ_uI, zJ_uJ, zJ_uA, zJ_uB, zJ_uR, zJ_uN, zA_uI, zA_uJ, zA_uA, zA_uB, zA_uR, zA_uN, zB_uI, zB_uJ, zB_uA, zB_uB, zB_uR, zB_uN, zR_uI, zR_uJ, zR_uA, zR_uB, zR_uR, zR_uN, zN_uI, zN_uJ, zN_uA, zN_uB, zN_uR, zN_uN, zI_ne, zJ_ne, zA_ne, zB_ne, zR_ne, zN_ne, bi_T, bi_F, nz16, ↓reduceIte, not_true_eq_false, not_false_eq_true, Bool.false_eq_true, reduceCtorEq, e31, hie]⟩
    · have e55 : zA y 55 i = sbv (bs.getD i 0) := by rw [hF.1 55 (by decide)]; exact h55 i (by omega)
      obtain ⟨υ, g1, g2, g3, g4⟩ := hkb (uA y 56 (upd (zA y 56) (200 * r + i) (sbv (bs.getD i 0)))) (by omega) ⟨FR.uA hF (by decide), fun j hj => by
        rw [zA_uA]
        by_cases e : j = i
        · rw [e, pk_us]
        · rw [un_ne (by omega)]
          exact h1 j (by omega), fun j hj => by
        rw [zA_uA, un_ne (by omega)]
        exact h2 j hj⟩
      refine ⟨υ, g1, g2, g3, ?_⟩
      rw [← g4]
      have hn := sbv_nar (bs.getD i 0)
      simp (disch := omega) only [l0, l1, l2, l3, l4, l5, l6, l7, l8, l9, l10, l11, l12, l16, l18, l19, l20, l21, l24, l96, l128, l100, l144, l200, l256, l288, l1536, l1728, l1800, bnd, nI_add, pk_mul, pI_sub, pI_m1, pT_le, pF_le, pT_lt, pF_lt, pT_eq, pF_eq, pF_m1, mF_eq, mT_eq, mT_lt, mF_le, lm1, rd_nI, wr_nI, cl_nI, pk_us, un_ne, pk_uLs, uL_ne, zI_uI, zI_uJ, zI_uA, zI_uB, zI_uR, zI_uN, zJ_uI, zJ_uJ, zJ_uA, zJ_uB, zJ_uR, zJ_uN, zA_uI, zA_uJ, zA_uA, zA_uB, zA_uR, zA_uN, zB_uI, zB_uJ, zB_uA, zB_uB, zB_uR, zB_uN, zR_uI, zR_uJ, zR_uA, zR_uB, zR_uR, zR_uN, zN_uI, zN_uJ, zN_uA, zN_uB, zN_uR, zN_uN, zI_ne, zJ_ne, zA_ne, zB_ne, zR_ne, zN_ne, bi_T, bi_F, nz16, ↓reduceIte, not_true_eq_false, not_false_eq_true, Bool.false_eq_true, reduceCtorEq, e31, e55, e32, hn]
