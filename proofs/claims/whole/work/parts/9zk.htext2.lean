/-! text of a habit: both sides *-/
theorem m_copy57 {σ : St} {bs : List Nat} {r : Nat} (k1 : St → Option (Int32 × St)) (hr : r ≤ 3) (h31 : zI σ 31 = nI bs.length) (h55 : hB (zA σ 55) bs) (h32 : zI σ 34 = nI r) (hl : bs.length ≤ 200) : ∃ υ, FR [57] [] [] [] σ υ ∧ (∀ j, j < bs.length → zA υ 57 (200 * r + j) = sbv (bs.getD j 0)) ∧ (∀ j, j / 200 ≠ r → zA υ 57 j = zA σ 57 j) ∧ fX12_text_P184 k1 σ (nI 0) = k1 υ := by
  have key := it_for (β := St) (body := fun (kb : (St × Int32) → Option (Int32 × St)) (t : St × Int32) => fX12_text_L184 k1 (fun σ v2 => kb (σ, v2)) t.1 t.2) bs.length (by omega) (fun i y => (y, nI i)) (fun i y => FR [57] [] [] [] σ y ∧ (∀ j, j < i → zA y 57 (200 * r + j) = sbv (bs.getD j 0)) ∧ ∀ j, j / 200 ≠ r → zA y 57 j = zA σ 57 j) (fun i y z => ∃ υ, FR [57] [] [] [] σ υ ∧ (∀ j, j < bs.length → zA υ 57 (200 * r + j) = sbv (bs.getD j 0)) ∧ (∀ j, j / 200 ≠ r → zA υ 57 j = zA σ 57 j) ∧ z = k1 υ) ?_ 0 σ (Nat.zero_le _) ⟨FR.rf _ _ _ _ _, fun j hj => absurd hj (Nat.not_lt_zero _), fun _ _ => rfl⟩
  · exact key
  · rintro i y hi ⟨hF, h1, h2⟩ kb hkb
    have e31 : zI y 31 = nI bs.length := (hF.2.2.1 31 (by decide)).trans h31
    have e32 : zI y 34 = nI r := (hF.2.2.1 34 (by decide)).trans h32
    show ∃ υ, _ ∧ _ ∧ _ ∧ fX12_text_L184 k1 (fun σ v2 => kb (σ, v2)) y (nI i) = _
    unfold fX12_text_L184
    by_cases hie : i = bs.length
    · rw [hie] at h1
      exact ⟨y, hF, h1, h2, by simp (disch := omega) only [l0, l1, l2, l3, l4, l5, l6, l7, l8, l9, l10, l11, l12, l16, l18, l19, l20, l21, l24, l96, l128, l100, l144, l200, l256, l288, l1536, l1728, l1800, bnd, nI_add, pk_mul, pI_sub, pI_m1, pT_le, pF_le, pT_lt, pF_lt, pT_eq, pF_eq, pF_m1, mF_eq, mT_eq, mT_lt, mF_le, lm1, rd_nI, wr_nI, cl_nI, pk_us, un_ne, pk_uLs, uL_ne, zI_uI, zI_uJ, zI_uA, zI_uB, zI_uR, zI_uN, zJ_uI, zJ_uJ, zJ_uA, zJ_uB, zJ_uR, zJ_uN, zA_uI, zA_uJ, zA_uA, zA_uB, zA_uR, zA_uN, zB_uI, zB_uJ, zB_uA, zB_uB, zB_uR, zB_uN, zR_uI, zR_uJ, zR_uA, zR_uB, zR_uR, zR_uN, zN_uI, zN_uJ, zN_uA, zN_uB, zN_uR, zN_uN, zI_ne, zJ_ne, zA_ne, zB_ne, zR_ne, zN_ne, bi_T, bi_F, nz16, ↓reduceIte, not_true_eq_false, not_false_eq_true, Bool.false_eq_true, reduceCtorEq, e31, hie]⟩
    · have e55 : zA y 55 i = sbv (bs.getD i 0) := by rw [hF.1 55 (by decide)]; exact h55 i (by omega)
      obtain ⟨υ, g1, g2, g3, g4⟩ := hkb (uA y 57 (upd (zA y 57) (200 * r + i) (sbv (bs.getD i 0)))) (by omega) ⟨FR.uA hF (by decide), fun j hj => by
        rw [zA_uA]
        by_cases e : j = i
        · rw [e, pk_us]
        · rw [un_ne (by omega)]
          exact h1 j (by omega), fun j hj => by
        rw [zA_uA, un_ne (by omega)]
        exact h2 j hj⟩
      refine ⟨υ, g1, g2, g3, ?_⟩
      rw [← g4]
      have hn := sbv_nar (bs.getD i 0)
      simp (disch := omega) only [l0, l1, l2, l3, l4, l5, l6, l7, l8, l9, l10, l11, l12, l16, l18, l19, l20, l21, l24, l96, l128, l100, l144, l200, l256, l288, l1536, l1728, l1800, bnd, nI_add, pk_mul, pI_sub, pI_m1, pT_le, pF_le, pT_lt, pF_lt, pT_eq, pF_eq, pF_m1, mF_eq, mT_eq, mT_lt, mF_le, lm1, rd_nI, wr_nI, cl_nI, pk_us, un_ne, pk_uLs, uL_ne, zI_uI, zI_uJ, zI_uA, zI_uB, zI_uR, zI_uN, zJ_uI, zJ_uJ, zJ_uA, zJ_uB, zJ_uR, zJ_uN, zA_uI, zA_uJ, zA_uA, zA_uB, zA_uR, zA_uN, zB_uI, zB_uJ, zB_uA, zB_uB, zB_uR, zB_uN, zR_uI, zR_uJ, zR_uA, zR_uB, zR_uR, zR_uN, zN_uI, zN_uJ, zN_uA, zN_uB, zN_uR, zN_uN, zI_ne, zJ_ne, zA_ne, zB_ne, zR_ne, zN_ne, bi_T, bi_F, nz16, ↓reduceIte, not_true_eq_false, not_false_eq_true, Bool.false_eq_true, reduceCtorEq, e31, e55, e32, hn]
theorem m_fault2 {σ : St} {bs : List Nat} {n v f l w : Nat} (h31 : zI σ 31 = nI bs.length) (h55 : hB (zA σ 55) bs) (hl : bs.length ≤ 200) (hby : ∀ b, b ∈ bs → 1 ≤ b ∧ b < 256) (hX : (tkF Jh 4 gh bs).length ≤ 201) (h1 : n < 1000) (h2 : v < 1000) (h3 : f < 1000) (h4 : l < 1000) (h5 : w < 1000) (heb : eB (evS n v f l w)) : ∃ υ, fX12_fault σ (nI 2) = some (fx (pHab (evS n v f l w) bs).2, υ) ∧ SE σ υ := by
  have hda : ∀ j, j < bs.length → zA (uI σ 30 (nI 0)) 55 (0 + j) = sbv (bs.getD j 0) := by
    intro j hj
    rw [Nat.zero_add, zA_uI]
    exact h55 j hj
  obtain ⟨υ, a1, a2, a3, _⟩ := m_go_55 (σ := uI σ 30 (nI 0)) (b0 := 0) (bs := bs) ⟨bnd6_n h1, bnd6_n h2, bnd6_n h3, bnd6_n h4, bnd6_n h5⟩ heb (by omega) hda hl hby (gX_F hl hby hX)
  refine ⟨υ, ?_, (se30 σ (nI 0)).tr (se_fr a2 (by decide) (by decide) (by decide) (by decide))⟩
  have hin := m_isIn (a := 2) (b := 0) (c := 2) (by decide) (by decide) (by decide)
  rw [decide_eq_true (show 0 ≤ 2 ∧ 2 ≤ 2 by decide)] at hin
  unfold fX12_fault
  simp (disch := omega) only [l0, l1, l2, l3, l4, l5, l6, l7, l8, l9, l10, l11, l12, l16, l18, l19, l20, l21, l24, l96, l128, l100, l144, l200, l256, l288, l1536, l1728, l1800, bnd, nI_add, pk_mul, pI_sub, pI_m1, pT_le, pF_le, pT_lt, pF_lt, pT_eq, pF_eq, pF_m1, mF_eq, mT_eq, mT_lt, mF_le, lm1, rd_nI, wr_nI, cl_nI, pk_us, un_ne, pk_uLs, uL_ne, zI_uI, zI_uJ, zI_uA, zI_uB, zI_uR, zI_uN, zJ_uI, zJ_uJ, zJ_uA, zJ_uB, zJ_uR, zJ_uN, zA_uI, zA_uJ, zA_uA, zA_uB, zA_uR, zA_uN, zB_uI, zB_uJ, zB_uA, zB_uB, zB_uR, zB_uN, zR_uI, zR_uJ, zR_uA, zR_uB, zR_uR, zR_uN, zN_uI, zN_uJ, zN_uA, zN_uB, zN_uR, zN_uN, zI_ne, zJ_ne, zA_ne, zB_ne, zR_ne, zN_ne, bi_T, bi_F, nz16, ↓reduceIte, not_true_eq_false, not_false_eq_true, Bool.false_eq_true, reduceCtorEq, hin, h31, a1, a3]
/-- what text keeps of all but a habit more -/
def SGh (σ υ : St) : Prop := (∀ q, q ∈ pA → q ∉ [22, 57, 58, 60, 61, 62, 63, 64, 65, 66, 67, 68] → zA υ q = zA σ q) ∧ (∀ q, q ∈ pB → q ∉ [83, 84, 85, 86] → zB υ q = zB σ q) ∧ (∀ k, k ∈ pI → k ∉ [2, 11, 31, 34] → zI υ k = zI σ k) ∧ zN υ = zN σ ∧ (rOk σ → rOk υ) ∧ eqOn σ υ 60 8 ∧ eqOn σ υ 61 128 ∧ eqOn σ υ 62 128 ∧ eqOn σ υ 63 256 ∧ eqOn σ υ 64 256 ∧ eqOn σ υ 65 1536 ∧ eqOn σ υ 66 1536 ∧ eqOn σ υ 67 4 ∧ eqOn σ υ 68 80 ∧ (P22 σ → P22 υ)
theorem t_text_h {σ : St} {g : Gh} {nh : Nat} {bs : List Nat} {hb : Nat → List Nat} (hH : HI σ g nh) (hT : TP σ bs) (h22 : P22 σ) (h15 : E15 σ) (hX : HX σ nh hb) : (∃ τ υ, fX11_text σ (nI 2) = some (mI, τ) ∧ SF σ τ ∧ fX12_text τ (nI 2) = some (mI, υ) ∧ SF τ υ) ∨ ∃ r τ υ, fX11_text σ (nI 2) = some (r, τ) ∧ fX12_text τ (nI 2) = some (r, υ) ∧ nh < 4 ∧ SGh σ υ ∧ TP υ [] ∧ HI υ g (nh + 1) ∧ HX υ (nh + 1) (fun h => if h = nh then bs else hb h) := by
  obtain ⟨τ1, _, n, v, f, l, w, h1, h2, h3, h4, h5, heb, c1, sf1, hRW, hlen, _, _, _⟩ := t_fault_h hT h22 h15
  have T1 := hT.sf sf1
  have H1 := hH.sf sf1
  have hn4 := hH.1
  have h11 := H1.2.1
  have h34 := H1.2.2.1
  have hin := m_isIn (a := 2) (b := 0) (c := 2) (by decide) (by decide) (by decide)
  rw [decide_eq_true (show 0 ≤ 2 ∧ 2 ≤ 2 by decide)] at hin
  by_cases hn8 : nh = 4
  · left
    refine ⟨τ1, uI τ1 30 (nI 0), ?_, sf1, ?_, SF.of (se30 τ1 _)⟩
    · unfold fX11_text fX11_stored fX1_add
      rw [hn8] at h11
      by_cases e : fx (pHab (evS n v f l w) bs).2 = mI
      · rw [e] at c1
        simp (disch := omega) only [l0, l1, l2, l3, l4, l5, l6, l7, l8, l9, l10, l11, l12, l16, l18, l19, l20, l21, l24, l96, l128, l100, l144, l200, l256, l288, l1536, l1728, l1800, bnd, nI_add, pk_mul, pI_sub, pI_m1, pT_le, pF_le, pT_lt, pF_lt, pT_eq, pF_eq, pF_m1, mF_eq, mT_eq, mT_lt, mF_le, lm1, rd_nI, wr_nI, cl_nI, pk_us, un_ne, pk_uLs, uL_ne, zI_uI, zI_uJ, zI_uA, zI_uB, zI_uR, zI_uN, zJ_uI, zJ_uJ, zJ_uA, zJ_uB, zJ_uR, zJ_uN, zA_uI, zA_uJ, zA_uA, zA_uB, zA_uR, zA_uN, zB_uI, zB_uJ, zB_uA, zB_uB, zB_uR, zB_uN, zR_uI, zR_uJ, zR_uA, zR_uB, zR_uR, zR_uN, zN_uI, zN_uJ, zN_uA, zN_uB, zN_uR, zN_uN, zI_ne, zJ_ne, zA_ne, zB_ne, zR_ne, zN_ne, bi_T, bi_F, nz16, ↓reduceIte, not_true_eq_false, not_false_eq_true, Bool.false_eq_true, reduceCtorEq, c1, mI_eq, h11]
      · simp (disch := omega) only [l0, l1, l2, l3, l4, l5, l6, l7, l8, l9, l10, l11, l12, l16, l18, l19, l20, l21, l24, l96, l128, l100, l144, l200, l256, l288, l1536, l1728, l1800, bnd, nI_add, pk_mul, pI_sub, pI_m1, pT_le, pF_le, pT_lt, pF_lt, pT_eq, pF_eq, pF_m1, mF_eq, mT_eq, mT_lt, mF_le, lm1, rd_nI, wr_nI, cl_nI, pk_us, un_ne, pk_uLs, uL_ne, zI_uI, zI_uJ, zI_uA, zI_uB, zI_uR, zI_uN, zJ_uI, zJ_uJ, zJ_uA, zJ_uB, zJ_uR, zJ_uN, zA_uI, zA_uJ, zA_uA, zA_uB, zA_uR, zA_uN, zB_uI, zB_uJ, zB_uA, zB_uB, zB_uR, zB_uN, zR_uI, zR_uJ, zR_uA, zR_uB, zR_uR, zR_uN, zN_uI, zN_uJ, zN_uA, zN_uB, zN_uR, zN_uN, zI_ne, zJ_ne, zA_ne, zB_ne, zR_ne, zN_ne, bi_T, bi_F, nz16, ↓reduceIte, not_true_eq_false, not_false_eq_true, Bool.false_eq_true, reduceCtorEq, c1, mI_eq, if_neg e]
    · rw [hn8] at h34
      unfold fX12_text
      simp (disch := omega) only [l0, l1, l2, l3, l4, l5, l6, l7, l8, l9, l10, l11, l12, l16, l18, l19, l20, l21, l24, l96, l128, l100, l144, l200, l256, l288, l1536, l1728, l1800, bnd, nI_add, pk_mul, pI_sub, pI_m1, pT_le, pF_le, pT_lt, pF_lt, pT_eq, pF_eq, pF_m1, mF_eq, mT_eq, mT_lt, mF_le, lm1, rd_nI, wr_nI, cl_nI, pk_us, un_ne, pk_uLs, uL_ne, zI_uI, zI_uJ, zI_uA, zI_uB, zI_uR, zI_uN, zJ_uI, zJ_uJ, zJ_uA, zJ_uB, zJ_uR, zJ_uN, zA_uI, zA_uJ, zA_uA, zA_uB, zA_uR, zA_uN, zB_uI, zB_uJ, zB_uA, zB_uB, zB_uR, zB_uN, zR_uI, zR_uJ, zR_uA, zR_uB, zR_uR, zR_uN, zN_uI, zN_uJ, zN_uA, zN_uB, zN_uR, zN_uN, zI_ne, zJ_ne, zA_ne, zB_ne, zR_ne, zN_ne, bi_T, bi_F, nz16, ↓reduceIte, not_true_eq_false, not_false_eq_true, Bool.false_eq_true, reduceCtorEq, hin, h34]
  · have hn : nh < 4 := by omega
    by_cases hfx : fx (pHab (evS n v f l w) bs).2 = mI
    · right
      rw [hfx] at c1
      obtain ⟨τ2, a1, a2, a3, a4⟩ := c_addh hn h11
      obtain ⟨τ3, hτ3⟩ : ∃ τ3, τ3 = uI τ2 2 (nI 0) := ⟨_, rfl⟩
      have hF3 : FR [] [83 + nh] [2, 11] [] τ1 τ3 := by
        rw [hτ3]
        exact FR.uI (FR.mono a1 (by decide) (fun q hq => hq) (by decide) (by decide)) (by decide)
      have hcut : fX9_cut τ2 (nI 0) = some (true, τ3) := by
        have z2 : zI τ2 2 = nI bs.length := (a1.2.2.1 2 (by decide)).trans T1.2.2.1
        have h200 := T1.1
        rw [hτ3]
        unfold fX9_cut
        simp (disch := omega) only [l0, l1, l2, l3, l4, l5, l6, l7, l8, l9, l10, l11, l12, l16, l18, l19, l20, l21, l24, l96, l128, l100, l144, l200, l256, l288, l1536, l1728, l1800, bnd, nI_add, pk_mul, pI_sub, pI_m1, pT_le, pF_le, pT_lt, pF_lt, pT_eq, pF_eq, pF_m1, mF_eq, mT_eq, mT_lt, mF_le, lm1, rd_nI, wr_nI, cl_nI, pk_us, un_ne, pk_uLs, uL_ne, zI_uI, zI_uJ, zI_uA, zI_uB, zI_uR, zI_uN, zJ_uI, zJ_uJ, zJ_uA, zJ_uB, zJ_uR, zJ_uN, zA_uI, zA_uJ, zA_uA, zA_uB, zA_uR, zA_uN, zB_uI, zB_uJ, zB_uA, zB_uB, zB_uR, zB_uN, zR_uI, zR_uJ, zR_uA, zR_uB, zR_uR, zR_uN, zN_uI, zN_uJ, zN_uA, zN_uB, zN_uR, zN_uN, zI_ne, zJ_ne, zA_ne, zB_ne, zR_ne, zN_ne, bi_T, bi_F, nz16, ↓reduceIte, not_true_eq_false, not_false_eq_true, Bool.false_eq_true, reduceCtorEq, z2]
      have hcl : fX11_text σ (nI 2) = some (nI nh, τ3) := by
        unfold fX11_text fX11_stored
        simp (disch := omega) only [l0, l1, l2, l3, l4, l5, l6, l7, l8, l9, l10, l11, l12, l16, l18, l19, l20, l21, l24, l96, l128, l100, l144, l200, l256, l288, l1536, l1728, l1800, bnd, nI_add, pk_mul, pI_sub, pI_m1, pT_le, pF_le, pT_lt, pF_lt, pT_eq, pF_eq, pF_m1, mF_eq, mT_eq, mT_lt, mF_le, lm1, rd_nI, wr_nI, cl_nI, pk_us, un_ne, pk_uLs, uL_ne, zI_uI, zI_uJ, zI_uA, zI_uB, zI_uR, zI_uN, zJ_uI, zJ_uJ, zJ_uA, zJ_uB, zJ_uR, zJ_uN, zA_uI, zA_uJ, zA_uA, zA_uB, zA_uR, zA_uN, zB_uI, zB_uJ, zB_uA, zB_uB, zB_uR, zB_uN, zR_uI, zR_uJ, zR_uA, zR_uB, zR_uR, zR_uN, zN_uI, zN_uJ, zN_uA, zN_uB, zN_uR, zN_uN, zI_ne, zJ_ne, zA_ne, zB_ne, zR_ne, zN_ne, bi_T, bi_F, nz16, ↓reduceIte, not_true_eq_false, not_false_eq_true, Bool.false_eq_true, reduceCtorEq, c1, mI_eq, a4, hcut]
      have z31 : zI τ3 31 = nI bs.length := (hF3.2.2.1 31 (by decide)).trans T1.2.2.2.1
      have z55 : hB (zA τ3 55) bs := by rw [hF3.1 55 (by decide)]; exact T1.2.2.2.2.2
      obtain ⟨υ1, b1, b2⟩ := m_fault2 (σ := uI τ3 30 (nI 0)) z31 z55 T1.1 T1.2.1 hlen h1 h2 h3 h4 h5 heb
      rw [hfx] at b1
      have y31 : zI υ1 31 = nI bs.length := (b2.i 31 (by decide)).trans z31
      have y55 : hB (zA υ1 55) bs := by rw [b2.a 55 (by decide)]; exact z55
      have z34 : zI τ3 34 = nI nh := (hF3.2.2.1 34 (by decide)).trans h34
      have y34 : zI υ1 34 = nI nh := (b2.i 34 (by decide)).trans z34
      obtain ⟨υ2, f1, f2, f3, f4⟩ := m_copy57 (r := nh) (fun s6 => wr 4 (zI s6 34) ((some (uA s6 58 (upd (zA s6 58) (Int32.toNatClampNeg (zI s6 34)) (zI s6 31)))).bind fun s7 => (some (uI s7 31 (0 : Int32))).bind fun s8 => (some (uI s8 34 ((zI s8 34) + (1 : Int32)))).bind fun s9 => some (((zI s9 34) - (1 : Int32)), s9))) (by omega) y31 y55 y34 T1.1
      have x31 : zI υ2 31 = nI bs.length := (f1.2.2.1 31 (by decide)).trans y31
      have x34 : zI υ2 34 = nI nh := (f1.2.2.1 34 (by decide)).trans y34
      obtain ⟨υ, hυ⟩ : ∃ υ, υ = uI (uI (uA υ2 58 (upd (zA υ2 58) nh (nI bs.length))) 31 (nI 0)) 34 (nI (nh + 1)) := ⟨_, rfl⟩
      have hFu : FR [58] [] [31, 34] [] υ2 υ := by rw [hυ]; exact FR.uI (FR.uI (FR.uA (FR.rf _ _ _ _ _) (by decide)) (by decide)) (by decide)
      have hmo : fX12_text τ3 (nI 2) = some (nI nh, υ) := by
        have hsub : nI (nh + 1) - nI 1 = nI nh := by rw [pI_sub (by omega), Nat.add_sub_cancel]
        unfold fX12_text fX12_text_J55
        simp (disch := omega) only [l0, l1, l2, l3, l4, l5, l6, l7, l8, l9, l10, l11, l12, l16, l18, l19, l20, l21, l24, l96, l128, l100, l144, l200, l256, l288, l1536, l1728, l1800, bnd, nI_add, pk_mul, pI_sub, pI_m1, pT_le, pF_le, pT_lt, pF_lt, pT_eq, pF_eq, pF_m1, mF_eq, mT_eq, mT_lt, mF_le, lm1, rd_nI, wr_nI, cl_nI, pk_us, un_ne, pk_uLs, uL_ne, zI_uI, zI_uJ, zI_uA, zI_uB, zI_uR, zI_uN, zJ_uI, zJ_uJ, zJ_uA, zJ_uB, zJ_uR, zJ_uN, zA_uI, zA_uJ, zA_uA, zA_uB, zA_uR, zA_uN, zB_uI, zB_uJ, zB_uA, zB_uB, zB_uR, zB_uN, zR_uI, zR_uJ, zR_uA, zR_uB, zR_uR, zR_uN, zN_uI, zN_uJ, zN_uA, zN_uB, zN_uR, zN_uN, zI_ne, zJ_ne, zA_ne, zB_ne, zR_ne, zN_ne, bi_T, bi_F, nz16, ↓reduceIte, not_true_eq_false, not_false_eq_true, Bool.false_eq_true, reduceCtorEq, hin, z34, b1, mI_eq]
        have f5 := f4
        simp (disch := omega) only [l0, l1, l2, l3, l4, l5, l6, l7, l8, l9, l10, l11, l12, l16, l18, l19, l20, l21, l24, l96, l128, l100, l144, l200, l256, l288, l1536, l1728, l1800, bnd, nI_add, pk_mul, pI_sub, pI_m1, pT_le, pF_le, pT_lt, pF_lt, pT_eq, pF_eq, pF_m1, mF_eq, mT_eq, mT_lt, mF_le, lm1, rd_nI, wr_nI, cl_nI, pk_us, un_ne, pk_uLs, uL_ne, zI_uI, zI_uJ, zI_uA, zI_uB, zI_uR, zI_uN, zJ_uI, zJ_uJ, zJ_uA, zJ_uB, zJ_uR, zJ_uN, zA_uI, zA_uJ, zA_uA, zA_uB, zA_uR, zA_uN, zB_uI, zB_uJ, zB_uA, zB_uB, zB_uR, zB_uN, zR_uI, zR_uJ, zR_uA, zR_uB, zR_uR, zR_uN, zN_uI, zN_uJ, zN_uA, zN_uB, zN_uR, zN_uN, zI_ne, zJ_ne, zA_ne, zB_ne, zR_ne, zN_ne, bi_T, bi_F, nz16, ↓reduceIte, not_true_eq_false, not_false_eq_true, Bool.false_eq_true, reduceCtorEq] at f5
        rw [f5, hυ]
        simp (disch := omega) only [l0, l1, l2, l3, l4, l5, l6, l7, l8, l9, l10, l11, l12, l16, l18, l19, l20, l21, l24, l96, l128, l100, l144, l200, l256, l288, l1536, l1728, l1800, bnd, nI_add, pk_mul, pI_sub, pI_m1, pT_le, pF_le, pT_lt, pF_lt, pT_eq, pF_eq, pF_m1, mF_eq, mT_eq, mT_lt, mF_le, lm1, rd_nI, wr_nI, cl_nI, pk_us, un_ne, pk_uLs, uL_ne, zI_uI, zI_uJ, zI_uA, zI_uB, zI_uR, zI_uN, zJ_uI, zJ_uJ, zJ_uA, zJ_uB, zJ_uR, zJ_uN, zA_uI, zA_uJ, zA_uA, zA_uB, zA_uR, zA_uN, zB_uI, zB_uJ, zB_uA, zB_uB, zB_uR, zB_uN, zR_uI, zR_uJ, zR_uA, zR_uB, zR_uR, zR_uN, zN_uI, zN_uJ, zN_uA, zN_uB, zN_uR, zN_uN, zI_ne, zJ_ne, zA_ne, zB_ne, zR_ne, zN_ne, bi_T, bi_F, nz16, ↓reduceIte, not_true_eq_false, not_false_eq_true, Bool.false_eq_true, reduceCtorEq, x34, x31, hsub]
      have A0 : ∀ q, q ∈ pA → q ∉ [57, 58] → zA υ q = zA τ1 q := by
        intro q hq hn
        have hm : ∀ l : List Nat, (∀ x, x ∈ l → x ∈ [57, 58]) → q ∉ l := fun l hl hx => hn (hl q hx)
        rw [hFu.1 q (hm _ (by decide)), f1.1 q (hm _ (by decide)), b2.a q hq]
        show zA τ3 q = _
        rw [hF3.1 q (by intro x; cases x)]
      have B0 : ∀ q, q ∈ pB → q ≠ 83 + nh → zB υ q = zB τ1 q := by
        intro q hq hn
        rw [hFu.2.1 q (by intro x; cases x), f1.2.1 q (by intro x; cases x), b2.b q hq]
        show zB τ3 q = _
        rw [hF3.2.1 q (fun x => hn (List.mem_singleton.mp x))]
      have A : ∀ q, q ∈ pA → q ∉ [22, 57, 58, 60, 61, 62, 63, 64, 65, 66, 67, 68] → zA υ q = zA σ q := by
        intro q hq hn
        have hm : ∀ l : List Nat, (∀ x, x ∈ l → x ∈ [22, 57, 58, 60, 61, 62, 63, 64, 65, 66, 67, 68]) → q ∉ l := fun l hl hx => hn (hl q hx)
        rw [A0 q hq (hm _ (by decide)), sf1.a q hq (hm _ (by decide))]
      have h4v : nh = 0 ∨ nh = 1 ∨ nh = 2 ∨ nh = 3 := by omega
      have B : ∀ q, q ∈ pB → q ∉ [83, 84, 85, 86] → zB υ q = zB σ q := by
        intro q hq hn
        have hne : q ≠ 83 + nh := by
          intro e
          apply hn
          rw [e]
          rcases h4v with e | e | e | e <;> rw [e] <;> decide
        rw [B0 q hq hne, sf1.b q hq]
      have I : ∀ k, k ∈ pI → k ∉ [2, 11, 31, 34] → zI υ k = zI σ k := by
        intro k hk hn
        have hm : ∀ l : List Nat, (∀ x, x ∈ l → x ∈ [2, 11, 31, 34]) → k ∉ l := fun l hl hx => hn (hl k hx)
        have h30 : k ≠ 30 := fun e => by rw [e] at hk; revert hk; decide
        rw [hFu.2.2.1 k (hm _ (by decide)), f1.2.2.1 k (by intro x; cases x), b2.i k hk, zI_ne h30, hF3.2.2.1 k (hm _ (by decide)), sf1.i k hk]
      have N : zN υ = zN σ := by
        funext j
        rw [hFu.2.2.2.1 j (by intro x; cases x), f1.2.2.2.1 j (by intro x; cases x), b2.2.2.2.1]
        show zN τ3 j = _
        rw [hF3.2.2.2.1 j (by intro x; cases x), sf1.2.2.2.1]
      have R : rOk σ → rOk υ := by
        intro r0
        have r1 := sf1.2.2.2.2.1 r0
        have r3 : rOk τ3 := by unfold rOk; rw [hF3.2.2.2.2]; exact r1
        have r4 : rOk υ1 := b2.2.2.2.2 r3
        unfold rOk
        rw [hFu.2.2.2.2, f1.2.2.2.2]
        exact r4
      obtain ⟨p60, p61, p62, p63, p64, p65, p66, p67, p68, p22⟩ := sf1.2.2.2.2.2
      have E : ∀ q m, q ∈ [60, 61, 62, 63, 64, 65, 66, 67, 68] → eqOn σ τ1 q m → eqOn σ υ q m := by
        intro q m hq he j hj
        have hd : ∀ q, q ∈ [60, 61, 62, 63, 64, 65, 66, 67, 68] → q ∈ pA ∧ q ∉ [57, 58] := by decide
        rw [A0 q (hd q hq).1 (hd q hq).2]
        exact he j hj
      have e58 : zA υ 58 = upd (zA σ 58) nh (nI bs.length) := by
        rw [hυ, zA_uI, zA_uI, zA_uA, f1.1 58 (by decide), b2.a 58 (by decide)]
        show upd (zA τ3 58) _ _ = _
        rw [hF3.1 58 (by decide), sf1.a 58 (by decide) (by decide)]
      have e57 : ∀ j, j / 200 ≠ nh → zA υ 57 j = zA σ 57 j := by
        intro j hj
        rw [hFu.1 57 (by decide), f3 j hj, b2.a 57 (by decide)]
        show zA τ3 57 j = _
        rw [hF3.1 57 (by decide), sf1.a 57 (by decide) (by decide)]
      refine ⟨nI nh, τ3, υ, hcl, hmo, hn, ⟨A, B, I, N, R, E 60 8 (by decide) p60, E 61 128 (by decide) p61, E 62 128 (by decide) p62, E 63 256 (by decide) p63, E 64 256 (by decide) p64, E 65 1536 (by decide) p65, E 66 1536 (by decide) p66, E 67 4 (by decide) p67, E 68 80 (by decide) p68, fun r0 k hk => ?_⟩, ?_, ?_, ?_⟩
      · rw [A0 22 (by decide) (by decide)]
        exact p22 r0 k hk
      · refine ⟨Nat.zero_le _, fun b h => (by cases h), ?_, ?_, fun j hj => absurd hj (Nat.not_lt_zero _), fun j hj => absurd hj (Nat.not_lt_zero _)⟩
        · rw [hFu.2.2.1 2 (by decide), f1.2.2.1 2 (by intro x; cases x), b2.i 2 (by decide), zI_ne (by decide), hτ3, zI_uI]
          rfl
        · rw [hυ, zI_ne (by decide), zI_uI]
          rfl
      · refine ⟨by omega, ?_, by rw [hυ, zI_uI], fun r hr => ?_⟩
        · rw [hFu.2.2.1 11 (by decide), f1.2.2.1 11 (by intro x; cases x), b2.i 11 (by decide), zI_ne (by decide), hτ3, zI_ne (by decide), a3]
        · rw [A 24 (by decide) (by decide), A 69 (by decide) (by decide)]
          obtain ⟨k1, k2⟩ := hH.2.2.2 r hr
          refine ⟨k1, ?_⟩
          rcases k2 with k2 | ⟨k, k2, k3⟩
          · exact .inl k2
          · exact .inr ⟨k, by omega, k3⟩
      · intro h hh
        by_cases e : h = nh
        · have hg : (fun h => if h = nh then bs else hb h) h = bs := if_pos e
          rw [hg, e]
          refine ⟨hT.1, hT.2.1, hlen, ?_, fun k hk => ?_, by rw [e58, pk_us], fun j hj => ?_⟩
          · rw [← hfx, pHab_s (evS_s 0 0 0 0 0 n v f l w) bs]
          · have hpb : 83 + nh ∈ pB := by rcases h4v with e | e | e | e <;> rw [e] <;> decide
            rw [hFu.2.1 _ (by intro x; cases x), f1.2.1 _ (by intro x; cases x), b2.b _ hpb, zB_uI, hτ3, zB_uI, a2 k (by omega)]
            exact (hRW k hk).1
          · rw [hFu.1 57 (by decide)]
            exact f2 j hj
        · have hg : (fun h => if h = nh then bs else hb h) h = hb h := if_neg e
          have hlt : h < nh := by omega
          rw [hg]
          obtain ⟨w1, w2, w3, w4, w5, w6, w7⟩ := hX h hlt
          have h4h : h = 0 ∨ h = 1 ∨ h = 2 ∨ h = 3 := by omega
          have hpb : 83 + h ∈ pB := by rcases h4h with e | e | e | e <;> rw [e] <;> decide
          refine ⟨w1, w2, w3, w4, fun k hk => ?_, by rw [e58, un_ne e]; exact w6, fun j hj => ?_⟩
          · rw [B0 _ hpb (by omega), sf1.b _ hpb]
            exact w5 k hk
          · rw [e57 _ (by omega)]
            exact w7 j hj
    · left
      obtain ⟨υ, b1, b2⟩ := m_fault2 (σ := uI τ1 30 (nI 0)) (T1.2.2.2.1) T1.2.2.2.2.2 T1.1 T1.2.1 hlen h1 h2 h3 h4 h5 heb
      refine ⟨τ1, υ, ?_, sf1, ?_, SF.of ((se30 τ1 _).tr b2)⟩
      · unfold fX11_text
        simp (disch := omega) only [l0, l1, l2, l3, l4, l5, l6, l7, l8, l9, l10, l11, l12, l16, l18, l19, l20, l21, l24, l96, l128, l100, l144, l200, l256, l288, l1536, l1728, l1800, bnd, nI_add, pk_mul, pI_sub, pI_m1, pT_le, pF_le, pT_lt, pF_lt, pT_eq, pF_eq, pF_m1, mF_eq, mT_eq, mT_lt, mF_le, lm1, rd_nI, wr_nI, cl_nI, pk_us, un_ne, pk_uLs, uL_ne, zI_uI, zI_uJ, zI_uA, zI_uB, zI_uR, zI_uN, zJ_uI, zJ_uJ, zJ_uA, zJ_uB, zJ_uR, zJ_uN, zA_uI, zA_uJ, zA_uA, zA_uB, zA_uR, zA_uN, zB_uI, zB_uJ, zB_uA, zB_uB, zB_uR, zB_uN, zR_uI, zR_uJ, zR_uA, zR_uB, zR_uR, zR_uN, zN_uI, zN_uJ, zN_uA, zN_uB, zN_uR, zN_uN, zI_ne, zJ_ne, zA_ne, zB_ne, zR_ne, zN_ne, bi_T, bi_F, nz16, ↓reduceIte, not_true_eq_false, not_false_eq_true, Bool.false_eq_true, reduceCtorEq, c1, mI_eq, if_neg hfx]
      · unfold fX12_text fX12_text_J55
        simp (disch := omega) only [l0, l1, l2, l3, l4, l5, l6, l7, l8, l9, l10, l11, l12, l16, l18, l19, l20, l21, l24, l96, l128, l100, l144, l200, l256, l288, l1536, l1728, l1800, bnd, nI_add, pk_mul, pI_sub, pI_m1, pT_le, pF_le, pT_lt, pF_lt, pT_eq, pF_eq, pF_m1, mF_eq, mT_eq, mT_lt, mF_le, lm1, rd_nI, wr_nI, cl_nI, pk_us, un_ne, pk_uLs, uL_ne, zI_uI, zI_uJ, zI_uA, zI_uB, zI_uR, zI_uN, zJ_uI, zJ_uJ, zJ_uA, zJ_uB, zJ_uR, zJ_uN, zA_uI, zA_uJ, zA_uA, zA_uB, zA_uR, zA_uN, zB_uI, zB_uJ, zB_uA, zB_uB, zB_uR, zB_uN, zR_uI, zR_uJ, zR_uA, zR_uB, zR_uR, zR_uN, zN_uI, zN_uJ, zN_uA, zN_uB, zN_uR, zN_uN, zI_ne, zJ_ne, zA_ne, zB_ne, zR_ne, zN_ne, bi_T, bi_F, nz16, ↓reduceIte, not_true_eq_false, not_false_eq_true, Bool.false_eq_true, reduceCtorEq, hin, h34, b1, mI_eq, if_neg hfx]
