/-! text of a roll, both sides: the end -/
theorem m_fault0 {σ : St} {bs : List Nat} (h31 : zI σ 31 = nI bs.length) (h55 : hB (zA σ 55) bs) (hl : bs.length ≤ 200) (hb : ∀ b, b ∈ bs → 1 ≤ b ∧ b < 256) : ∃ υ, fX12_fault σ (nI 0) = some (fx (pRoll bs).2, υ) ∧ SF σ υ := by
  obtain ⟨υ, h5, h6, h7, h8, h9⟩ := m_readRoll (σ := uI σ 30 (nI 0)) (roll := 8) h31 h55 hl hb (by decide)
  refine ⟨υ, ?_, (SF.of (se30 σ (nI 0))).tr (sf_onR h5 h6 (by decide) (by decide))⟩
  have hin := m_isIn (a := 0) (b := 0) (c := 2) (by decide) (by decide) (by decide)
  rw [decide_eq_true (show 0 ≤ 0 ∧ 0 ≤ 2 by decide)] at hin
  unfold fX12_fault
  simp (disch := omega) only [l0, l1, l2, l3, l4, l5, l6, l7, l8, l9, l10, l11, l12, l16, l18, l19, l20, l21, l24, l96, l128, l100, l144, l200, l256, l288, l1536, l1728, l1800, bnd, nI_add, pk_mul, pI_sub, pI_m1, pT_le, pF_le, pT_lt, pF_lt, pT_eq, pF_eq, pF_m1, mF_eq, mT_eq, mT_lt, mF_le, lm1, rd_nI, wr_nI, cl_nI, pk_us, un_ne, pk_uLs, uL_ne, zI_uI, zI_uJ, zI_uA, zI_uB, zI_uR, zI_uN, zJ_uI, zJ_uJ, zJ_uA, zJ_uB, zJ_uR, zJ_uN, zA_uI, zA_uJ, zA_uA, zA_uB, zA_uR, zA_uN, zB_uI, zB_uJ, zB_uA, zB_uB, zB_uR, zB_uN, zR_uI, zR_uJ, zR_uA, zR_uB, zR_uR, zR_uN, zN_uI, zN_uJ, zN_uA, zN_uB, zN_uR, zN_uN, zI_ne, zJ_ne, zA_ne, zB_ne, zR_ne, zN_ne, bi_T, bi_F, nz16, ↓reduceIte, not_true_eq_false, not_false_eq_true, Bool.false_eq_true, reduceCtorEq, hin, h7, h8]
theorem pItems_len : ∀ (n : Nat) (x : Sx), (pItems n x).1.length ≤ n
  | 0, _ => Nat.le_refl _
  | n + 1, x => by
    show (if 0 < n ∧ tb 59 (pIw x).2 = true then _ else _ : List (List Nat × List Nat) × Sx).1.length ≤ n + 1
    split
    · show (pItems n (tlx (pIw x).2)).1.length + 1 ≤ n + 1
      have := pItems_len n (tlx (pIw x).2)
      omega
    · show 1 ≤ n + 1
      omega
theorem fx_m1 {x : Sx} : fx x = mI ∨ (fx x = -1) = False := by
  by_cases h : fx x = mI
  · exact .inl h
  · exact .inr (eq_false h)
/-- the store behind a roll more: what is in it of both sides -/
theorem t_text_r {σ : St} {g : Gh} {lim nh c : Nat} {bs : List Nat} (h : RI σ g lim) (hT : TP σ bs) (hH : HI σ g nh) (hC : CH σ g c) (hc1 : c + 1 < 1000000) : (∃ τ υ, fX11_text σ (nI 0) = some (mI, τ) ∧ SE σ τ ∧ fX12_text τ (nI 0) = some (mI, υ) ∧ SF τ υ) ∨ ∃ r τ υ gi, fX11_text σ (nI 0) = some (r, τ) ∧ fX12_text τ (nI 0) = some (r, υ) ∧ SG σ υ ∧ gN g < 8 ∧ RI υ (gadd g gi) lim ∧ TP υ [] ∧ HI υ (gadd g gi) nh ∧ CH υ (gadd g gi) (c + 1) := by
  have hg := h.1
  have hg8 := hg.1
  obtain ⟨τ1, h1, h2, h3, h4⟩ := c_faultOf_r hT.2.2.1 hT.2.2.2.2.1 hT.1 hT.2.1
  have hse : SE σ τ1 := se_fr h1 (by decide) (by decide) (by decide) (by decide)
  have R1 := h.se hse
  have T1 := hT.se hse
  have hin := m_isIn (a := 0) (b := 0) (c := 2) (by decide) (by decide) (by decide)
  rw [decide_eq_true (show 0 ≤ 0 ∧ 0 ≤ 2 by decide)] at hin
  have h18 := R1.2.1.1
  have h32 := R1.2.2.1.1
  by_cases hn8 : gN g = 8
  · left
    refine ⟨τ1, uI τ1 30 (nI 0), ?_, hse, ?_, SF.of (se30 τ1 _)⟩
    · unfold fX11_text fX11_stored fX7_add
      rw [hn8] at h18
      by_cases e : fx (pRoll bs).2 = mI
      · rw [e] at h2
        simp (disch := omega) only [l0, l1, l2, l3, l4, l5, l6, l7, l8, l9, l10, l11, l12, l16, l18, l19, l20, l21, l24, l96, l128, l100, l144, l200, l256, l288, l1536, l1728, l1800, bnd, nI_add, pk_mul, pI_sub, pI_m1, pT_le, pF_le, pT_lt, pF_lt, pT_eq, pF_eq, pF_m1, mF_eq, mT_eq, mT_lt, mF_le, lm1, rd_nI, wr_nI, cl_nI, pk_us, un_ne, pk_uLs, uL_ne, zI_uI, zI_uJ, zI_uA, zI_uB, zI_uR, zI_uN, zJ_uI, zJ_uJ, zJ_uA, zJ_uB, zJ_uR, zJ_uN, zA_uI, zA_uJ, zA_uA, zA_uB, zA_uR, zA_uN, zB_uI, zB_uJ, zB_uA, zB_uB, zB_uR, zB_uN, zR_uI, zR_uJ, zR_uA, zR_uB, zR_uR, zR_uN, zN_uI, zN_uJ, zN_uA, zN_uB, zN_uR, zN_uN, zI_ne, zJ_ne, zA_ne, zB_ne, zR_ne, zN_ne, bi_T, bi_F, nz16, ↓reduceIte, not_true_eq_false, not_false_eq_true, Bool.false_eq_true, reduceCtorEq, h2, mI_eq, h18]
      · simp (disch := omega) only [l0, l1, l2, l3, l4, l5, l6, l7, l8, l9, l10, l11, l12, l16, l18, l19, l20, l21, l24, l96, l128, l100, l144, l200, l256, l288, l1536, l1728, l1800, bnd, nI_add, pk_mul, pI_sub, pI_m1, pT_le, pF_le, pT_lt, pF_lt, pT_eq, pF_eq, pF_m1, mF_eq, mT_eq, mT_lt, mF_le, lm1, rd_nI, wr_nI, cl_nI, pk_us, un_ne, pk_uLs, uL_ne, zI_uI, zI_uJ, zI_uA, zI_uB, zI_uR, zI_uN, zJ_uI, zJ_uJ, zJ_uA, zJ_uB, zJ_uR, zJ_uN, zA_uI, zA_uJ, zA_uA, zA_uB, zA_uR, zA_uN, zB_uI, zB_uJ, zB_uA, zB_uB, zB_uR, zB_uN, zR_uI, zR_uJ, zR_uA, zR_uB, zR_uR, zR_uN, zN_uI, zN_uJ, zN_uA, zN_uB, zN_uR, zN_uN, zI_ne, zJ_ne, zA_ne, zB_ne, zR_ne, zN_ne, bi_T, bi_F, nz16, ↓reduceIte, not_true_eq_false, not_false_eq_true, Bool.false_eq_true, reduceCtorEq, h2, mI_eq, if_neg e]
    · rw [hn8] at h32
      unfold fX12_text
      simp (disch := omega) only [l0, l1, l2, l3, l4, l5, l6, l7, l8, l9, l10, l11, l12, l16, l18, l19, l20, l21, l24, l96, l128, l100, l144, l200, l256, l288, l1536, l1728, l1800, bnd, nI_add, pk_mul, pI_sub, pI_m1, pT_le, pF_le, pT_lt, pF_lt, pT_eq, pF_eq, pF_m1, mF_eq, mT_eq, mT_lt, mF_le, lm1, rd_nI, wr_nI, cl_nI, pk_us, un_ne, pk_uLs, uL_ne, zI_uI, zI_uJ, zI_uA, zI_uB, zI_uR, zI_uN, zJ_uI, zJ_uJ, zJ_uA, zJ_uB, zJ_uR, zJ_uN, zA_uI, zA_uJ, zA_uA, zA_uB, zA_uR, zA_uN, zB_uI, zB_uJ, zB_uA, zB_uB, zB_uR, zB_uN, zR_uI, zR_uJ, zR_uA, zR_uB, zR_uR, zR_uN, zN_uI, zN_uJ, zN_uA, zN_uB, zN_uR, zN_uN, zI_ne, zJ_ne, zA_ne, zB_ne, zR_ne, zN_ne, bi_T, bi_F, nz16, ↓reduceIte, not_true_eq_false, not_false_eq_true, Bool.false_eq_true, reduceCtorEq, hin, h32]
  · have hn : gN g < 8 := by omega
    by_cases hfx : fx (pRoll bs).2 = mI
    · -- a roll more
      right
      rw [hfx] at h2
      have hlen := pItems_len 12 (.inr (tkF Jr 8 gr bs))
      have hlen : (pRoll bs).1.length ≤ 12 := hlen
      have hsp := sp_len hg
      have hsp2 : (sp g).length + (pRoll bs).1.length ≤ 96 := by
        have e1 := sp_sum hg
        have e2 : ∀ n, n ≤ gN g → fb_sm (gS g) n ≤ 12 * n := by
          intro n
          induction n with
          | zero => intro _; exact Nat.le_refl _
          | succ n ih =>
            intro hn2
            have := ih (by omega)
            have := (hg.2.1 n (by omega)).2
            show fb_sm (gS g) n + gS g n ≤ _
            omega
        have := e2 (gN g) (Nat.le_refl _)
        omega
      have hC1 := hC.se hse
      obtain ⟨e19, hcm, kk, hkk, e24, _⟩ := hC1
      obtain ⟨τ2, a1, a2, a3, a4, a5, a6, a7, a8, a9, a10, a11, a12, a13⟩ := c_add (m := (pRoll bs).1.length) hn hlen hsp2 h18 R1.2.1.2.2.2.1 h4 e19
      obtain ⟨τ3, hτ3⟩ : ∃ τ3, τ3 = uI τ2 2 (nI 0) := ⟨_, rfl⟩
      have hF3 : FR [23, 24, 25, 27, 29] [26, 28] [2, 17, 18, 19] [] τ1 τ3 := by
        rw [hτ3]
        exact FR.uI (a1.mono (by decide) (by decide) (by decide) (by decide)) (by decide)
      have hcut : fX9_cut τ2 (nI 0) = some (true, τ3) := by
        have z2 : zI τ2 2 = nI bs.length := (a1.2.2.1 2 (by decide)).trans T1.2.2.1
        have h200 := T1.1
        rw [hτ3]
        unfold fX9_cut
        simp (disch := omega) only [l0, l1, l2, l3, l4, l5, l6, l7, l8, l9, l10, l11, l12, l16, l18, l19, l20, l21, l24, l96, l128, l100, l144, l200, l256, l288, l1536, l1728, l1800, bnd, nI_add, pk_mul, pI_sub, pI_m1, pT_le, pF_le, pT_lt, pF_lt, pT_eq, pF_eq, pF_m1, mF_eq, mT_eq, mT_lt, mF_le, lm1, rd_nI, wr_nI, cl_nI, pk_us, un_ne, pk_uLs, uL_ne, zI_uI, zI_uJ, zI_uA, zI_uB, zI_uR, zI_uN, zJ_uI, zJ_uJ, zJ_uA, zJ_uB, zJ_uR, zJ_uN, zA_uI, zA_uJ, zA_uA, zA_uB, zA_uR, zA_uN, zB_uI, zB_uJ, zB_uA, zB_uB, zB_uR, zB_uN, zR_uI, zR_uJ, zR_uA, zR_uB, zR_uR, zR_uN, zN_uI, zN_uJ, zN_uA, zN_uB, zN_uR, zN_uN, zI_ne, zJ_ne, zA_ne, zB_ne, zR_ne, zN_ne, bi_T, bi_F, nz16, ↓reduceIte, not_true_eq_false, not_false_eq_true, Bool.false_eq_true, reduceCtorEq, z2]
      have hcl : fX11_text σ (nI 0) = some (nI (gN g), τ3) := by
        unfold fX11_text fX11_stored
        simp (disch := omega) only [l0, l1, l2, l3, l4, l5, l6, l7, l8, l9, l10, l11, l12, l16, l18, l19, l20, l21, l24, l96, l128, l100, l144, l200, l256, l288, l1536, l1728, l1800, bnd, nI_add, pk_mul, pI_sub, pI_m1, pT_le, pF_le, pT_lt, pF_lt, pT_eq, pF_eq, pF_m1, mF_eq, mT_eq, mT_lt, mF_le, lm1, rd_nI, wr_nI, cl_nI, pk_us, un_ne, pk_uLs, uL_ne, zI_uI, zI_uJ, zI_uA, zI_uB, zI_uR, zI_uN, zJ_uI, zJ_uJ, zJ_uA, zJ_uB, zJ_uR, zJ_uN, zA_uI, zA_uJ, zA_uA, zA_uB, zA_uR, zA_uN, zB_uI, zB_uJ, zB_uA, zB_uB, zB_uR, zB_uN, zR_uI, zR_uJ, zR_uA, zR_uB, zR_uR, zR_uN, zN_uI, zN_uJ, zN_uA, zN_uB, zN_uR, zN_uN, zI_ne, zJ_ne, zA_ne, zB_ne, zR_ne, zN_ne, bi_T, bi_F, nz16, ↓reduceIte, not_true_eq_false, not_false_eq_true, Bool.false_eq_true, reduceCtorEq, h2, mI_eq, a13, hcut]
      -- the model
      have z31 : zI τ3 31 = nI bs.length := (hF3.2.2.1 31 (by decide)).trans T1.2.2.2.1
      have z55 : hB (zA τ3 55) bs := by rw [hF3.1 55 (by decide)]; exact T1.2.2.2.2.2
      obtain ⟨υ1, b1, b2⟩ := m_fault0 (σ := uI τ3 30 (nI 0)) z31 z55 T1.1 T1.2.1
      rw [hfx] at b1
      have y31 : zI υ1 31 = nI bs.length := (b2.i 31 (by decide)).trans z31
      have y55 : hB (zA υ1 55) bs := by rw [b2.a 55 (by decide) (by decide)]; exact z55
      have z32 : zI τ3 32 = nI (gN g) := (hF3.2.2.1 32 (by decide)).trans h32
      have y32 : zI υ1 32 = nI (gN g) := (b2.i 32 (by decide)).trans z32
      obtain ⟨υ2, d1, d2, d3, d4, d5⟩ := m_readRoll (roll := gN g) y31 y55 T1.1 T1.2.1 (by omega)
      obtain ⟨gi, g1, g2, g3, g4, g5, g6⟩ := d5 hfx
      have x31 : zI υ2 31 = nI bs.length := (d1.2.2.1 31 (by decide)).trans y31
      have x32 : zI υ2 32 = nI (gN g) := (d1.2.2.1 32 (by decide)).trans y32
      have x55 : hB (zA υ2 55) bs := by rw [d1.1 55 (by decide)]; exact y55
      obtain ⟨υ3, f1, f2, f3, f4⟩ := m_copy56 (fun s16 => wr 8 (zI s16 32) ((some (uA s16 69 (upd (zA s16 69) (Int32.toNatClampNeg (zI s16 32)) (-1 : Int32)))).bind fun s17 => (some (uI s17 31 (0 : Int32))).bind fun s18 => (some (uI s18 32 ((zI s18 32) + (1 : Int32)))).bind fun s19 => some (((zI s19 32) - (1 : Int32)), s19))) (r := gN g) (by omega) x31 x55 x32 T1.1
      have w32 : zI υ3 32 = nI (gN g) := (f1.2.2.1 32 (by decide)).trans x32
      obtain ⟨υ, hυ⟩ : ∃ υ, υ = uI (uI (uA υ3 69 (upd (zA υ3 69) (gN g) mI)) 31 (nI 0)) 32 (nI (gN g + 1)) := ⟨_, rfl⟩
      have hFu : FR [69] [] [31, 32] [] υ3 υ := by rw [hυ]; exact FR.uI (FR.uI (FR.uA (FR.rf _ _ _ _ _) (by decide)) (by decide)) (by decide)
      have hmo : fX12_text τ3 (nI 0) = some (nI (gN g), υ) := by
        have hsub : nI (gN g + 1) - nI 1 = nI (gN g) := by rw [pI_sub (by omega), Nat.add_sub_cancel]
        have f4' := f4
        rw [l0] at f4'
        unfold fX12_text fX12_text_J55
        simp (disch := omega) only [l0, l1, l2, l3, l4, l5, l6, l7, l8, l9, l10, l11, l12, l16, l18, l19, l20, l21, l24, l96, l128, l100, l144, l200, l256, l288, l1536, l1728, l1800, bnd, nI_add, pk_mul, pI_sub, pI_m1, pT_le, pF_le, pT_lt, pF_lt, pT_eq, pF_eq, pF_m1, mF_eq, mT_eq, mT_lt, mF_le, lm1, rd_nI, wr_nI, cl_nI, pk_us, un_ne, pk_uLs, uL_ne, zI_uI, zI_uJ, zI_uA, zI_uB, zI_uR, zI_uN, zJ_uI, zJ_uJ, zJ_uA, zJ_uB, zJ_uR, zJ_uN, zA_uI, zA_uJ, zA_uA, zA_uB, zA_uR, zA_uN, zB_uI, zB_uJ, zB_uA, zB_uB, zB_uR, zB_uN, zR_uI, zR_uJ, zR_uA, zR_uB, zR_uR, zR_uN, zN_uI, zN_uJ, zN_uA, zN_uB, zN_uR, zN_uN, zI_ne, zJ_ne, zA_ne, zB_ne, zR_ne, zN_ne, bi_T, bi_F, nz16, ↓reduceIte, not_true_eq_false, not_false_eq_true, Bool.false_eq_true, reduceCtorEq, hin, z32, b1, mI_eq, y32, d3]
        rw [mI_eq] at f4
        have f5 := f4
        simp (disch := omega) only [l0, l1, l2, l3, l4, l5, l6, l7, l8, l9, l10, l11, l12, l16, l18, l19, l20, l21, l24, l96, l128, l100, l144, l200, l256, l288, l1536, l1728, l1800, bnd, nI_add, pk_mul, pI_sub, pI_m1, pT_le, pF_le, pT_lt, pF_lt, pT_eq, pF_eq, pF_m1, mF_eq, mT_eq, mT_lt, mF_le, lm1, rd_nI, wr_nI, cl_nI, pk_us, un_ne, pk_uLs, uL_ne, zI_uI, zI_uJ, zI_uA, zI_uB, zI_uR, zI_uN, zJ_uI, zJ_uJ, zJ_uA, zJ_uB, zJ_uR, zJ_uN, zA_uI, zA_uJ, zA_uA, zA_uB, zA_uR, zA_uN, zB_uI, zB_uJ, zB_uA, zB_uB, zB_uR, zB_uN, zR_uI, zR_uJ, zR_uA, zR_uB, zR_uR, zR_uN, zN_uI, zN_uJ, zN_uA, zN_uB, zN_uR, zN_uN, zI_ne, zJ_ne, zA_ne, zB_ne, zR_ne, zN_ne, bi_T, bi_F, nz16, ↓reduceIte, not_true_eq_false, not_false_eq_true, Bool.false_eq_true, reduceCtorEq] at f5
        rw [f5, hυ]
        simp (disch := omega) only [l0, l1, l2, l3, l4, l5, l6, l7, l8, l9, l10, l11, l12, l16, l18, l19, l20, l21, l24, l96, l128, l100, l144, l200, l256, l288, l1536, l1728, l1800, bnd, nI_add, pk_mul, pI_sub, pI_m1, pT_le, pF_le, pT_lt, pF_lt, pT_eq, pF_eq, pF_m1, mF_eq, mT_eq, mT_lt, mF_le, lm1, rd_nI, wr_nI, cl_nI, pk_us, un_ne, pk_uLs, uL_ne, zI_uI, zI_uJ, zI_uA, zI_uB, zI_uR, zI_uN, zJ_uI, zJ_uJ, zJ_uA, zJ_uB, zJ_uR, zJ_uN, zA_uI, zA_uJ, zA_uA, zA_uB, zA_uR, zA_uN, zB_uI, zB_uJ, zB_uA, zB_uB, zB_uR, zB_uN, zR_uI, zR_uJ, zR_uA, zR_uB, zR_uR, zR_uN, zN_uI, zN_uJ, zN_uA, zN_uB, zN_uR, zN_uN, zI_ne, zJ_ne, zA_ne, zB_ne, zR_ne, zN_ne, bi_T, bi_F, nz16, ↓reduceIte, not_true_eq_false, not_false_eq_true, Bool.false_eq_true, reduceCtorEq, w32, hsub]
      -- from the first store to the last
      have A : ∀ q, q ∈ pA → q ∉ [22, 23, 24, 25, 27, 29, 56, 60, 61, 62, 63, 64, 65, 66, 67, 68, 69] → zA υ q = zA σ q := by
        intro q hq hn
        have hm : ∀ l : List Nat, (∀ x, x ∈ l → x ∈ [22, 23, 24, 25, 27, 29, 56, 60, 61, 62, 63, 64, 65, 66, 67, 68, 69]) → q ∉ l := fun l hl hx => hn (hl q hx)
        rw [hFu.1 q (hm _ (by decide)), f1.1 q (hm _ (by decide)), d1.1 q (hm _ (by decide))]
        show zA υ1 q = _
        rw [b2.a q hq (hm _ (by decide))]
        show zA τ3 q = _
        rw [hF3.1 q (hm _ (by decide)), hse.a q hq]
      have B : ∀ q, q ∈ pB → q ∉ [26, 28] → zB υ q = zB σ q := by
        intro q hq hn
        rw [hFu.2.1 q (by intro x; cases x), f1.2.1 q (by intro x; cases x), d1.2.1 q (by intro x; cases x)]
        show zB υ1 q = _
        rw [b2.b q hq]
        show zB τ3 q = _
        rw [hF3.2.1 q hn, hse.b q hq]
      have I : ∀ k, k ∈ pI → k ∉ [2, 17, 18, 19, 31, 32] → zI υ k = zI σ k := by
        intro k hk hn
        have hm : ∀ l : List Nat, (∀ x, x ∈ l → x ∈ [2, 17, 18, 19, 31, 32]) → k ∉ l := fun l hl hx => hn (hl k hx)
        have h35 : k ∉ [35, 36, 37, 38] := by
          intro x
          have hd : ∀ k, k ∈ [35, 36, 37, 38] → k ∉ pI := by decide
          exact hd k x hk
        rw [hFu.2.2.1 k (hm _ (by decide)), f1.2.2.1 k (by intro x; cases x), d1.2.2.1 k h35]
        show zI υ1 k = _
        rw [b2.i k hk]
        have h30 : k ≠ 30 := fun e => by rw [e] at hk; revert hk; decide
        rw [zI_ne h30, hF3.2.2.1 k (hm _ (by decide)), hse.i k hk]
      have N : zN υ = zN σ := by
        funext j
        rw [hFu.2.2.2.1 j (by intro x; cases x), f1.2.2.2.1 j (by intro x; cases x), d1.2.2.2.1 j (by intro x; cases x)]
        show zN υ1 j = _
        rw [b2.2.2.2.1]
        show zN τ3 j = _
        rw [hF3.2.2.2.1 j (by intro x; cases x), hse.2.2.2.1]
      have R : rOk σ → rOk υ := by
        intro r0
        have r1 := hse.2.2.2.2 r0
        have r3 : rOk τ3 := by unfold rOk; rw [hF3.2.2.2.2]; exact r1
        have r4 : rOk υ1 := b2.2.2.2.2.1 r3
        have r5 : rOk υ2 := by unfold rOk; rw [d1.2.2.2.2]; exact rOk_uR (by decide) r4
        have r6 : rOk υ3 := by unfold rOk; rw [f1.2.2.2.2]; exact r5
        unfold rOk
        rw [hFu.2.2.2.2]
        exact r6
      -- the class's arrays
      have K : ∀ q, q ∈ [23, 24, 25, 27, 29] → zA υ q = zA τ2 q := by
        intro q hq
        have hm : ∀ l : List Nat, (∀ x, x ∈ l → x ∉ [23, 24, 25, 27, 29]) → q ∉ l := fun l hl hx => hl q hx hq
        have hd : ∀ q, q ∈ [23, 24, 25, 27, 29] → q ∈ pA := by decide
        have hp := hd q hq
        rw [hFu.1 q (hm _ (by decide)), f1.1 q (hm _ (by decide)), d1.1 q (hm _ (by decide))]
        show zA υ1 q = _
        rw [b2.a q hp (hm _ (by decide)), hτ3]
        rfl
      have KB : ∀ q, q ∈ [26, 28] → zB υ q = zB τ2 q := by
        intro q hq
        have hd : ∀ q, q ∈ [26, 28] → q ∈ pB := by decide
        have hp := hd q hq
        rw [hFu.2.1 q (by intro x; cases x), f1.2.1 q (by intro x; cases x), d1.2.1 q (by intro x; cases x)]
        show zB υ1 q = _
        rw [b2.b q hp, hτ3]
        rfl
      have KI' : ∀ k, k ∈ [17, 18, 19] → zI υ k = zI τ2 k := by
        intro k hk
        have hd : ∀ k, k ∈ [17, 18, 19] → k ∈ pI := by decide
        have hp := hd k hk
        have hm : ∀ l : List Nat, (∀ x, x ∈ l → x ∉ [17, 18, 19]) → k ∉ l := fun l hl hx => hl k hx hk
        rw [hFu.2.2.1 k (hm _ (by decide)), f1.2.2.1 k (by intro x; cases x), d1.2.2.1 k (hm _ (by decide))]
        show zI υ1 k = _
        rw [b2.i k hp]
        have h30 : k ≠ 30 := fun e => by rw [e] at hp; revert hp; decide
        have h2' : k ≠ 2 := fun e => by rw [e] at hk; revert hk; decide
        rw [zI_ne h30, hτ3, zI_ne h2']
      have hgl : (pRoll bs).1.length = gi.length := by rw [g1, List.length_map]
      have hok := gadd_ok hg hn g4 g5 g2
      have hget : ∀ i, i < gi.length → (pRoll bs).1.getD i ([], []) = encI (gi.getD i ([], [])) := by
        intro i hi
        rw [g1, List.getD_eq_getElem?_getD, List.getElem?_map, List.getElem?_eq_getElem hi, List.getD_eq_getElem?_getD, List.getElem?_eq_getElem hi]
        rfl
      have hmapg : ∀ (l : List Wd) (j : Nat), j < l.length → (l.map enc).getD j 0 = enc (l.getD j []) := by
        intro l j hj
        rw [List.getD_eq_getElem?_getD, List.getElem?_map, List.getElem?_eq_getElem hj, List.getD_eq_getElem?_getD, List.getElem?_eq_getElem hj]
        rfl
      have JC' : JC υ (gadd g gi) := by
        have hj := R1.2.1
        refine ⟨?_, fun r hr => ?_, fun s hs => ?_, ?_, fun i hi => ?_⟩
        · rw [KI' 18 (by decide), a11]
          rfl
        · rw [K 23 (by decide), a8]
          show _ = nI (if r = gN g then gi.length else gS g r)
          by_cases e : r = gN g
          · rw [e, pk_us, if_pos rfl, hgl]
          · have hr : r < gN g + 1 := hr
            rw [un_ne e, if_neg e]
            exact hj.2.1 r (by omega)
        · rw [K 25 (by decide), K 27 (by decide), KB 26 (by decide), KB 28 (by decide)]
          by_cases e : s / 16 = gN g
          · obtain ⟨e1, e2, e3⟩ := gadd_new (gi := gi) e
            have hi := e1.mp hs
            rw [e2, e3]
            obtain ⟨b5, b6, b7, b8⟩ := a5 (s % 16) (by omega)
            rw [show 16 * gN g + s % 16 = s by omega] at b5 b6 b7 b8
            have hit := h3 (s % 16) (by omega)
            rw [hget _ hi] at hit
            have hokk := g2 _ (getD_mem (d := ([], [])) hi)
            generalize gi.getD (s % 16) ([], []) = it at *
            obtain ⟨i1, i2, i3, i4⟩ := hit
            have el1 : (encI it).1.length = it.1.length := by show (it.1.map enc).length = _; rw [List.length_map]
            have el2 : (encI it).2.length = it.2.length := by show (it.2.map enc).length = _; rw [List.length_map]
            rw [el1] at i1 i3
            rw [el2] at i2 i4
            refine ⟨b5.trans i1, b6.trans i2, fun k hk => ?_, fun k hk => ?_⟩
            · have := hokk.1
              rw [b7 k (by omega), i3 k hk, show (encI it).1 = it.1.map enc from rfl, hmapg _ _ hk]
            · have := hokk.2.2.1
              rw [b8 k (by omega), i4 k hk, show (encI it).2 = it.2.map enc from rfl, hmapg _ _ hk]
          · obtain ⟨e1, e2, e3⟩ := gadd_old (gi := gi) e
            rw [e1] at hs
            rw [e2, e3]
            obtain ⟨i1, i2, i3, i4⟩ := hj.2.2.1 s hs
            have hokk := vd_ok hg hs
            obtain ⟨c1, c2⟩ := a2 s e
            refine ⟨c1.trans i1, c2.trans i2, fun k hk => ?_, fun k hk => ?_⟩
            · have := hokk.1
              rw [a3 _ (by omega)]
              exact i3 k hk
            · have := hokk.2.2.1
              rw [a4 _ (by omega)]
              exact i4 k hk
        · rw [KI' 17 (by decide), a10, sp_gadd hg hn g5, List.length_append, List.length_map, List.length_range, hgl]
        · rw [sp_gadd hg hn g5, List.length_append, List.length_map, List.length_range] at hi
          rw [K 29 (by decide), sp_gadd hg hn g5]
          by_cases e : i < (sp g).length
          · rw [a6 i e, getD_app e]
            exact hj.2.2.2.2 i e
          · have h7 := a7 (i - (sp g).length) (by omega)
            rw [show (sp g).length + (i - (sp g).length) = i by omega] at h7
            rw [h7, List.getD_eq_getElem?_getD, List.getElem?_append_right (by omega), List.getElem?_map, List.getElem?_range (by omega)]
            rfl
      -- the model's arrays, of old rolls
      have old : ∀ q j, q ∈ [60, 61, 62, 63, 64, 65, 66] → zA υ2 q j = zA υ1 q j → eqOn τ3 υ1 q (j + 1) → zA υ q j = zA σ q j := by
        intro q j hq e1 e2
        have hd : ∀ q, q ∈ [60, 61, 62, 63, 64, 65, 66] → q ∈ pA := by decide
        have hp := hd q hq
        have hm : ∀ l : List Nat, (∀ x, x ∈ l → x ∉ [60, 61, 62, 63, 64, 65, 66]) → q ∉ l := fun l hl hx => hl q hx hq
        rw [hFu.1 q (hm _ (by decide)), f1.1 q (hm _ (by decide)), e1, e2 j (by omega), hF3.1 q (hm _ (by decide)), hse.a q hp]
      have new : ∀ q, q ∈ [60, 61, 62, 63, 64, 65, 66] → zA υ q = zA υ2 q := by
        intro q hq
        have hm : ∀ l : List Nat, (∀ x, x ∈ l → x ∉ [60, 61, 62, 63, 64, 65, 66]) → q ∉ l := fun l hl hx => hl q hx hq
        rw [hFu.1 q (hm _ (by decide)), f1.1 q (hm _ (by decide))]
      obtain ⟨o60, o61, o62, o63, o64, o65, o66⟩ := d2
      have b2' := b2
      obtain ⟨_, _, _, _, _, p60, p61, p62, p63, p64, p65, p66, _, _, _⟩ := b2
      have e56 : zA υ 56 = zA υ3 56 := hFu.1 56 (by decide)
      have e56b : ∀ j, j / 200 ≠ gN g → zA υ 56 j = zA σ 56 j := by
        intro j hj
        rw [e56, f3 j hj, d1.1 56 (by decide)]
        show zA υ1 56 j = _
        rw [show zA υ1 56 = zA τ3 56 from by
          exact b2'.a 56 (by decide) (by decide), hF3.1 56 (by decide), hse.a 56 (by decide)]
      have JM' : JM υ (gadd g gi) := by
        have hj := h.2.2.1
        refine ⟨?_, fun r hr => ?_, fun s hs => ?_⟩
        · rw [hυ, zI_uI]
          rfl
        · show zA υ 60 r = nI (if r = gN g then gi.length else gS g r)
          by_cases e : r = gN g
          · rw [if_pos e, new 60 (by decide), e]
            exact g3
          · have hr : r < gN g + 1 := hr
            rw [if_neg e, old 60 r (by decide) (o60 r e) (fun i hi => p60 i (by omega))]
            exact hj.2.1 r (by omega)
        · by_cases e : s / 16 = gN g
          · obtain ⟨e1, e2, e3⟩ := gadd_new (gi := gi) e
            have hi := e1.mp hs
            obtain ⟨c1, c2⟩ := g6 (s % 16) hi
            have hokk := g2 _ (getD_mem (d := ([], [])) hi)
            rw [show 16 * gN g + s % 16 = s by omega] at c1 c2
            rw [e2, e3]
            generalize gi.getD (s % 16) ([], []) = it at *
            have lett : ∀ (w : Wd) (p : Nat), okW w → p + w.length ≤ bs.length → (∀ j, j < w.length → bs.getD (p + j) 0 = 96 + w.getD j 0) → ∀ j, j < w.length → zA υ 56 (200 * (s / 16) + (p + j)) = nI (96 + w.getD j 0) := by
              intro w p hw hp hl j hj
              rw [e56, e, f2 (p + j) (by omega), hl j hj]
              have := hw.2.2 _ (getD_mem (d := 0) hj)
              exact sbv_96 _ this.1 this.2
            refine ⟨?_, ?_, fun k hk => ?_, fun k hk => ?_⟩
            · rw [new 61 (by decide)]; exact c1.1
            · rw [new 62 (by decide)]; exact c2.1
            · obtain ⟨p, p1, p2, p3, p4⟩ := c1.2 k hk
              have := hT.1
              refine ⟨p, by omega, by rw [new 63 (by decide)]; exact p2, by rw [new 64 (by decide)]; exact p3, lett _ p (hokk.2.2.2.1 _ (getD_mem hk)) p1 p4⟩
            · obtain ⟨p, p1, p2, p3, p4⟩ := c2.2 k hk
              have := hT.1
              refine ⟨p, by omega, by rw [new 65 (by decide)]; exact p2, by rw [new 66 (by decide)]; exact p3, lett _ p (hokk.2.2.2.2 _ (getD_mem hk)) p1 p4⟩
          · obtain ⟨e1, e2, e3⟩ := gadd_old (gi := gi) e
            rw [e1] at hs
            rw [e2, e3]
            obtain ⟨i1, i2, i3, i4⟩ := hj.2.2 s hs
            have hokk := vd_ok hg hs
            have hs8 := vd_lt hg hs
            refine ⟨?_, ?_, fun k hk => ?_, fun k hk => ?_⟩
            · rw [old 61 s (by decide) (o61 s e) (fun i hi => p61 i (by omega))]; exact i1
            · rw [old 62 s (by decide) (o62 s e) (fun i hi => p62 i (by omega))]; exact i2
            · obtain ⟨p, p1, p2, p3, p4⟩ := i3 k hk
              have := hokk.1
              refine ⟨p, p1, ?_, ?_, fun j hj => ?_⟩
              · rw [old 63 _ (by decide) (o63 _ (by omega)) (fun i hi => p63 i (by omega))]; exact p2
              · rw [old 64 _ (by decide) (o64 _ (by omega)) (fun i hi => p64 i (by omega))]; exact p3
              · rw [e56b _ (by omega)]; exact p4 j hj
            · obtain ⟨p, p1, p2, p3, p4⟩ := i4 k hk
              have := hokk.2.2.1
              refine ⟨p, p1, ?_, ?_, fun j hj => ?_⟩
              · rw [old 65 _ (by decide) (o65 _ (by omega)) (fun i hi => p65 i (by omega))]; exact p2
              · rw [old 66 _ (by decide) (o66 _ (by omega)) (fun i hi => p66 i (by omega))]; exact p3
              · rw [e56b _ (by omega)]; exact p4 j hj
      refine ⟨nI (gN g), τ3, υ, gi, hcl, hmo, ⟨fun q hq hn2 => ?_, B, I, N, R, fun j hj => ?_, fun j hj => ?_, fun r0 => ?_⟩, hn, ⟨hok, JC', JM', h.2.2.2.1, ?_, ?_⟩, ?_, ?_, ?_⟩
      · exact A q hq hn2
      · rw [hFu.1 67 (by decide), f1.1 67 (by decide), d1.1 67 (by decide)]
        show zA υ1 67 j = _
        rw [b2'.2.2.2.2.2.2.2.2.2.2.2.2.1 j hj]
        show zA τ3 67 j = _
        rw [hF3.1 67 (by decide), hse.a 67 (by decide)]
      · rw [hFu.1 68 (by decide), f1.1 68 (by decide), d1.1 68 (by decide)]
        show zA υ1 68 j = _
        rw [b2'.2.2.2.2.2.2.2.2.2.2.2.2.2.1 j hj]
        show zA τ3 68 j = _
        rw [hF3.1 68 (by decide), hse.a 68 (by decide)]
      · have r1 : P22 τ1 := fun k hk => by rw [hse.a 22 (by decide)]; exact r0 k hk
        have r3 : P22 τ3 := fun k hk => by rw [hF3.1 22 (by decide)]; exact r1 k hk
        have r4 : P22 υ1 := r3.sf b2'
        intro k hk
        rw [hFu.1 22 (by decide), f1.1 22 (by decide), d1.1 22 (by decide)]
        exact r4 k hk
      · rw [I 20 (by decide) (by decide)]; exact h.2.2.2.2.1
      · rw [I 45 (by decide) (by decide)]; exact h.2.2.2.2.2
      · refine ⟨Nat.zero_le _, (fun b hb => nomatch hb), ?_, ?_, (fun j hj => absurd hj (Nat.not_lt_zero _)), (fun j hj => absurd hj (Nat.not_lt_zero _))⟩
        · rw [hFu.2.2.1 2 (by decide), f1.2.2.1 2 (by decide), d1.2.2.1 2 (by decide)]
          show zI υ1 2 = _
          rw [b2'.i 2 (by decide), zI_ne (by decide), hτ3, zI_uI]
          rfl
        · rw [hυ, zI_ne (by decide), zI_uI]; rfl
      · refine ⟨hH.1, by rw [I 11 (by decide) (by decide)]; exact hH.2.1, by rw [I 34 (by decide) (by decide)]; exact hH.2.2.1, fun r hr => ?_⟩
        have e24' : zA υ 24 = upd (zA σ 24) (gN g) mI := by rw [K 24 (by decide), a9, hse.a 24 (by decide)]
        have e69 : zA υ 69 = upd (zA υ3 69) (gN g) mI := by rw [hυ, zA_uI, zA_uI, zA_uA]
        rw [e24', e69]
        by_cases e : r = gN g
        · rw [e, pk_us, pk_us]
          exact ⟨rfl, .inl rfl⟩
        · have hr : r < gN g + 1 := hr
          rw [un_ne e, un_ne e]
          obtain ⟨q1, q2⟩ := hH.2.2.2 r (by omega)
          refine ⟨?_, q2⟩
          rw [q1, f1.1 69 (by decide), d1.1 69 (by decide)]
          show _ = zA υ1 69 r
          rw [b2'.a 69 (by decide) (by decide)]
          show _ = zA τ3 69 r
          rw [hF3.1 69 (by decide), hse.a 69 (by decide)]
      · refine ⟨by rw [KI' 19 (by decide), a12], hc1, kk, by omega, ?_, fun e => by omega⟩
        rw [I 24 (by decide) (by decide), ← hse.i 24 (by decide)]
        exact e24
    · left
      obtain ⟨υ, b1, b2⟩ := m_fault0 (σ := uI τ1 30 (nI 0)) T1.2.2.2.1 T1.2.2.2.2.2 T1.1 T1.2.1
      have hne : ¬ fx (pRoll bs).2 = -1 := hfx
      refine ⟨τ1, υ, ?_, hse, ?_, (SF.of (se30 τ1 _)).tr b2⟩
      · unfold fX11_text
        simp (disch := omega) only [l0, l1, l2, l3, l4, l5, l6, l7, l8, l9, l10, l11, l12, l16, l18, l19, l20, l21, l24, l96, l128, l100, l144, l200, l256, l288, l1536, l1728, l1800, bnd, nI_add, pk_mul, pI_sub, pI_m1, pT_le, pF_le, pT_lt, pF_lt, pT_eq, pF_eq, pF_m1, mF_eq, mT_eq, mT_lt, mF_le, lm1, rd_nI, wr_nI, cl_nI, pk_us, un_ne, pk_uLs, uL_ne, zI_uI, zI_uJ, zI_uA, zI_uB, zI_uR, zI_uN, zJ_uI, zJ_uJ, zJ_uA, zJ_uB, zJ_uR, zJ_uN, zA_uI, zA_uJ, zA_uA, zA_uB, zA_uR, zA_uN, zB_uI, zB_uJ, zB_uA, zB_uB, zB_uR, zB_uN, zR_uI, zR_uJ, zR_uA, zR_uB, zR_uR, zR_uN, zN_uI, zN_uJ, zN_uA, zN_uB, zN_uR, zN_uN, zI_ne, zJ_ne, zA_ne, zB_ne, zR_ne, zN_ne, bi_T, bi_F, nz16, ↓reduceIte, not_true_eq_false, not_false_eq_true, Bool.false_eq_true, reduceCtorEq, h2, mI_eq, if_neg hfx]
      · unfold fX12_text fX12_text_J55
        simp (disch := omega) only [l0, l1, l2, l3, l4, l5, l6, l7, l8, l9, l10, l11, l12, l16, l18, l19, l20, l21, l24, l96, l128, l100, l144, l200, l256, l288, l1536, l1728, l1800, bnd, nI_add, pk_mul, pI_sub, pI_m1, pT_le, pF_le, pT_lt, pF_lt, pT_eq, pF_eq, pF_m1, mF_eq, mT_eq, mT_lt, mF_le, lm1, rd_nI, wr_nI, cl_nI, pk_us, un_ne, pk_uLs, uL_ne, zI_uI, zI_uJ, zI_uA, zI_uB, zI_uR, zI_uN, zJ_uI, zJ_uJ, zJ_uA, zJ_uB, zJ_uR, zJ_uN, zA_uI, zA_uJ, zA_uA, zA_uB, zA_uR, zA_uN, zB_uI, zB_uJ, zB_uA, zB_uB, zB_uR, zB_uN, zR_uI, zR_uJ, zR_uA, zR_uB, zR_uR, zR_uN, zN_uI, zN_uJ, zN_uA, zN_uB, zN_uR, zN_uN, zI_ne, zJ_ne, zA_ne, zB_ne, zR_ne, zN_ne, bi_T, bi_F, nz16, ↓reduceIte, not_true_eq_false, not_false_eq_true, Bool.false_eq_true, reduceCtorEq, hin, h32, b1, mI_eq, if_neg hfx]
