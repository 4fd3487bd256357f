/-! orders: the model's sure -/
theorem m_sureP {σ : St} {g : Gh} {S r i q j : Nat} (k1 : Int64 → Option (Int32 × St)) (hg : okG g) (h : JS σ g S) (hL : TL g S (zA σ 74) (zB σ 76) 0) (hQ : ∀ s q, s < rx (zs g S) 8 → q ≤ 8 → zA σ 75 (9 * s + q) = nI (xQ g S s q).1 ∧ zB σ 77 (9 * s + q) = lN (xQ g S s q).2) (hr : r < 8) (hq : q < 8) (hi : i < 16) (hi2 : i < zs g S r) (hj : j < 16) (hj2 : j < zs g S q) : fX12_sure_P65 (nI (16 * r + i)) (nI (16 * q + j)) (nI r) (nI q) k1 σ (lN 0) (nI 0) = k1 (lN (pc g S r i q j (rx (zs g S) 8))) := by
  have hs : sm g S := h.2.2.2.2.2
  have hN := hs.1
  have h46 := h.2.2.2.1
  have key := it_for (β := Unit) (body := fun (kb : (Int64 × Int32) → Option (Int32 × St)) (t : Int64 × Int32) => fX12_sure_L65 (nI (16 * r + i)) (nI (16 * q + j)) (nI r) (nI q) k1 (fun v6 v8 => kb (v6, v8)) σ t.1 t.2) (rx (zs g S) 8) (by omega) (fun n _ => (lN (pc g S r i q j n), nI n)) (fun _ _ => True) (fun _ _ z => z = k1 (lN (pc g S r i q j (rx (zs g S) 8)))) ?_ 0 () (Nat.zero_le _) trivial
  · exact key
  · intro st _ hst _ kb hkb
    show fX12_sure_L65 (nI (16 * r + i)) (nI (16 * q + j)) (nI r) (nI q) k1 (fun v6 v8 => kb (v6, v8)) σ (lN (pc g S r i q j st)) (nI st) = _
    unfold fX12_sure_L65
    by_cases he : st = rx (zs g S) 8
    · simp (disch := omega) only [l0, l1, l2, l3, l4, l5, l6, l7, l8, l9, l10, l11, l12, l16, l18, l19, l20, l21, l24, l96, l128, l100, l144, l200, l256, l288, l1536, l1728, l1800, bnd, nI_add, pk_mul, pI_sub, pI_m1, pT_le, pF_le, pT_lt, pF_lt, pT_eq, pF_eq, pF_m1, mF_eq, mT_eq, mT_lt, mF_le, lm1, rd_nI, wr_nI, cl_nI, pk_us, un_ne, pk_uLs, uL_ne, zI_uI, zI_uJ, zI_uA, zI_uB, zI_uR, zI_uN, zJ_uI, zJ_uJ, zJ_uA, zJ_uB, zJ_uR, zJ_uN, zA_uI, zA_uJ, zA_uA, zA_uB, zA_uR, zA_uN, zB_uI, zB_uJ, zB_uA, zB_uB, zB_uR, zB_uN, zR_uI, zR_uJ, zR_uA, zR_uB, zR_uR, zR_uN, zN_uI, zN_uJ, zN_uA, zN_uB, zN_uR, zN_uN, zI_ne, zJ_ne, zA_ne, zB_ne, zR_ne, zN_ne, bi_T, bi_F, nz16, ↓reduceIte, not_true_eq_false, not_false_eq_true, Bool.false_eq_true, reduceCtorEq, h46, he]
    · have hlt : st < rx (zs g S) 8 := by omega
      have nx : kb (lN (pc g S r i q j st + pt g S r i q j st), nI (st + 1)) = k1 (lN (pc g S r i q j (rx (zs g S) 8))) := hkb () hlt trivial
      have hs1 := m_saidOf (r := r) (st := st) h hg hr (by omega)
      have hs2 := m_saidOf (r := q) (st := st) h hg hq (by omega)
      have hd1 : nI (16 * r + i) / nI 16 = nI r := by
        rw [nI_div (by omega) (by omega), show (16 * r + i) / 16 = r by omega]
      have hd2 : nI (16 * q + j) / nI 16 = nI q := by
        rw [nI_div (by omega) (by omega), show (16 * q + j) / 16 = q by omega]
      have he1 : nI (16 * r + i) - nI (r * 16) = nI i := by
        rw [pI_sub (by omega), show 16 * r + i - r * 16 = i by omega]
      have he2 : nI (16 * q + j) - nI (q * 16) = nI j := by
        rw [pI_sub (by omega), show 16 * q + j - q * 16 = j by omega]
      have hz1 := zs_le hg h.2.1 hr
      have hz2 := zs_le hg h.2.1 hq
      have hle1 := sd_le (zs g S) st r
      have hle2 := sd_le (zs g S) st q
      unfold pt at nx
      by_cases ha : sd (zs g S) st r = i + 1
      · by_cases hb : sd (zs g S) st q = j
        · have hsq : sd (zs g S) st q < zs g S q := by omega
          have hroom := sd_room hsq hq hlt
          have h73 := h.2.2.2.2.1 q hq
          have hgap := m_gapOf (r := q) (st := st) (last := r + 1) h hg hq (by omega) hsq (by omega) (fun _ => by rw [Nat.add_sub_cancel]; omega)
          have ht1 := hL (st + rx (zs g S) q) (q + 1) (Nat.zero_le _) hroom (by omega) (.inr ⟨by omega, by rw [Nat.add_sub_cancel, sd_same hsq]; omega⟩)
          have ht0 := (hL 0 0 (Nat.zero_le _) (rx_pos _ 8) (by omega) (okE0 _)).1
          have ht2 := hQ st (r + 1) hlt (by omega)
          rw [show 9 * (st + rx (zs g S) q) + (q + 1) = 9 * (st + rx (zs g S) q) + q + 1 by omega] at ht1
          rw [show 9 * st + (r + 1) = 9 * st + r + 1 by omega] at ht2
          rw [show 9 * 0 + 0 = 0 from rfl] at ht0
          have hx1 := xL_le (st := st + rx (zs g S) q) (last := q + 1) hs
          have hx0 := xL_le (st := 0) (last := 0) hs
          have hog := og_le g (zs g S) st (r + 1) q
          have hqv := QV_le g S st (r + 1) 0 st (r + 1)
          rw [QV_self (by omega)] at hqv
          have e1 : (xN g S st (r + 1) q).1 = (xL g S (st + rx (zs g S) q) (q + 1)).1 + og g (zs g S) st (r + 1) q := rfl
          have e2 : (xN g S st (r + 1) q).2 = (xL g S (st + rx (zs g S) q) (q + 1)).2 := rfl
          rw [e1, e2] at nx
          obtain ⟨ht11, ht12⟩ := ht1
          obtain ⟨ht21, ht22⟩ := ht2
          generalize xQ g S st (r + 1) = x at *
          generalize xL g S (st + rx (zs g S) q) (q + 1) = y at *
          generalize og g (zs g S) st (r + 1) q = v at *
          generalize (xL g S 0 0).1 = G at *
          by_cases hc : x.1 + (y.1 + v) = G
          · rw [if_pos ⟨ha, hb, hc⟩] at nx
            simp (disch := omega) only [l0, l1, l2, l3, l4, l5, l6, l7, l8, l9, l10, l11, l12, l16, l18, l19, l20, l21, l24, l96, l128, l100, l144, l200, l256, l288, l1536, l1728, l1800, bnd, nI_add, pk_mul, pI_sub, pI_m1, pT_le, pF_le, pT_lt, pF_lt, pT_eq, pF_eq, pF_m1, mF_eq, mT_eq, mT_lt, mF_le, lm1, rd_nI, wr_nI, cl_nI, pk_us, un_ne, pk_uLs, uL_ne, zI_uI, zI_uJ, zI_uA, zI_uB, zI_uR, zI_uN, zJ_uI, zJ_uJ, zJ_uA, zJ_uB, zJ_uR, zJ_uN, zA_uI, zA_uJ, zA_uA, zA_uB, zA_uR, zA_uN, zB_uI, zB_uJ, zB_uA, zB_uB, zB_uR, zB_uN, zR_uI, zR_uJ, zR_uA, zR_uB, zR_uR, zR_uN, zN_uI, zN_uJ, zN_uA, zN_uB, zN_uR, zN_uN, zI_ne, zJ_ne, zA_ne, zB_ne, zR_ne, zN_ne, bi_T, bi_F, nz16, ↓reduceIte, not_true_eq_false, not_false_eq_true, Bool.false_eq_true, reduceCtorEq, h46, hs1, hs2, hd1, hd2, he1, he2, ha, hb, h73, hgap, ht11, ht12, ht0, ht21, ht22, lN_mul, lN_add]
            exact nx
          · rw [if_neg (fun e => hc e.2.2), Nat.add_zero] at nx
            simp (disch := omega) only [l0, l1, l2, l3, l4, l5, l6, l7, l8, l9, l10, l11, l12, l16, l18, l19, l20, l21, l24, l96, l128, l100, l144, l200, l256, l288, l1536, l1728, l1800, bnd, nI_add, pk_mul, pI_sub, pI_m1, pT_le, pF_le, pT_lt, pF_lt, pT_eq, pF_eq, pF_m1, mF_eq, mT_eq, mT_lt, mF_le, lm1, rd_nI, wr_nI, cl_nI, pk_us, un_ne, pk_uLs, uL_ne, zI_uI, zI_uJ, zI_uA, zI_uB, zI_uR, zI_uN, zJ_uI, zJ_uJ, zJ_uA, zJ_uB, zJ_uR, zJ_uN, zA_uI, zA_uJ, zA_uA, zA_uB, zA_uR, zA_uN, zB_uI, zB_uJ, zB_uA, zB_uB, zB_uR, zB_uN, zR_uI, zR_uJ, zR_uA, zR_uB, zR_uR, zR_uN, zN_uI, zN_uJ, zN_uA, zN_uB, zN_uR, zN_uN, zI_ne, zJ_ne, zA_ne, zB_ne, zR_ne, zN_ne, bi_T, bi_F, nz16, ↓reduceIte, not_true_eq_false, not_false_eq_true, Bool.false_eq_true, reduceCtorEq, h46, hs1, hs2, hd1, hd2, he1, he2, ha, hb, h73, hgap, ht11, ht12, ht0, ht21, ht22, lN_mul, lN_add]
            exact nx
        · rw [if_neg (fun e => hb e.2.1), Nat.add_zero] at nx
          simp (disch := omega) only [l0, l1, l2, l3, l4, l5, l6, l7, l8, l9, l10, l11, l12, l16, l18, l19, l20, l21, l24, l96, l128, l100, l144, l200, l256, l288, l1536, l1728, l1800, bnd, nI_add, pk_mul, pI_sub, pI_m1, pT_le, pF_le, pT_lt, pF_lt, pT_eq, pF_eq, pF_m1, mF_eq, mT_eq, mT_lt, mF_le, lm1, rd_nI, wr_nI, cl_nI, pk_us, un_ne, pk_uLs, uL_ne, zI_uI, zI_uJ, zI_uA, zI_uB, zI_uR, zI_uN, zJ_uI, zJ_uJ, zJ_uA, zJ_uB, zJ_uR, zJ_uN, zA_uI, zA_uJ, zA_uA, zA_uB, zA_uR, zA_uN, zB_uI, zB_uJ, zB_uA, zB_uB, zB_uR, zB_uN, zR_uI, zR_uJ, zR_uA, zR_uB, zR_uR, zR_uN, zN_uI, zN_uJ, zN_uA, zN_uB, zN_uR, zN_uN, zI_ne, zJ_ne, zA_ne, zB_ne, zR_ne, zN_ne, bi_T, bi_F, nz16, ↓reduceIte, not_true_eq_false, not_false_eq_true, Bool.false_eq_true, reduceCtorEq, h46, hs1, hs2, hd1, hd2, he1, he2, ha]
          exact nx
      · rw [if_neg (fun e => ha e.1), Nat.add_zero] at nx
        simp (disch := omega) only [l0, l1, l2, l3, l4, l5, l6, l7, l8, l9, l10, l11, l12, l16, l18, l19, l20, l21, l24, l96, l128, l100, l144, l200, l256, l288, l1536, l1728, l1800, bnd, nI_add, pk_mul, pI_sub, pI_m1, pT_le, pF_le, pT_lt, pF_lt, pT_eq, pF_eq, pF_m1, mF_eq, mT_eq, mT_lt, mF_le, lm1, rd_nI, wr_nI, cl_nI, pk_us, un_ne, pk_uLs, uL_ne, zI_uI, zI_uJ, zI_uA, zI_uB, zI_uR, zI_uN, zJ_uI, zJ_uJ, zJ_uA, zJ_uB, zJ_uR, zJ_uN, zA_uI, zA_uJ, zA_uA, zA_uB, zA_uR, zA_uN, zB_uI, zB_uJ, zB_uA, zB_uB, zB_uR, zB_uN, zR_uI, zR_uJ, zR_uA, zR_uB, zR_uR, zR_uN, zN_uI, zN_uJ, zN_uA, zN_uB, zN_uR, zN_uN, zI_ne, zJ_ne, zA_ne, zB_ne, zR_ne, zN_ne, bi_T, bi_F, nz16, ↓reduceIte, not_true_eq_false, not_false_eq_true, Bool.false_eq_true, reduceCtorEq, h46, hs1, hs2, hd1, hd2, he1, he2]
        exact nx
/-- what sure answers for a small set of rolls -/
def sa (g : Gh) (S r i q j : Nat) : Int32 := if lg_cmp (lN (pc g S r i q j (rx (zs g S) 8))) (lN 0) = nI 0 then nI 0 else if lg_cmp (lN (pc g S r i q j (rx (zs g S) 8))) (lN (xL g S 0 0).2) = nI 0 then nI 1 else mI
theorem m_sure {σ : St} {g : Gh} {S s o : Nat} (hg : okG g) (hj : JM σ g) (hS : al g S = true) (hs : vd g s = true) (ho : vd g o = true) (h1 : S.testBit (s / 16) = true) (h2 : S.testBit (o / 16) = true) (hne : s ≠ o) : ∃ υ, fX12_sure σ (nI S) (nI s) (nI o) = some (if sm g S then sa g S (s / 16) (s % 16) (o / 16) (o % 16) else -2, υ) ∧ SE σ υ := by
  have hj2 := hj.se (se30 σ (nI 0))
  have hlt := al_lt hg hS
  have hs8 := vd_lt hg hs
  have ho8 := vd_lt hg ho
  have hi1 := m_isOf (t := S) (s := s) hg hj2 (by omega) (by omega)
  have hi2 := m_isOf (t := S) (s := o) hg hj2 (by omega) (by omega)
  rw [hs, hS, h1] at hi1
  rw [ho, hS, h2] at hi2
  have hi1 : fX12_isOf (uI σ 30 (nI 0)) (nI s) (nI S) = some true := hi1
  have hi2 : fX12_isOf (uI σ 30 (nI 0)) (nI o) (nI S) = some true := hi2
  obtain ⟨υ, h3, h4, h5⟩ := m_isSmall hg hj2 hS
  unfold fX12_sure
  by_cases hsm : sm g S
  · rw [decide_eq_true hsm] at h3
    obtain ⟨f, b, h6, h7⟩ := m_layLeft (h5 hsm) hg
    have hJ1 : JS (uB (uA υ 74 f) 76 b) g S := (h5 hsm).up (by decide) (by decide) (by decide)
    obtain ⟨f2, b2, h8, h9⟩ := m_laySoFar hJ1 hg
    have hJ2 : JS (uB (uA (uB (uA υ 74 f) 76 b) 75 f2) 77 b2) g S := hJ1.up (by decide) (by decide) (by decide)
    have hr8 : s / 16 < 8 := by omega
    have hq8 : o / 16 < 8 := by omega
    have hz1 : s % 16 < zs g S (s / 16) := by rw [zs_in h1]; exact (vd_iff.mp hs).2
    have hz2 : o % 16 < zs g S (o / 16) := by rw [zs_in h2]; exact (vd_iff.mp ho).2
    have hP := fun k1 => m_sureP (σ := uB (uA (uB (uA υ 74 f) 76 b) 75 f2) 77 b2) (i := s % 16) (j := o % 16) k1 hg hJ2 (by simp (disch := omega) only [l0, l1, l2, l3, l4, l5, l6, l7, l8, l9, l10, l11, l12, l16, l18, l19, l20, l21, l24, l96, l128, l100, l144, l200, l256, l288, l1536, l1728, l1800, bnd, nI_add, pk_mul, pI_sub, pI_m1, pT_le, pF_le, pT_lt, pF_lt, pT_eq, pF_eq, pF_m1, mF_eq, mT_eq, mT_lt, mF_le, lm1, rd_nI, wr_nI, cl_nI, pk_us, un_ne, pk_uLs, uL_ne, zI_uI, zI_uJ, zI_uA, zI_uB, zI_uR, zI_uN, zJ_uI, zJ_uJ, zJ_uA, zJ_uB, zJ_uR, zJ_uN, zA_uI, zA_uJ, zA_uA, zA_uB, zA_uR, zA_uN, zB_uI, zB_uJ, zB_uA, zB_uB, zB_uR, zB_uN, zR_uI, zR_uJ, zR_uA, zR_uB, zR_uR, zR_uN, zN_uI, zN_uJ, zN_uA, zN_uB, zN_uR, zN_uN, zI_ne, zJ_ne, zA_ne, zB_ne, zR_ne, zN_ne, bi_T, bi_F, nz16, ↓reduceIte, not_true_eq_false, not_false_eq_true, Bool.false_eq_true, reduceCtorEq]; exact h6) (by simp (disch := omega) only [l0, l1, l2, l3, l4, l5, l6, l7, l8, l9, l10, l11, l12, l16, l18, l19, l20, l21, l24, l96, l128, l100, l144, l200, l256, l288, l1536, l1728, l1800, bnd, nI_add, pk_mul, pI_sub, pI_m1, pT_le, pF_le, pT_lt, pF_lt, pT_eq, pF_eq, pF_m1, mF_eq, mT_eq, mT_lt, mF_le, lm1, rd_nI, wr_nI, cl_nI, pk_us, un_ne, pk_uLs, uL_ne, zI_uI, zI_uJ, zI_uA, zI_uB, zI_uR, zI_uN, zJ_uI, zJ_uJ, zJ_uA, zJ_uB, zJ_uR, zJ_uN, zA_uI, zA_uJ, zA_uA, zA_uB, zA_uR, zA_uN, zB_uI, zB_uJ, zB_uA, zB_uB, zB_uR, zB_uN, zR_uI, zR_uJ, zR_uA, zR_uB, zR_uR, zR_uN, zN_uI, zN_uJ, zN_uA, zN_uB, zN_uR, zN_uN, zI_ne, zJ_ne, zA_ne, zB_ne, zR_ne, zN_ne, bi_T, bi_F, nz16, ↓reduceIte, not_true_eq_false, not_false_eq_true, Bool.false_eq_true, reduceCtorEq]; exact h8) hr8 hq8 (by omega) hz1 (by omega) hz2
    rw [show 16 * (s / 16) + s % 16 = s by omega, show 16 * (o / 16) + o % 16 = o by omega] at hP
    have h00 : b 0 = lN (xL g S 0 0).2 := (h6 0 0 (Nat.zero_le _) (rx_pos _ 8) (by omega) (okE0 _)).2
    refine ⟨uB (uA (uB (uA υ 74 f) 76 b) 75 f2) 77 b2, ?_, SE.tr (se30 σ _) (SE.tr h4 (SE.tr (se7476 _ _ _) (SE.tr (SE.uA (by decide)) (SE.uB (by decide)))))⟩
    rw [if_pos hsm]
    unfold sa
    have hd1 : nI s / nI 16 = nI (s / 16) := nI_div (by omega) (by omega)
    have hd2 : nI o / nI 16 = nI (o / 16) := nI_div (by omega) (by omega)
    generalize pc g S (s / 16) (s % 16) (o / 16) (o % 16) (rx (zs g S) 8) = P at *
    by_cases hc0 : lg_cmp (lN P) (lN 0) = nI 0
    · rw [if_pos hc0]
      simp (disch := omega) only [l0, l1, l2, l3, l4, l5, l6, l7, l8, l9, l10, l11, l12, l16, l18, l19, l20, l21, l24, l96, l128, l100, l144, l200, l256, l288, l1536, l1728, l1800, bnd, nI_add, pk_mul, pI_sub, pI_m1, pT_le, pF_le, pT_lt, pF_lt, pT_eq, pF_eq, pF_m1, mF_eq, mT_eq, mT_lt, mF_le, lm1, rd_nI, wr_nI, cl_nI, pk_us, un_ne, pk_uLs, uL_ne, zI_uI, zI_uJ, zI_uA, zI_uB, zI_uR, zI_uN, zJ_uI, zJ_uJ, zJ_uA, zJ_uB, zJ_uR, zJ_uN, zA_uI, zA_uJ, zA_uA, zA_uB, zA_uR, zA_uN, zB_uI, zB_uJ, zB_uA, zB_uB, zB_uR, zB_uN, zR_uI, zR_uJ, zR_uA, zR_uB, zR_uR, zR_uN, zN_uI, zN_uJ, zN_uA, zN_uB, zN_uR, zN_uN, zI_ne, zJ_ne, zA_ne, zB_ne, zR_ne, zN_ne, bi_T, bi_F, nz16, ↓reduceIte, not_true_eq_false, not_false_eq_true, Bool.false_eq_true, reduceCtorEq, hi1, hi2, h3, h7, h9, hd1, hd2, L0, hP, hc0]
    · rw [if_neg hc0]
      by_cases hc1 : lg_cmp (lN P) (lN (xL g S 0 0).2) = nI 0
      · rw [if_pos hc1]
        simp (disch := omega) only [l0, l1, l2, l3, l4, l5, l6, l7, l8, l9, l10, l11, l12, l16, l18, l19, l20, l21, l24, l96, l128, l100, l144, l200, l256, l288, l1536, l1728, l1800, bnd, nI_add, pk_mul, pI_sub, pI_m1, pT_le, pF_le, pT_lt, pF_lt, pT_eq, pF_eq, pF_m1, mF_eq, mT_eq, mT_lt, mF_le, lm1, rd_nI, wr_nI, cl_nI, pk_us, un_ne, pk_uLs, uL_ne, zI_uI, zI_uJ, zI_uA, zI_uB, zI_uR, zI_uN, zJ_uI, zJ_uJ, zJ_uA, zJ_uB, zJ_uR, zJ_uN, zA_uI, zA_uJ, zA_uA, zA_uB, zA_uR, zA_uN, zB_uI, zB_uJ, zB_uA, zB_uB, zB_uR, zB_uN, zR_uI, zR_uJ, zR_uA, zR_uB, zR_uR, zR_uN, zN_uI, zN_uJ, zN_uA, zN_uB, zN_uR, zN_uN, zI_ne, zJ_ne, zA_ne, zB_ne, zR_ne, zN_ne, bi_T, bi_F, nz16, ↓reduceIte, not_true_eq_false, not_false_eq_true, Bool.false_eq_true, reduceCtorEq, hi1, hi2, h3, h7, h9, hd1, hd2, L0, hP, if_neg hc0, h00, hc1]
      · rw [if_neg hc1]
        simp (disch := omega) only [l0, l1, l2, l3, l4, l5, l6, l7, l8, l9, l10, l11, l12, l16, l18, l19, l20, l21, l24, l96, l128, l100, l144, l200, l256, l288, l1536, l1728, l1800, bnd, nI_add, pk_mul, pI_sub, pI_m1, pT_le, pF_le, pT_lt, pF_lt, pT_eq, pF_eq, pF_m1, mF_eq, mT_eq, mT_lt, mF_le, lm1, rd_nI, wr_nI, cl_nI, pk_us, un_ne, pk_uLs, uL_ne, zI_uI, zI_uJ, zI_uA, zI_uB, zI_uR, zI_uN, zJ_uI, zJ_uJ, zJ_uA, zJ_uB, zJ_uR, zJ_uN, zA_uI, zA_uJ, zA_uA, zA_uB, zA_uR, zA_uN, zB_uI, zB_uJ, zB_uA, zB_uB, zB_uR, zB_uN, zR_uI, zR_uJ, zR_uA, zR_uB, zR_uR, zR_uN, zN_uI, zN_uJ, zN_uA, zN_uB, zN_uR, zN_uN, zI_ne, zJ_ne, zA_ne, zB_ne, zR_ne, zN_ne, bi_T, bi_F, nz16, ↓reduceIte, not_true_eq_false, not_false_eq_true, Bool.false_eq_true, reduceCtorEq, hi1, hi2, h3, h7, h9, hd1, hd2, L0, hP, if_neg hc0, h00, if_neg hc1]
  · refine ⟨υ, ?_, SE.tr (se30 σ _) h4⟩
    rw [decide_eq_false hsm] at h3
    rw [if_neg hsm]
    simp (disch := omega) only [l0, l1, l2, l3, l4, l5, l6, l7, l8, l9, l10, l11, l12, l16, l18, l19, l20, l21, l24, l96, l128, l100, l144, l200, l256, l288, l1536, l1728, l1800, bnd, nI_add, pk_mul, pI_sub, pI_m1, pT_le, pF_le, pT_lt, pF_lt, pT_eq, pF_eq, pF_m1, mF_eq, mT_eq, mT_lt, mF_le, lm1, rd_nI, wr_nI, cl_nI, pk_us, un_ne, pk_uLs, uL_ne, zI_uI, zI_uJ, zI_uA, zI_uB, zI_uR, zI_uN, zJ_uI, zJ_uJ, zJ_uA, zJ_uB, zJ_uR, zJ_uN, zA_uI, zA_uJ, zA_uA, zA_uB, zA_uR, zA_uN, zB_uI, zB_uJ, zB_uA, zB_uB, zB_uR, zB_uN, zR_uI, zR_uJ, zR_uA, zR_uB, zR_uR, zR_uN, zN_uI, zN_uJ, zN_uA, zN_uB, zN_uR, zN_uN, zI_ne, zJ_ne, zA_ne, zB_ne, zR_ne, zN_ne, bi_T, bi_F, nz16, ↓reduceIte, not_true_eq_false, not_false_eq_true, Bool.false_eq_true, reduceCtorEq, hi1, hi2, h3]
