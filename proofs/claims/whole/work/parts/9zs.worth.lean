/-! worth, both sides: the loops -/
def w1o (l : List Wd) : Wd := l.getD (l.length - 1) []
def wS (g : Gh) (bs : List Nat) (r : Nat) : Nat → Int32
  | 0 => nI 0
  | i + 1 => wS g bs r i + cV (iI (pHab (eW (w1o (gW g (16 * r + i))) (w2o (gW g (16 * r + i)))) bs).1)
theorem c_wL {σ : St} {g : Gh} {lim nh k r : Nat} {hb : Nat → List Nat} (h : RI σ g lim) (hH : HI σ g nh) (hX : HX σ nh hb) (h22 : P22 σ) (h15 : E15 σ) (hk : k < nh) (hr : r < gN g) : ∃ τ, fX11_worth_P29 (nI r) (nI k) σ (nI 0) (nI 0) = some (wS g (hb k) r (gS g r), τ) ∧ SV σ τ ∧ E15 τ := by
  have hg := h.1
  have hg8 := hg.1
  have hn4 := hH.1
  have hs16 : gS g r ≤ 12 := (hg.2.1 r hr).2
  have key := it_for (β := St) (body := fun (kb : (St × Int32 × Int32) → Option (Int32 × St)) (t : St × Int32 × Int32) => fX11_worth_L29 (nI r) (nI k) (fun σ v3 v4 => kb (σ, v3, v4)) t.1 t.2.1 t.2.2) (gS g r) (by omega) (fun i b => (b, wS g (hb k) r i, nI i)) (fun i b => SV σ b ∧ E15 b) (fun i b z => ∃ τ, z = some (wS g (hb k) r (gS g r), τ) ∧ SV σ τ ∧ E15 τ) ?_ 0 σ (Nat.zero_le _) ⟨SV.of (SE.rf σ), h15⟩
  · exact key
  · rintro i y hi ⟨sv, e15⟩ kb hkb
    have hR := h.sv sv
    have hsz := c_sizeOf hg hR.2.1 hr
    show ∃ τ, fX11_worth_L29 (nI r) (nI k) (fun σ v3 v4 => kb (σ, v3, v4)) y (wS g (hb k) r i) (nI i) = _ ∧ _
    unfold fX11_worth_L29
    by_cases hie : i = gS g r
    · refine ⟨y, ?_, sv, e15⟩
      rw [hsz, bnd, hie, if_pos (by rw [pT_le (Nat.le_refl _) (by omega)]; trivial)]
    · have hv : vd g (16 * r + i) = true := vd_iff.mpr ⟨by rw [show (16 * r + i) / 16 = r by omega]; exact hr, by rw [show (16 * r + i) / 16 = r by omega, show (16 * r + i) % 16 = i by omega]; omega⟩
      have hok := vd_ok hg hv
      have a1 := c_lw hg hR.2.1 hv hok.2.1
      have a2 := c_lw2 hg hR.2.1 hv hok.2.1
      have hw1 : okL (w1o (gW g (16 * r + i))) := okL_at hok.2.2.2.2 _
      have hp1 := hok.2.1
      have hw1n : 1 ≤ (w1o (gW g (16 * r + i))).length := (hok.2.2.2.2 _ (getD_mem (d := []) (l := gW g (16 * r + i)) (k := (gW g (16 * r + i)).length - 1) (by omega))).1
      obtain ⟨τ, b1, b2, b3⟩ := c_worthOf (w2 := w2o (gW g (16 * r + i))) hk hn4 (hH.sv sv).2.1 (hX.sv hn4 sv) (h22.sv sv) hw1 hw1n (w2o_ok hok.2.2.2.2)
      obtain ⟨υ, k1, k2⟩ := hkb τ (by omega) ⟨sv.tr (sv_fr b2 (by omega)), b3⟩
      refine ⟨υ, ?_, k2⟩
      rw [← k1]
      have a1 : fX7_lastWord y (nI (16 * r + i)) = some (lN (enc (w1o (gW g (16 * r + i))))) := a1
      rw [hsz, bnd, if_neg (by rw [pF_le (by omega) (by omega)]; exact fun h => h), bnd, l16, pk_mul, nI_add, a1, bnd, a2, bnd, b1, bnd, bnd, l1, nI_add]
      rfl
theorem m_wL {σ : St} {g : Gh} {lim nh k r : Nat} {hb : Nat → List Nat} (h : RI σ g lim) (hn4 : nh ≤ 4) (hX : HX σ nh hb) (hk : k < nh) (hr : r < gN g) : ∃ τ, fX12_worth_P28 (nI r) (nI k) σ (nI 0) (nI 0) = some (wS g (hb k) r (gS g r), τ) ∧ SE σ τ := by
  have hg := h.1
  have hg8 := hg.1
  have hs16 : gS g r ≤ 12 := (hg.2.1 r hr).2
  have key := it_for (β := St) (body := fun (kb : (St × Int32 × Int32) → Option (Int32 × St)) (t : St × Int32 × Int32) => fX12_worth_L28 (nI r) (nI k) (fun σ v3 v4 => kb (σ, v3, v4)) t.1 t.2.1 t.2.2) (gS g r) (by omega) (fun i b => (b, wS g (hb k) r i, nI i)) (fun i b => SE σ b) (fun i b z => ∃ τ, z = some (wS g (hb k) r (gS g r), τ) ∧ SE σ τ) ?_ 0 σ (Nat.zero_le _) (SE.rf σ)
  · exact key
  · rintro i y hi se kb hkb
    have hR := h.se se
    have h60 := hR.2.2.1.2.1 r hr
    show ∃ τ, fX12_worth_L28 (nI r) (nI k) (fun σ v3 v4 => kb (σ, v3, v4)) y (wS g (hb k) r i) (nI i) = _ ∧ _
    unfold fX12_worth_L28
    by_cases hie : i = gS g r
    · refine ⟨y, ?_, se⟩
      rw [hie]
      simp (disch := omega) only [l0, l1, l2, l3, l4, l5, l6, l7, l8, l9, l10, l11, l12, l16, l18, l19, l20, l21, l24, l96, l128, l100, l144, l200, l256, l288, l1536, l1728, l1800, bnd, nI_add, pk_mul, pI_sub, pI_m1, pT_le, pF_le, pT_lt, pF_lt, pT_eq, pF_eq, pF_m1, mF_eq, mT_eq, mT_lt, mF_le, lm1, rd_nI, wr_nI, cl_nI, pk_us, un_ne, pk_uLs, uL_ne, zI_uI, zI_uJ, zI_uA, zI_uB, zI_uR, zI_uN, zJ_uI, zJ_uJ, zJ_uA, zJ_uB, zJ_uR, zJ_uN, zA_uI, zA_uJ, zA_uA, zA_uB, zA_uR, zA_uN, zB_uI, zB_uJ, zB_uA, zB_uB, zB_uR, zB_uN, zR_uI, zR_uJ, zR_uA, zR_uB, zR_uR, zR_uN, zN_uI, zN_uJ, zN_uA, zN_uB, zN_uR, zN_uN, zI_ne, zJ_ne, zA_ne, zB_ne, zR_ne, zN_ne, bi_T, bi_F, nz16, ↓reduceIte, not_true_eq_false, not_false_eq_true, Bool.false_eq_true, reduceCtorEq, h60]
    · have hv : vd g (16 * r + i) = true := vd_iff.mpr ⟨by rw [show (16 * r + i) / 16 = r by omega]; exact hr, by rw [show (16 * r + i) / 16 = r by omega, show (16 * r + i) % 16 = i by omega]; omega⟩
      have hok := vd_ok hg hv
      have hp1 := hok.2.1
      have hp2 := hok.2.2.1
      have hm := hR.2.2.1.2.2 _ hv
      have h62 := hm.2.1
      have hw1 : okL (w1o (gW g (16 * r + i))) := okL_at hok.2.2.2.2 _
      have hw1n : 1 ≤ (w1o (gW g (16 * r + i))).length := (hok.2.2.2.2 _ (getD_mem (d := []) (l := gW g (16 * r + i)) (k := (gW g (16 * r + i)).length - 1) (by omega))).1
      obtain ⟨f, f1, f2, f3, f4⟩ := hm.2.2.2 ((gW g (16 * r + i)).length - 1) (by omega)
      rw [show (16 * r + i) / 16 = r by omega] at f4
      obtain ⟨υ0, b1, b2⟩ := m_worthOf (r := r) (f := f) (w1 := w1o (gW g (16 * r + i))) (w2 := w2o (gW g (16 * r + i))) hk hn4 (hX.se hn4 se) hw1 hw1n (w2o_ok hok.2.2.2.2) (by omega) f1 f4
      obtain ⟨υ, k1, k2⟩ := hkb υ0 (by omega) (se.tr b2)
      refine ⟨υ, ?_, k2⟩
      rw [← k1]
      have f3 : zA y 66 (12 * (16 * r + i) + ((gW g (16 * r + i)).length - 1)) = nI (w1o (gW g (16 * r + i))).length := f3
      generalize hcv : cV (iI (pHab (eW (w1o (gW g (16 * r + i))) (w2o (gW g (16 * r + i)))) (hb k)).1) = cv at *
      have hgoal : wS g (hb k) r (i + 1) = wS g (hb k) r i + cv := by rw [← hcv]; rfl
      show _ = kb (υ0, wS g (hb k) r (i + 1), nI (i + 1))
      rw [hgoal]
      generalize hnw : (gW g (16 * r + i)).length = n at *
      by_cases hn1 : n = 1
      · have hwe : w2o (gW g (16 * r + i)) = [] := if_neg (by omega)
        rw [hwe] at b1
        have b1 : fX12_worthOf y (nI k) (nI r) (nI f) (nI (w1o (gW g (16 * r + i))).length) (nI 0) = some (cv, υ0) := b1
        subst hn1
        have ex : 12 * (16 * r + i) + (1 - 1) = 12 * (16 * r + i) + 1 - 1 := by omega
        rw [ex] at f2 f3
        simp (disch := omega) only [l0, l1, l2, l3, l4, l5, l6, l7, l8, l9, l10, l11, l12, l16, l18, l19, l20, l21, l24, l96, l128, l100, l144, l200, l256, l288, l1536, l1728, l1800, bnd, nI_add, pk_mul, pI_sub, pI_m1, pT_le, pF_le, pT_lt, pF_lt, pT_eq, pF_eq, pF_m1, mF_eq, mT_eq, mT_lt, mF_le, lm1, rd_nI, wr_nI, cl_nI, pk_us, un_ne, pk_uLs, uL_ne, zI_uI, zI_uJ, zI_uA, zI_uB, zI_uR, zI_uN, zJ_uI, zJ_uJ, zJ_uA, zJ_uB, zJ_uR, zJ_uN, zA_uI, zA_uJ, zA_uA, zA_uB, zA_uR, zA_uN, zB_uI, zB_uJ, zB_uA, zB_uB, zB_uR, zB_uN, zR_uI, zR_uJ, zR_uA, zR_uB, zR_uR, zR_uN, zN_uI, zN_uJ, zN_uA, zN_uB, zN_uR, zN_uN, zI_ne, zJ_ne, zA_ne, zB_ne, zR_ne, zN_ne, bi_T, bi_F, nz16, ↓reduceIte, not_true_eq_false, not_false_eq_true, Bool.false_eq_true, reduceCtorEq, h60, h62, f2, f3, b1]
      · have hwe : w2o (gW g (16 * r + i)) = (gW g (16 * r + i)).getD (n - 2) [] := by
          unfold w2o
          rw [if_pos (by omega), hnw]
        obtain ⟨f', g1, g2, g3, g4⟩ := hm.2.2.2 (n - 2) (by omega)
        rw [hwe] at b1
        have ex : 12 * (16 * r + i) + (n - 1) = 12 * (16 * r + i) + n - 1 := by omega
        have ex2 : 12 * (16 * r + i) + (n - 2) = 12 * (16 * r + i) + n - 1 - 1 := by omega
        rw [ex] at f2 f3
        rw [ex2] at g3
        simp (disch := omega) only [l0, l1, l2, l3, l4, l5, l6, l7, l8, l9, l10, l11, l12, l16, l18, l19, l20, l21, l24, l96, l128, l100, l144, l200, l256, l288, l1536, l1728, l1800, bnd, nI_add, pk_mul, pI_sub, pI_m1, pT_le, pF_le, pT_lt, pF_lt, pT_eq, pF_eq, pF_m1, mF_eq, mT_eq, mT_lt, mF_le, lm1, rd_nI, wr_nI, cl_nI, pk_us, un_ne, pk_uLs, uL_ne, zI_uI, zI_uJ, zI_uA, zI_uB, zI_uR, zI_uN, zJ_uI, zJ_uJ, zJ_uA, zJ_uB, zJ_uR, zJ_uN, zA_uI, zA_uJ, zA_uA, zA_uB, zA_uR, zA_uN, zB_uI, zB_uJ, zB_uA, zB_uB, zB_uR, zB_uN, zR_uI, zR_uJ, zR_uA, zR_uB, zR_uR, zR_uN, zN_uI, zN_uJ, zN_uA, zN_uB, zN_uR, zN_uN, zI_ne, zJ_ne, zA_ne, zB_ne, zR_ne, zN_ne, bi_T, bi_F, nz16, ↓reduceIte, not_true_eq_false, not_false_eq_true, Bool.false_eq_true, reduceCtorEq, h60, h62, f2, f3, g3, b1]
