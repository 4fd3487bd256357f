/-! orders: the class's countPairs and certain; sure on both sides -/
theorem okE_no {g : Gh} {S st p : Nat} (hst : st ≠ 0) (h : p = 0 ∨ zs g S (p - 1) = 0) : ¬ okE (zs g S) st p := by
  rintro (h1 | h1)
  · exact hst h1.2
  · rcases h with h | h
    · omega
    · have := sd_le (zs g S) st (p - 1)
      omega
theorem okE_no0 {g : Gh} {S p : Nat} (h : 1 ≤ p) : ¬ okE (zs g S) 0 p := by
  rintro (h1 | h1)
  · omega
  · have := h1.2
    rw [sd_nil] at this
    omega
theorem rho_le8 {S a : Nat} (hS : S < 256) (ha : a ≤ am S) : rho S a ≤ 8 := by
  have h1 := rho_am S hS
  by_cases e : a = am S
  · rw [e, (rho_cnt S hS).2.1]
    exact Nat.le_refl _
  · have := (rho_in S hS a (by omega) (by omega)).1
    omega
theorem c_pairs1 {σ τ : St} {g : Gh} {S st : Nat} (k1 : St → Option St) (hg : okG g) (hT : TD σ g S) (h46 : zN σ 45 ≤ zN σ 46) (h461 : zN σ 46 ≤ 160001) (hF : QF2 σ τ) (hst : st < rx (zs g S) 8) (hst0 : st ≠ 0) (hA : LA τ g S st (am S)) (hD : SD τ g S st) (hU : TU τ g S st 0 0) : ∃ υ, QF2 σ υ ∧ SD υ g S st ∧ TU υ g S (st + 1) 0 0 ∧ fX2_countPairs_P46 (nI st) k1 τ (nI 0) = k1 υ := by
  have hS := hT.1.1
  have hsm := hT.1.2.1
  have h1 := rho_am S hS.1
  have h8 := (rho_cnt S hS.1).2.1
  have hskip : ∀ y a n, a < am S → rho S a + 1 ≤ n → n ≤ rho S a + 2 → (n = rho S a + 1 → xU g S st (rho S a + 1) = 0) → TU y g S st n 0 → TU y g S st (rho S (a + 1) + 1) 0 := by
    intro y a n ha h2 h3 h4 h5
    have hm := rho_mono hS.1 (show a + 1 ≤ am S by omega) (show a < a + 1 by omega)
    refine TU_skip hS.1 hsm (by omega) (fun p h6 h7 => ?_) h5
    by_cases e : p = rho S a + 1
    · rw [e]
      exact h4 (by omega)
    · refine xU_none hS.1 hsm (okE_no hst0 (.inr (zs_out ?_)))
      have h9 := rho_le8 hS.1 (show a + 1 ≤ am S by omega)
      exact rho_out S hS.1 a (by omega) (p - 1) (by omega) (by omega) (by omega)
  have key := it_for (β := St) (body := fun (kb : (St × Int32) → Option St) (t : St × Int32) => fX2_countPairs_L46 (nI st) k1 (fun σ v2 => kb (σ, v2)) t.1 t.2) (am S) (by omega) (fun b y => (y, nI b)) (fun a y => QF2 σ y ∧ LA y g S st (am S) ∧ SD y g S st ∧ TU y g S st (rho S a + 1) 0) (fun b y z => ∃ υ, QF2 σ υ ∧ SD υ g S st ∧ TU υ g S (st + 1) 0 0 ∧ z = k1 υ) ?_ 0 τ (Nat.zero_le _) ⟨hF, hA, hD, ?_⟩
  · exact key
  · rintro a y ha ⟨hY, hyA, hyD, hyU⟩ kb hkb
    show ∃ υ, _ ∧ _ ∧ _ ∧ fX2_countPairs_L46 (nI st) k1 (fun σ v2 => kb (σ, v2)) y (nI a) = _
    have hTy : TD y g S := hT.fr hY (by decide) (by decide) (by decide) (by decide)
    have h21 := hTy.1.2.2.2.1
    unfold fX2_countPairs_L46
    by_cases hae : a = am S
    · rw [hae, h8] at hyU
      exact ⟨y, hY, hyD, TU_state hS.1 hyU, by simp (disch := omega) only [l0, l1, l2, l3, l4, l5, l6, l7, l8, l9, l10, l11, l12, l16, l18, l19, l20, l21, l24, l96, l128, l100, l144, l200, l256, l288, l1536, l1728, l1800, bnd, nI_add, pk_mul, pI_sub, pI_m1, pT_le, pF_le, pT_lt, pF_lt, pT_eq, pF_eq, pF_m1, mF_eq, mT_eq, mT_lt, mF_le, lm1, rd_nI, wr_nI, cl_nI, pk_us, un_ne, pk_uLs, uL_ne, zI_uI, zI_uJ, zI_uA, zI_uB, zI_uR, zI_uN, zJ_uI, zJ_uJ, zJ_uA, zJ_uB, zJ_uR, zJ_uN, zA_uI, zA_uJ, zA_uA, zA_uB, zA_uR, zA_uN, zB_uI, zB_uJ, zB_uA, zB_uB, zB_uR, zB_uN, zR_uI, zR_uJ, zR_uA, zR_uB, zR_uR, zR_uN, zN_uI, zN_uJ, zN_uA, zN_uB, zN_uR, zN_uN, zI_ne, zJ_ne, zA_ne, zB_ne, zR_ne, zN_ne, bi_T, bi_F, nz16, ↓reduceIte, not_true_eq_false, not_false_eq_true, Bool.false_eq_true, reduceCtorEq, h21, hae]⟩
    · have ha2 : a < am S := by omega
      have hi := rho_in S hS.1 a (by omega) ha2
      have hl := hTy.1.2.2.1 a ha2
      have h40 := hyD a ha2
      have hle := sd_le (zs g S) st (rho S a)
      have hz := zs_le hg hS hi.1
      have hol := oA_lt (z := zs g S) hi.1
      have ho20 := hsm.2
      by_cases hs : sd (zs g S) st (rho S a) = 0
      · have hno : xU g S st (rho S a + 1) = 0 := xU_none hS.1 hsm (by
          rintro (h2 | h2)
          · omega
          · rw [Nat.add_sub_cancel] at h2
            omega)
        have nx := hkb y ha2 ⟨hY, hyA, hyD, hskip y a _ ha2 (Nat.le_refl _) (by omega) (fun _ => hno) hyU⟩
        simp (disch := omega) only [l0, l1, l2, l3, l4, l5, l6, l7, l8, l9, l10, l11, l12, l16, l18, l19, l20, l21, l24, l96, l128, l100, l144, l200, l256, l288, l1536, l1728, l1800, bnd, nI_add, pk_mul, pI_sub, pI_m1, pT_le, pF_le, pT_lt, pF_lt, pT_eq, pF_eq, pF_m1, mF_eq, mT_eq, mT_lt, mF_le, lm1, rd_nI, wr_nI, cl_nI, pk_us, un_ne, pk_uLs, uL_ne, zI_uI, zI_uJ, zI_uA, zI_uB, zI_uR, zI_uN, zJ_uI, zJ_uJ, zJ_uA, zJ_uB, zJ_uR, zJ_uN, zA_uI, zA_uJ, zA_uA, zA_uB, zA_uR, zA_uN, zB_uI, zB_uJ, zB_uA, zB_uB, zB_uR, zB_uN, zR_uI, zR_uJ, zR_uA, zR_uB, zR_uR, zR_uN, zN_uI, zN_uJ, zN_uA, zN_uB, zN_uR, zN_uN, zI_ne, zJ_ne, zA_ne, zB_ne, zR_ne, zN_ne, bi_T, bi_F, nz16, ↓reduceIte, not_true_eq_false, not_false_eq_true, Bool.false_eq_true, reduceCtorEq, h21, h40, hs]
        exact nx
      · have hslt := slot_lt hst ha2
        have hrm := hTy.1.2.2.2.2.2.2
        have hy46 : zN y 46 = zN σ 46 := hY.2.2.2.1 46 (by decide)
        have hy45 : zN y 45 = zN σ 45 := hY.2.2.2.1 45 (by decide)
        have hrd := hyU.1 st a hst ha2 (by omega)
        have e9 : UV g S st (rho S a + 1) 0 st (rho S a + 1) = xU g S st (rho S a + 1) := by
          rw [xU_full ⟨by omega, by rw [Nat.add_sub_cancel]; omega⟩ (by omega)]
          unfold UV QN
          have h2 := sd_pos (z := zs g S) (st := st) (r := rho S a) (by omega)
          have h3 := rx_pos (zs g S) (rho S a)
          rw [Nat.add_sub_cancel, if_pos (by omega)]
        rw [e9] at hrd
        have hul := xU_le (st := st) (q := rho S a + 1) hS.1 hsm
        have e60 : (2 : Nat) ^ 60 = 1152921504606846976 := by decide
        have h160 := hrm.2
        have hk46 : st * am S + a < zN σ 46 := by
          have h2 := Nat.lt_trans hslt hrm.1
          omega
        by_cases hu : xU g S st (rho S a + 1) = 0
        · have nx := hkb y ha2 ⟨hY, hyA, hyD, hskip y a _ ha2 (Nat.le_refl _) (by omega) (fun _ => hu) hyU⟩
          rw [hu] at hrd
          have hcmp : lg_cmp (lN 0) (lN 0) ≤ nI 0 := (lg_cmp_le _ _).mpr (Int64.le_iff_toInt_le.mpr (Int.le_refl _))
          simp (disch := omega) only [l0, l1, l2, l3, l4, l5, l6, l7, l8, l9, l10, l11, l12, l16, l18, l19, l20, l21, l24, l96, l128, l100, l144, l200, l256, l288, l1536, l1728, l1800, bnd, nI_add, pk_mul, pI_sub, pI_m1, pT_le, pF_le, pT_lt, pF_lt, pT_eq, pF_eq, pF_m1, mF_eq, mT_eq, mT_lt, mF_le, lm1, rd_nI, wr_nI, cl_nI, pk_us, un_ne, pk_uLs, uL_ne, zI_uI, zI_uJ, zI_uA, zI_uB, zI_uR, zI_uN, zJ_uI, zJ_uJ, zJ_uA, zJ_uB, zJ_uR, zJ_uN, zA_uI, zA_uJ, zA_uA, zA_uB, zA_uR, zA_uN, zB_uI, zB_uJ, zB_uA, zB_uB, zB_uR, zB_uN, zR_uI, zR_uJ, zR_uA, zR_uB, zR_uR, zR_uN, zN_uI, zN_uJ, zN_uA, zN_uB, zN_uR, zN_uN, zI_ne, zJ_ne, zA_ne, zB_ne, zR_ne, zN_ne, bi_T, bi_F, nz16, ↓reduceIte, not_true_eq_false, not_false_eq_true, Bool.false_eq_true, reduceCtorEq, h21, h40, oNI, hy46, hrd, L0, if_pos hcmp]
          exact nx
        · have hcmp : ¬ lg_cmp (lN (xU g S st (rho S a + 1))) (lN 0) ≤ nI 0 := by
            intro h
            have h2 := Int64.le_iff_toInt_le.mp ((lg_cmp_le _ _).mp h)
            have h3 : (lN (xU g S st (rho S a + 1))).toInt = (xU g S st (rho S a + 1) : Nat) := Int64.toInt_ofNat_of_lt (by omega)
            have h4 : (lN 0).toInt = 0 := rfl
            omega
          have hsk : SK σ g S st (rho S a + 1) (st * am S + a) := ⟨Nat.lt_trans hslt hT.1.2.2.2.2.2.2.1, hT.2.1 st a (by omega) hst ha2 (by omega)⟩
          obtain ⟨w, h2, h3, h4, h5, h6⟩ := c_spread (x := oA (zs g S) (rho S a) + sd (zs g S) st (rho S a) - 1) hg hT h46 h461 hY hst hyA hyD (.inr ⟨by omega, by omega, by rw [Nat.add_sub_cancel]; omega, by rw [Nat.add_sub_cancel]⟩) hsk hyU
          have hsub : nI (oA (zs g S) (rho S a) + sd (zs g S) st (rho S a)) - nI 1 = nI (oA (zs g S) (rho S a) + sd (zs g S) st (rho S a) - 1) := pI_sub (by omega)
          have nx := hkb w ha2 ⟨h2, h3, h4, hskip w a _ ha2 (by omega) (Nat.le_refl _) (fun h => by omega) h5⟩
          simp (disch := omega) only [l0, l1, l2, l3, l4, l5, l6, l7, l8, l9, l10, l11, l12, l16, l18, l19, l20, l21, l24, l96, l128, l100, l144, l200, l256, l288, l1536, l1728, l1800, bnd, nI_add, pk_mul, pI_sub, pI_m1, pT_le, pF_le, pT_lt, pF_lt, pT_eq, pF_eq, pF_m1, mF_eq, mT_eq, mT_lt, mF_le, lm1, rd_nI, wr_nI, cl_nI, pk_us, un_ne, pk_uLs, uL_ne, zI_uI, zI_uJ, zI_uA, zI_uB, zI_uR, zI_uN, zJ_uI, zJ_uJ, zJ_uA, zJ_uB, zJ_uR, zJ_uN, zA_uI, zA_uJ, zA_uA, zA_uB, zA_uR, zA_uN, zB_uI, zB_uJ, zB_uA, zB_uB, zB_uR, zB_uN, zR_uI, zR_uJ, zR_uA, zR_uB, zR_uR, zR_uN, zN_uI, zN_uJ, zN_uA, zN_uB, zN_uR, zN_uN, zI_ne, zJ_ne, zA_ne, zB_ne, zR_ne, zN_ne, bi_T, bi_F, nz16, ↓reduceIte, not_true_eq_false, not_false_eq_true, Bool.false_eq_true, reduceCtorEq, h21, h40, oNI, hy46, hrd, L0, if_neg hcmp, hl.2.2.2, hsub, h6]
          exact nx
  · refine TU_skip hS.1 hsm (Nat.zero_le _) (fun p h6 h7 => ?_) hU
    refine xU_none hS.1 hsm (okE_no hst0 ?_)
    by_cases e : p = 0
    · exact .inl e
    · exact .inr (zs_out (rho_out0 S hS.1 (p - 1) (by have := rho_le8 hS.1 (Nat.zero_le (am S)); omega) (by omega)))
theorem c_countPairs {σ : St} {g : Gh} {S c s : Nat} (hg : okG g) (hT : TD σ g S) (hr : rOk σ) (hA : AC σ c s) : ∃ υ, FR [40, 41, 42] [43, 44, 46] [] [0, 1, 46] σ υ ∧ PK υ g S ∧ AC υ (c + 1) s ∧ fX2_countPairs σ = some υ := by
  have hS := hT.1.1
  have hsm := hT.1.2.1
  have hxp := rx_pos (zs g S) 8
  have hx2 := hsm.1
  have h18 := rho_am S hS.1
  obtain ⟨τ1, h1, h2, h3, h4, h5, h6, h7⟩ := c_clearPairs hr hA
  have hT1 : TD τ1 g S := hT.fr h1 (by decide) (by decide) (by decide) (by decide)
  have hU1 : TU τ1 g S 0 0 0 := by
    refine ⟨fun q a h8 h9 h10 => ?_, fun a i b j h8 h9 h10 h11 => ?_⟩
    · have h11 := slot_lt h8 h9
      rw [h5 _ (Nat.lt_of_lt_of_le (Nat.lt_trans h11 hT1.1.2.2.2.2.2.2.1) h2)]
      unfold UV QN
      rw [if_neg (Nat.not_lt_zero _), if_neg (Nat.not_lt_zero _)]
      split <;> rfl
    · have hia := rho_in S hS.1 a (by omega) h8
      have hib := rho_in S hS.1 b (by omega) h9
      have hoa := oA_lt (z := zs g S) hia.1
      have hob := oA_lt (z := zs g S) hib.1
      have ho20 := hsm.2
      rw [h6 _ (by omega), if_neg (by omega)]
      rfl
  obtain ⟨τ2, h8, h9, h10⟩ := c_clearSaid τ1
  have hT2 : TD τ2 g S := hT1.fr h8 (by decide) (by decide) (by decide) (by decide)
  have hD2 : SD τ2 g S 0 := fun a ha => by rw [h9 a (by omega), sd_nil]
  obtain ⟨τ3, h11, h12, h13⟩ := c_lookAhead hg hT2.1 hxp hD2 (fun q b h14 h15 h16 h17 => hT2.2.1 q b (by omega) h15 h16 h17)
  have hT3 : TD τ3 g S := hT2.fr h11 (by decide) (by decide) (by decide) (by decide)
  have hF3 : FR [40, 41, 42] [43, 44, 46] [] [0, 1, 46] σ τ3 := ((h1.mono (by decide) (by decide) (by decide) (by decide)).tr (h8.mono (by decide) (by decide) (by decide) (by decide))).tr (h11.mono (by decide) (by decide) (by decide) (by decide))
  have hA3 : AC τ3 (c + 1) s := (h4.fr h8 (by decide)).fr h11 (by decide)
  have e46 : zN τ3 46 = zN τ1 46 := (h11.2.2.2.1 46 (by decide)).trans (h8.2.2.2.1 46 (by decide))
  have e45 : zN τ3 45 = zN τ1 45 := (h11.2.2.2.1 45 (by decide)).trans (h8.2.2.2.1 45 (by decide))
  have hU0 : xU g S 0 0 = 1 := by
    show oU _ _ (oA (zs g S) 8 - rm (zs g S) 0 8) 0 0 = 1
    rw [rm_nil, Nat.sub_self]
    rfl
  have h46 : zN τ3 45 ≤ zN τ3 46 := by rw [e45, e46]; exact h2
  have h461 : zN τ3 46 ≤ 160001 := by rw [e46]; exact h3
  obtain ⟨τ4, h14, h15, h16, h17, h19⟩ := c_spread (st := 0) (last := 0) (x := 20) (k := rx (zs g S) 8 * am S) hg hT3 h46 h461 (FR.rf _ _ _ _ τ3) hxp h12 (hD2.fr h11 (by decide)) (.inl ⟨rfl, rfl⟩) ⟨hT3.1.2.2.2.2.2.2.1, hT3.2.2⟩ ((hU1.fr h8 (by decide)).fr h11 (by decide))
  rw [hU0] at h19
  have hU4 : TU τ4 g S 1 0 0 := TU_state hS.1 (TU_skip hS.1 hsm (by omega) (fun p h20 h21 => xU_none hS.1 hsm (okE_no0 h20)) h17)
  have key := it_for (β := St) (body := fun (kb : (St × Int32) → Option St) (t : St × Int32) => fX2_countPairs_L27 (fun σ v1 => kb (σ, v1)) t.1 t.2) (rx (zs g S) 8) (by omega) (fun i y => (y, nI i)) (fun i y => 1 ≤ i ∧ QF2 τ3 y ∧ SD y g S (i - 1) ∧ TU y g S i 0 0) (fun i y z => ∃ υ, QF2 τ3 υ ∧ TU υ g S (rx (zs g S) 8) 0 0 ∧ z = some υ) ?_ 1 τ4 hxp ⟨Nat.le_refl _, h14, h16, hU4⟩
  · obtain ⟨υ, h20, h21, h22⟩ := key
    refine ⟨υ, hF3.tr (h20.mono (by decide) (by decide) (by decide) (by decide)), ?_, hA3.fr h20 (by decide), ?_⟩
    · intro a i b j h23 h24 h25 h26
      rw [h21.2 a i b j h23 h24 h25 h26, if_neg (by omega), Nat.add_zero]
    · have hss := (start_at hT3).1
      have h22 : fX2_countPairs_P27 τ4 (nI 1) = some υ := h22
      unfold fX2_countPairs
      simp (disch := omega) only [l0, l1, l2, l3, l4, l5, l6, l7, l8, l9, l10, l11, l12, l16, l18, l19, l20, l21, l24, l96, l128, l100, l144, l200, l256, l288, l1536, l1728, l1800, bnd, nI_add, pk_mul, pI_sub, pI_m1, pT_le, pF_le, pT_lt, pF_lt, pT_eq, pF_eq, pF_m1, mF_eq, mT_eq, mT_lt, mF_le, lm1, rd_nI, wr_nI, cl_nI, pk_us, un_ne, pk_uLs, uL_ne, zI_uI, zI_uJ, zI_uA, zI_uB, zI_uR, zI_uN, zJ_uI, zJ_uJ, zJ_uA, zJ_uB, zJ_uR, zJ_uN, zA_uI, zA_uJ, zA_uA, zA_uB, zA_uR, zA_uN, zB_uI, zB_uJ, zB_uA, zB_uB, zB_uR, zB_uN, zR_uI, zR_uJ, zR_uA, zR_uB, zR_uR, zR_uN, zN_uI, zN_uJ, zN_uA, zN_uB, zN_uR, zN_uN, zI_ne, zJ_ne, zA_ne, zB_ne, zR_ne, zN_ne, bi_T, bi_F, nz16, ↓reduceIte, not_true_eq_false, not_false_eq_true, Bool.false_eq_true, reduceCtorEq, h7, h10, h13, hss, L1, h19]
      exact h22
  · rintro i y hi ⟨hi1, hY, hyD, hyU⟩ kb hkb
    show ∃ υ, _ ∧ _ ∧ fX2_countPairs_L27 (fun σ v1 => kb (σ, v1)) y (nI i) = _
    have hTy : TD y g S := hT3.fr hY (by decide) (by decide) (by decide) (by decide)
    have h22 := hTy.1.2.2.2.2.1
    unfold fX2_countPairs_L27
    by_cases hie : i = rx (zs g S) 8
    · rw [hie] at hyU
      exact ⟨y, hY, hyU, by simp (disch := omega) only [l0, l1, l2, l3, l4, l5, l6, l7, l8, l9, l10, l11, l12, l16, l18, l19, l20, l21, l24, l96, l128, l100, l144, l200, l256, l288, l1536, l1728, l1800, bnd, nI_add, pk_mul, pI_sub, pI_m1, pT_le, pF_le, pT_lt, pF_lt, pT_eq, pF_eq, pF_m1, mF_eq, mT_eq, mT_lt, mF_le, lm1, rd_nI, wr_nI, cl_nI, pk_us, un_ne, pk_uLs, uL_ne, zI_uI, zI_uJ, zI_uA, zI_uB, zI_uR, zI_uN, zJ_uI, zJ_uJ, zJ_uA, zJ_uB, zJ_uR, zJ_uN, zA_uI, zA_uJ, zA_uA, zA_uB, zA_uR, zA_uN, zB_uI, zB_uJ, zB_uA, zB_uB, zB_uR, zB_uN, zR_uI, zR_uJ, zR_uA, zR_uB, zR_uR, zR_uN, zN_uI, zN_uJ, zN_uA, zN_uB, zN_uR, zN_uN, zI_ne, zJ_ne, zA_ne, zB_ne, zR_ne, zN_ne, bi_T, bi_F, nz16, ↓reduceIte, not_true_eq_false, not_false_eq_true, Bool.false_eq_true, reduceCtorEq, h22, hie]⟩
    · obtain ⟨w1, h23, h24, h25⟩ := c_stepOn hg hS hTy.1.2.2.1 hTy.1.2.2.2.1 (show i - 1 + 1 < rx (zs g S) 8 by omega) hyD
      rw [show i - 1 + 1 = i by omega] at h24
      have hT5 : TD w1 g S := hTy.fr h23 (by decide) (by decide) (by decide) (by decide)
      obtain ⟨w2, h26, h27, h28⟩ := c_lookAhead (st := i) hg hT5.1 (by omega) h24 (fun q b h14 h15 h16 h17 => hT5.2.1 q b (by omega) h15 h16 h17)
      have hF5 : QF2 τ3 w2 := (hY.tr (h23.mono (by decide) (by decide) (by decide) (by decide))).tr (h26.mono (by decide) (by decide) (by decide) (by decide))
      obtain ⟨w3, h29, h30, h31, h32⟩ := c_pairs1 (fun s15 => kb (s15, nI i + nI 1)) hg hT3 h46 h461 hF5 (show i < rx (zs g S) 8 by omega) (by omega) h27 (h24.fr h26 (by decide)) ((hyU.fr h23 (by decide)).fr h26 (by decide))
      obtain ⟨υ, h33, h34, h35⟩ := hkb w3 (by omega) ⟨by omega, h29, by rw [Nat.add_sub_cancel]; exact h30, h31⟩
      refine ⟨υ, h33, h34, ?_⟩
      rw [← h35]
      rw [nI_add] at h32
      simp (disch := omega) only [l0, l1, l2, l3, l4, l5, l6, l7, l8, l9, l10, l11, l12, l16, l18, l19, l20, l21, l24, l96, l128, l100, l144, l200, l256, l288, l1536, l1728, l1800, bnd, nI_add, pk_mul, pI_sub, pI_m1, pT_le, pF_le, pT_lt, pF_lt, pT_eq, pF_eq, pF_m1, mF_eq, mT_eq, mT_lt, mF_le, lm1, rd_nI, wr_nI, cl_nI, pk_us, un_ne, pk_uLs, uL_ne, zI_uI, zI_uJ, zI_uA, zI_uB, zI_uR, zI_uN, zJ_uI, zJ_uJ, zJ_uA, zJ_uB, zJ_uR, zJ_uN, zA_uI, zA_uJ, zA_uA, zA_uB, zA_uR, zA_uN, zB_uI, zB_uJ, zB_uA, zB_uB, zB_uR, zB_uN, zR_uI, zR_uJ, zR_uA, zR_uB, zR_uR, zR_uN, zN_uI, zN_uJ, zN_uA, zN_uB, zN_uR, zN_uN, zI_ne, zJ_ne, zA_ne, zB_ne, zR_ne, zN_ne, bi_T, bi_F, nz16, ↓reduceIte, not_true_eq_false, not_false_eq_true, Bool.false_eq_true, reduceCtorEq, h22, h25, h28]
      exact h32
theorem c_numberOf {τ : St} {g : Gh} {S s : Nat} (hg : okG g) (hC : CL τ g S) (hs : vd g s = true) (hb : S.testBit (s / 16) = true) : fX2_numberOf τ (nI s) = some (nI (oA (zs g S) (s / 16) + s % 16)) := by
  have hS := hC.1
  have hs8 := vd_lt hg hs
  have h18 := rho_am S hS.1
  obtain ⟨a0, ha0, hr0⟩ := rho_onto hS.1 (show s / 16 < 8 by omega) hb
  have h21 := hC.2.2.2.1
  have hro := c_rollOf (s := s) (by omega)
  have hd1 : nI s / nI 16 = nI (s / 16) := nI_div (by omega) (by omega)
  have he1 : nI s - nI (s / 16 * 16) = nI (s % 16) := by
    rw [pI_sub (by omega), show s - s / 16 * 16 = s % 16 by omega]
  have key := it_for (β := Unit) (body := fun (kb : Int32 → Option Int32) (t : Int32) => fX2_numberOf_L2 (nI s) (fun v2 => kb v2) τ t) a0 (by omega) (fun a _ => nI a) (fun _ _ => True) (fun _ _ z => z = some (nI (oA (zs g S) (s / 16) + s % 16))) ?_ 0 () (Nat.zero_le _) trivial
  · exact key
  · intro a _ ha _ kb hkb
    show fX2_numberOf_L2 (nI s) (fun v2 => kb v2) τ (nI a) = _
    have hl := hC.2.2.1 a (by omega)
    have hi := rho_in S hS.1 a (by omega) (by omega)
    unfold fX2_numberOf_L2
    by_cases e : a = a0
    · rw [e, hr0] at hl
      rw [e]
      simp (disch := omega) only [l0, l1, l2, l3, l4, l5, l6, l7, l8, l9, l10, l11, l12, l16, l18, l19, l20, l21, l24, l96, l128, l100, l144, l200, l256, l288, l1536, l1728, l1800, bnd, nI_add, pk_mul, pI_sub, pI_m1, pT_le, pF_le, pT_lt, pF_lt, pT_eq, pF_eq, pF_m1, mF_eq, mT_eq, mT_lt, mF_le, lm1, rd_nI, wr_nI, cl_nI, pk_us, un_ne, pk_uLs, uL_ne, zI_uI, zI_uJ, zI_uA, zI_uB, zI_uR, zI_uN, zJ_uI, zJ_uJ, zJ_uA, zJ_uB, zJ_uR, zJ_uN, zA_uI, zA_uJ, zA_uA, zA_uB, zA_uR, zA_uN, zB_uI, zB_uJ, zB_uA, zB_uB, zB_uR, zB_uN, zR_uI, zR_uJ, zR_uA, zR_uB, zR_uR, zR_uN, zN_uI, zN_uJ, zN_uA, zN_uB, zN_uR, zN_uN, zI_ne, zJ_ne, zA_ne, zB_ne, zR_ne, zN_ne, bi_T, bi_F, nz16, ↓reduceIte, not_true_eq_false, not_false_eq_true, Bool.false_eq_true, reduceCtorEq, h21, hl.1, hro, hl.2.2.2, hd1, he1]
    · have nx := hkb () (by omega) trivial
      have hm := rho_mono hS.1 (show a0 ≤ am S by omega) (show a < a0 by omega)
      simp (disch := omega) only [l0, l1, l2, l3, l4, l5, l6, l7, l8, l9, l10, l11, l12, l16, l18, l19, l20, l21, l24, l96, l128, l100, l144, l200, l256, l288, l1536, l1728, l1800, bnd, nI_add, pk_mul, pI_sub, pI_m1, pT_le, pF_le, pT_lt, pF_lt, pT_eq, pF_eq, pF_m1, mF_eq, mT_eq, mT_lt, mF_le, lm1, rd_nI, wr_nI, cl_nI, pk_us, un_ne, pk_uLs, uL_ne, zI_uI, zI_uJ, zI_uA, zI_uB, zI_uR, zI_uN, zJ_uI, zJ_uJ, zJ_uA, zJ_uB, zJ_uR, zJ_uN, zA_uI, zA_uJ, zA_uA, zA_uB, zA_uR, zA_uN, zB_uI, zB_uJ, zB_uA, zB_uB, zB_uR, zB_uN, zR_uI, zR_uJ, zR_uA, zR_uB, zR_uR, zR_uN, zN_uI, zN_uJ, zN_uA, zN_uB, zN_uR, zN_uN, zI_ne, zJ_ne, zA_ne, zB_ne, zR_ne, zN_ne, bi_T, bi_F, nz16, ↓reduceIte, not_true_eq_false, not_false_eq_true, Bool.false_eq_true, reduceCtorEq, h21, hl.1, hro]
      exact nx
theorem c_certainJ {τ : St} {g : Gh} {S s o : Nat} (hg : okG g) (hT : TD τ g S) (hP : PK τ g S) (hs : vd g s = true) (ho : vd g o = true) (h1 : S.testBit (s / 16) = true) (h2 : S.testBit (o / 16) = true) : fX2_certain_J16 τ (nI s) (nI o) = some (sa g S (s / 16) (s % 16) (o / 16) (o % 16), τ) := by
  have hS := hT.1.1
  have hsm := hT.1.2.1
  have hs8 := vd_lt hg hs
  have ho8 := vd_lt hg ho
  have hn1 := c_numberOf hg hT.1 hs h1
  have hn2 := c_numberOf hg hT.1 ho h2
  obtain ⟨a, ha, hra⟩ := rho_onto hS.1 (show s / 16 < 8 by omega) h1
  obtain ⟨b, hb, hrb⟩ := rho_onto hS.1 (show o / 16 < 8 by omega) h2
  have hz1 : s % 16 < zs g S (s / 16) := by rw [zs_in h1]; exact (vd_iff.mp hs).2
  have hz2 : o % 16 < zs g S (o / 16) := by rw [zs_in h2]; exact (vd_iff.mp ho).2
  have hp := hP a (s % 16) b (o % 16) ha hb (by rw [hra]; exact hz1) (by rw [hrb]; exact hz2)
  rw [hra, hrb] at hp
  have hoa := oA_lt (z := zs g S) (show s / 16 < 8 by omega)
  have hob := oA_lt (z := zs g S) (show o / 16 < 8 by omega)
  have ho20 := hsm.2
  have hst := start_at hT
  unfold fX2_certain_J16 fX2_howManyBest sa
  generalize pc g S (s / 16) (s % 16) (o / 16) (o % 16) (rx (zs g S) 8) = P at *
  by_cases hc0 : lg_cmp (lN P) (lN 0) = nI 0
  · rw [if_pos hc0]
    simp (disch := omega) only [l0, l1, l2, l3, l4, l5, l6, l7, l8, l9, l10, l11, l12, l16, l18, l19, l20, l21, l24, l96, l128, l100, l144, l200, l256, l288, l1536, l1728, l1800, bnd, nI_add, pk_mul, pI_sub, pI_m1, pT_le, pF_le, pT_lt, pF_lt, pT_eq, pF_eq, pF_m1, mF_eq, mT_eq, mT_lt, mF_le, lm1, rd_nI, wr_nI, cl_nI, pk_us, un_ne, pk_uLs, uL_ne, zI_uI, zI_uJ, zI_uA, zI_uB, zI_uR, zI_uN, zJ_uI, zJ_uJ, zJ_uA, zJ_uB, zJ_uR, zJ_uN, zA_uI, zA_uJ, zA_uA, zA_uB, zA_uR, zA_uN, zB_uI, zB_uJ, zB_uA, zB_uB, zB_uR, zB_uN, zR_uI, zR_uJ, zR_uA, zR_uB, zR_uR, zR_uN, zN_uI, zN_uJ, zN_uA, zN_uB, zN_uR, zN_uN, zI_ne, zJ_ne, zA_ne, zB_ne, zR_ne, zN_ne, bi_T, bi_F, nz16, ↓reduceIte, not_true_eq_false, not_false_eq_true, Bool.false_eq_true, reduceCtorEq, hn1, hn2, l420, hp, L0, if_pos hc0]
  · rw [if_neg hc0]
    by_cases hc1 : lg_cmp (lN P) (lN (xL g S 0 0).2) = nI 0
    · rw [if_pos hc1]
      simp (disch := omega) only [l0, l1, l2, l3, l4, l5, l6, l7, l8, l9, l10, l11, l12, l16, l18, l19, l20, l21, l24, l96, l128, l100, l144, l200, l256, l288, l1536, l1728, l1800, bnd, nI_add, pk_mul, pI_sub, pI_m1, pT_le, pF_le, pT_lt, pF_lt, pT_eq, pF_eq, pF_m1, mF_eq, mT_eq, mT_lt, mF_le, lm1, rd_nI, wr_nI, cl_nI, pk_us, un_ne, pk_uLs, uL_ne, zI_uI, zI_uJ, zI_uA, zI_uB, zI_uR, zI_uN, zJ_uI, zJ_uJ, zJ_uA, zJ_uB, zJ_uR, zJ_uN, zA_uI, zA_uJ, zA_uA, zA_uB, zA_uR, zA_uN, zB_uI, zB_uJ, zB_uA, zB_uB, zB_uR, zB_uN, zR_uI, zR_uJ, zR_uA, zR_uB, zR_uR, zR_uN, zN_uI, zN_uJ, zN_uA, zN_uB, zN_uR, zN_uN, zI_ne, zJ_ne, zA_ne, zB_ne, zR_ne, zN_ne, bi_T, bi_F, nz16, ↓reduceIte, not_true_eq_false, not_false_eq_true, Bool.false_eq_true, reduceCtorEq, hn1, hn2, l420, hp, L0, if_neg hc0, hst.1, hst.2.2, if_pos hc1]
    · rw [if_neg hc1]
      simp (disch := omega) only [l0, l1, l2, l3, l4, l5, l6, l7, l8, l9, l10, l11, l12, l16, l18, l19, l20, l21, l24, l96, l128, l100, l144, l200, l256, l288, l1536, l1728, l1800, bnd, nI_add, pk_mul, pI_sub, pI_m1, pT_le, pF_le, pT_lt, pF_lt, pT_eq, pF_eq, pF_m1, mF_eq, mT_eq, mT_lt, mF_le, lm1, rd_nI, wr_nI, cl_nI, pk_us, un_ne, pk_uLs, uL_ne, zI_uI, zI_uJ, zI_uA, zI_uB, zI_uR, zI_uN, zJ_uI, zJ_uJ, zJ_uA, zJ_uB, zJ_uR, zJ_uN, zA_uI, zA_uJ, zA_uA, zA_uB, zA_uR, zA_uN, zB_uI, zB_uJ, zB_uA, zB_uB, zB_uR, zB_uN, zR_uI, zR_uJ, zR_uA, zR_uB, zR_uR, zR_uN, zN_uI, zN_uJ, zN_uA, zN_uB, zN_uR, zN_uN, zI_ne, zJ_ne, zA_ne, zB_ne, zR_ne, zN_ne, bi_T, bi_F, nz16, ↓reduceIte, not_true_eq_false, not_false_eq_true, Bool.false_eq_true, reduceCtorEq, hn1, hn2, l420, hp, L0, if_neg hc0, hst.1, hst.2.2, if_neg hc1]
theorem isOf_some {x : Nat} {p : Int32} (hx : x < 128) : ∃ u, fX7_isOf (nI x) p = some u := by
  have hro := c_rollOf (s := x) (by omega)
  unfold fX7_isOf fX7_isIn
  simp (disch := omega) only [l0, l1, l2, l3, l4, l5, l6, l7, l8, l9, l10, l11, l12, l16, l18, l19, l20, l21, l24, l96, l128, l100, l144, l200, l256, l288, l1536, l1728, l1800, bnd, nI_add, pk_mul, pI_sub, pI_m1, pT_le, pF_le, pT_lt, pF_lt, pT_eq, pF_eq, pF_m1, mF_eq, mT_eq, mT_lt, mF_le, lm1, rd_nI, wr_nI, cl_nI, pk_us, un_ne, pk_uLs, uL_ne, zI_uI, zI_uJ, zI_uA, zI_uB, zI_uR, zI_uN, zJ_uI, zJ_uJ, zJ_uA, zJ_uB, zJ_uR, zJ_uN, zA_uI, zA_uJ, zA_uA, zA_uB, zA_uR, zA_uN, zB_uI, zB_uJ, zB_uA, zB_uB, zB_uR, zB_uN, zR_uI, zR_uJ, zR_uA, zR_uB, zR_uR, zR_uN, zN_uI, zN_uJ, zN_uA, zN_uB, zN_uR, zN_uN, zI_ne, zJ_ne, zA_ne, zB_ne, zR_ne, zN_ne, bi_T, bi_F, nz16, ↓reduceIte, not_true_eq_false, not_false_eq_true, Bool.false_eq_true, reduceCtorEq, hro]
  by_cases h : (p >>> (nI (x / 16) &&& 31)) &&& nI 1 = nI 0
  · exact ⟨false, by simp (disch := omega) only [l0, l1, l2, l3, l4, l5, l6, l7, l8, l9, l10, l11, l12, l16, l18, l19, l20, l21, l24, l96, l128, l100, l144, l200, l256, l288, l1536, l1728, l1800, bnd, nI_add, pk_mul, pI_sub, pI_m1, pT_le, pF_le, pT_lt, pF_lt, pT_eq, pF_eq, pF_m1, mF_eq, mT_eq, mT_lt, mF_le, lm1, rd_nI, wr_nI, cl_nI, pk_us, un_ne, pk_uLs, uL_ne, zI_uI, zI_uJ, zI_uA, zI_uB, zI_uR, zI_uN, zJ_uI, zJ_uJ, zJ_uA, zJ_uB, zJ_uR, zJ_uN, zA_uI, zA_uJ, zA_uA, zA_uB, zA_uR, zA_uN, zB_uI, zB_uJ, zB_uA, zB_uB, zB_uR, zB_uN, zR_uI, zR_uJ, zR_uA, zR_uB, zR_uR, zR_uN, zN_uI, zN_uJ, zN_uA, zN_uB, zN_uR, zN_uN, zI_ne, zJ_ne, zA_ne, zB_ne, zR_ne, zN_ne, bi_T, bi_F, nz16, ↓reduceIte, not_true_eq_false, not_false_eq_true, Bool.false_eq_true, reduceCtorEq, if_pos h]⟩
  · exact ⟨true, by simp (disch := omega) only [l0, l1, l2, l3, l4, l5, l6, l7, l8, l9, l10, l11, l12, l16, l18, l19, l20, l21, l24, l96, l128, l100, l144, l200, l256, l288, l1536, l1728, l1800, bnd, nI_add, pk_mul, pI_sub, pI_m1, pT_le, pF_le, pT_lt, pF_lt, pT_eq, pF_eq, pF_m1, mF_eq, mT_eq, mT_lt, mF_le, lm1, rd_nI, wr_nI, cl_nI, pk_us, un_ne, pk_uLs, uL_ne, zI_uI, zI_uJ, zI_uA, zI_uB, zI_uR, zI_uN, zJ_uI, zJ_uJ, zJ_uA, zJ_uB, zJ_uR, zJ_uN, zA_uI, zA_uJ, zA_uA, zA_uB, zA_uR, zA_uN, zB_uI, zB_uJ, zB_uA, zB_uB, zB_uR, zB_uN, zR_uI, zR_uJ, zR_uA, zR_uB, zR_uR, zR_uN, zN_uI, zN_uJ, zN_uA, zN_uB, zN_uR, zN_uN, zI_ne, zJ_ne, zA_ne, zB_ne, zR_ne, zN_ne, bi_T, bi_F, nz16, ↓reduceIte, not_true_eq_false, not_false_eq_true, Bool.false_eq_true, reduceCtorEq, if_neg h]⟩
theorem t_sure {σ : St} {g : Gh} {lim c cc s : Nat} (h : RI σ g lim) (hr : rOk σ) (hA : AC σ cc s) (hH : CH σ g c) (p q w : Int32) : B3 σ g c cc s (fX11_sure σ p q w) (fun τ => fX12_sure τ p q w) := by
  have s3 := se30 σ (nI 0)
  have R3 := se30g h
  rcases has2 h q with ⟨x, hv, hx, rfl, e1⟩ | e1
  · rcases has2 h w with ⟨y, hw, hy, rfl, e2⟩ | e2
    · have hx1 := (e1 σ (SE.rf σ)).1
      have hy1 := (e2 σ (SE.rf σ)).1
      rcases all2 h p with ⟨t, hal, ht, rfl, e⟩ | e
      · have hc1 := c_isOf2 h hv ht
        have hc2 := c_isOf2 h hw ht
        have hm1 := m_isOf (t := t) (s := x) h.1 R3.2.2.1 (by omega) (by omega)
        have hm2 := m_isOf (t := t) (s := y) h.1 R3.2.2.1 (by omega) (by omega)
        rw [hv, hal, Bool.true_and, Bool.true_and] at hm1
        rw [hw, hal, Bool.true_and, Bool.true_and] at hm2
        by_cases hb1 : t.testBit (x / 16) = true
        · by_cases hb2 : t.testBit (y / 16) = true
          · rw [hb1] at hc1 hm1
            rw [hb2] at hc2 hm2
            by_cases hne : x = y
            · refine B3.no hH hA (-2) ?_ ?_
              · unfold fX11_sure
                rw [hne, if_pos rfl]
              · show fX12_sure σ (nI t) (nI x) (nI y) = _
                unfold fX12_sure
                simp (disch := omega) only [l0, l1, l2, l3, l4, l5, l6, l7, l8, l9, l10, l11, l12, l16, l18, l19, l20, l21, l24, l96, l128, l100, l144, l200, l256, l288, l1536, l1728, l1800, bnd, nI_add, pk_mul, pI_sub, pI_m1, pT_le, pF_le, pT_lt, pF_lt, pT_eq, pF_eq, pF_m1, mF_eq, mT_eq, mT_lt, mF_le, lm1, rd_nI, wr_nI, cl_nI, pk_us, un_ne, pk_uLs, uL_ne, zI_uI, zI_uJ, zI_uA, zI_uB, zI_uR, zI_uN, zJ_uI, zJ_uJ, zJ_uA, zJ_uB, zJ_uR, zJ_uN, zA_uI, zA_uJ, zA_uA, zA_uB, zA_uR, zA_uN, zB_uI, zB_uJ, zB_uA, zB_uB, zB_uR, zB_uN, zR_uI, zR_uJ, zR_uA, zR_uB, zR_uR, zR_uN, zN_uI, zN_uJ, zN_uA, zN_uB, zN_uR, zN_uN, zI_ne, zJ_ne, zA_ne, zB_ne, zR_ne, zN_ne, bi_T, bi_F, nz16, ↓reduceIte, not_true_eq_false, not_false_eq_true, Bool.false_eq_true, reduceCtorEq, hm1, hm2, hne]
            · obtain ⟨τ, h1, h2, h3, h4, h5⟩ := c_areTold h.1 h.2.1 hr hA hal hH
              by_cases hs : sm g t
              · rw [decide_eq_true hs] at h1
                obtain ⟨hT, h23, h24, h25⟩ := h5 hs
                have hr2 : rOk τ := by
                  unfold rOk
                  rw [h2.2.2.2.2]
                  exact hr
                obtain ⟨e19, hcm, _⟩ := h3
                -- behind the counting
                have fin : ∀ υ : St, OF σ υ → TD υ g t → PK υ g t → zI υ 23 = nI t → zI υ 24 = nI c → zI υ 25 = nI 1 → AC υ (cc + 2) s → fX2_certain τ (nI x) (nI y) = fX2_certain_J16 υ (nI x) (nI y) → B3 σ g c cc s (fX11_sure σ (nI t) (nI x) (nI y)) (fun τ => fX12_sure τ (nI t) (nI x) (nI y)) := by
                  intro υ h6 h7 h8 h9 h10 h11 h12 h13
                  have hJ := c_certainJ h.1 h7 h8 hv hw hb1 hb2
                  obtain ⟨w, h14, h15⟩ := m_sure h.1 (h.of h6).2.2.1 hal hv hw hb1 hb2 hne
                  rw [if_pos hs] at h14
                  refine ⟨_, υ, w, ?_, h6, ⟨(h6.2.2.1 19 (by decide)).trans ((h2.2.2.1 19 (by decide)).symm.trans e19), hcm, c, Nat.le_refl _, h10, fun _ => .inr ⟨t, hal, h9, h7, .inr ⟨h11, h8⟩⟩⟩, h12, h14, h15⟩
                  unfold fX11_sure
                  rw [hJ] at h13
                  simp (disch := omega) only [l0, l1, l2, l3, l4, l5, l6, l7, l8, l9, l10, l11, l12, l16, l18, l19, l20, l21, l24, l96, l128, l100, l144, l200, l256, l288, l1536, l1728, l1800, bnd, nI_add, pk_mul, pI_sub, pI_m1, pT_le, pF_le, pT_lt, pF_lt, pT_eq, pF_eq, pF_m1, mF_eq, mT_eq, mT_lt, mF_le, lm1, rd_nI, wr_nI, cl_nI, pk_us, un_ne, pk_uLs, uL_ne, zI_uI, zI_uJ, zI_uA, zI_uB, zI_uR, zI_uN, zJ_uI, zJ_uJ, zJ_uA, zJ_uB, zJ_uR, zJ_uN, zA_uI, zA_uJ, zA_uA, zA_uB, zA_uR, zA_uN, zB_uI, zB_uJ, zB_uA, zB_uB, zB_uR, zB_uN, zR_uI, zR_uJ, zR_uA, zR_uB, zR_uR, zR_uN, zN_uI, zN_uJ, zN_uA, zN_uB, zN_uR, zN_uN, zI_ne, zJ_ne, zA_ne, zB_ne, zR_ne, zN_ne, bi_T, bi_F, nz16, ↓reduceIte, not_true_eq_false, not_false_eq_true, Bool.false_eq_true, reduceCtorEq, hx1, hy1, hc1, hc2, h1, h13]
                rcases h25 with h25 | ⟨h25, hPK⟩
                · obtain ⟨υ, h6, h7, h8, h9⟩ := c_countPairs h.1 hT hr2 h4
                  have hF1 : FR [] [] [25] [] υ (uI υ 25 (nI 1)) := FR.uI (FR.rf _ _ _ _ _) (by decide)
                  have hPK : PK (uI υ 25 (nI 1)) g t := by
                    unfold PK
                    rw [zB_uI]
                    exact h7
                  refine fin (uI υ 25 (nI 1)) ((h2.tr (h6.mono (by decide) (by decide) (by decide) (by decide))).tr (hF1.mono (by decide) (by decide) (by decide) (by decide))) ((hT.fr h6 (by decide) (by decide) (by decide) (by decide)).fr hF1 (by decide) (by decide) (by decide) (by decide)) hPK ?_ ?_ ?_ (h8.fr hF1 (by decide)) ?_
                  · rw [hF1.2.2.1 23 (by decide), h6.2.2.1 23 (by decide)]
                    exact h23
                  · rw [hF1.2.2.1 24 (by decide), h6.2.2.1 24 (by decide)]
                    exact h24
                  · simp (disch := omega) only [l0, l1, l2, l3, l4, l5, l6, l7, l8, l9, l10, l11, l12, l16, l18, l19, l20, l21, l24, l96, l128, l100, l144, l200, l256, l288, l1536, l1728, l1800, bnd, nI_add, pk_mul, pI_sub, pI_m1, pT_le, pF_le, pT_lt, pF_lt, pT_eq, pF_eq, pF_m1, mF_eq, mT_eq, mT_lt, mF_le, lm1, rd_nI, wr_nI, cl_nI, pk_us, un_ne, pk_uLs, uL_ne, zI_uI, zI_uJ, zI_uA, zI_uB, zI_uR, zI_uN, zJ_uI, zJ_uJ, zJ_uA, zJ_uB, zJ_uR, zJ_uN, zA_uI, zA_uJ, zA_uA, zA_uB, zA_uR, zA_uN, zB_uI, zB_uJ, zB_uA, zB_uB, zB_uR, zB_uN, zR_uI, zR_uJ, zR_uA, zR_uB, zR_uR, zR_uN, zN_uI, zN_uJ, zN_uA, zN_uB, zN_uR, zN_uN, zI_ne, zJ_ne, zA_ne, zB_ne, zR_ne, zN_ne, bi_T, bi_F, nz16, ↓reduceIte, not_true_eq_false, not_false_eq_true, Bool.false_eq_true, reduceCtorEq]
                  · unfold fX2_certain
                    simp (disch := omega) only [l0, l1, l2, l3, l4, l5, l6, l7, l8, l9, l10, l11, l12, l16, l18, l19, l20, l21, l24, l96, l128, l100, l144, l200, l256, l288, l1536, l1728, l1800, bnd, nI_add, pk_mul, pI_sub, pI_m1, pT_le, pF_le, pT_lt, pF_lt, pT_eq, pF_eq, pF_m1, mF_eq, mT_eq, mT_lt, mF_le, lm1, rd_nI, wr_nI, cl_nI, pk_us, un_ne, pk_uLs, uL_ne, zI_uI, zI_uJ, zI_uA, zI_uB, zI_uR, zI_uN, zJ_uI, zJ_uJ, zJ_uA, zJ_uB, zJ_uR, zJ_uN, zA_uI, zA_uJ, zA_uA, zA_uB, zA_uR, zA_uN, zB_uI, zB_uJ, zB_uA, zB_uB, zB_uR, zB_uN, zR_uI, zR_uJ, zR_uA, zR_uB, zR_uR, zR_uN, zN_uI, zN_uJ, zN_uA, zN_uB, zN_uR, zN_uN, zI_ne, zJ_ne, zA_ne, zB_ne, zR_ne, zN_ne, bi_T, bi_F, nz16, ↓reduceIte, not_true_eq_false, not_false_eq_true, Bool.false_eq_true, reduceCtorEq, h25, h9]
                · refine fin τ h2 hT hPK h23 h24 h25 (h4.more (by omega) (Nat.le_refl _)) ?_
                  unfold fX2_certain
                  simp (disch := omega) only [l0, l1, l2, l3, l4, l5, l6, l7, l8, l9, l10, l11, l12, l16, l18, l19, l20, l21, l24, l96, l128, l100, l144, l200, l256, l288, l1536, l1728, l1800, bnd, nI_add, pk_mul, pI_sub, pI_m1, pT_le, pF_le, pT_lt, pF_lt, pT_eq, pF_eq, pF_m1, mF_eq, mT_eq, mT_lt, mF_le, lm1, rd_nI, wr_nI, cl_nI, pk_us, un_ne, pk_uLs, uL_ne, zI_uI, zI_uJ, zI_uA, zI_uB, zI_uR, zI_uN, zJ_uI, zJ_uJ, zJ_uA, zJ_uB, zJ_uR, zJ_uN, zA_uI, zA_uJ, zA_uA, zA_uB, zA_uR, zA_uN, zB_uI, zB_uJ, zB_uA, zB_uB, zB_uR, zB_uN, zR_uI, zR_uJ, zR_uA, zR_uB, zR_uR, zR_uN, zN_uI, zN_uJ, zN_uA, zN_uB, zN_uR, zN_uN, zI_ne, zJ_ne, zA_ne, zB_ne, zR_ne, zN_ne, bi_T, bi_F, nz16, ↓reduceIte, not_true_eq_false, not_false_eq_true, Bool.false_eq_true, reduceCtorEq, h25]
              · rw [decide_eq_false hs] at h1
                obtain ⟨w, h14, h15⟩ := m_sure h.1 (h.of h2).2.2.1 hal hv hw hb1 hb2 hne
                rw [if_neg hs] at h14
                refine ⟨_, τ, w, ?_, h2, h3, h4.more (by omega) (Nat.le_refl _), h14, h15⟩
                unfold fX11_sure
                simp (disch := omega) only [l0, l1, l2, l3, l4, l5, l6, l7, l8, l9, l10, l11, l12, l16, l18, l19, l20, l21, l24, l96, l128, l100, l144, l200, l256, l288, l1536, l1728, l1800, bnd, nI_add, pk_mul, pI_sub, pI_m1, pT_le, pF_le, pT_lt, pF_lt, pT_eq, pF_eq, pF_m1, mF_eq, mT_eq, mT_lt, mF_le, lm1, rd_nI, wr_nI, cl_nI, pk_us, un_ne, pk_uLs, uL_ne, zI_uI, zI_uJ, zI_uA, zI_uB, zI_uR, zI_uN, zJ_uI, zJ_uJ, zJ_uA, zJ_uB, zJ_uR, zJ_uN, zA_uI, zA_uJ, zA_uA, zA_uB, zA_uR, zA_uN, zB_uI, zB_uJ, zB_uA, zB_uB, zB_uR, zB_uN, zR_uI, zR_uJ, zR_uA, zR_uB, zR_uR, zR_uN, zN_uI, zN_uJ, zN_uA, zN_uB, zN_uR, zN_uN, zI_ne, zJ_ne, zA_ne, zB_ne, zR_ne, zN_ne, bi_T, bi_F, nz16, ↓reduceIte, not_true_eq_false, not_false_eq_true, Bool.false_eq_true, reduceCtorEq, hx1, hy1, hc1, hc2, h1]
          · have hb2 : t.testBit (y / 16) = false := Bool.eq_false_iff.mpr hb2
            rw [hb1] at hc1 hm1
            rw [hb2] at hc2 hm2
            refine B3.no hH hA (-2) ?_ ?_
            · unfold fX11_sure
              simp (disch := omega) only [l0, l1, l2, l3, l4, l5, l6, l7, l8, l9, l10, l11, l12, l16, l18, l19, l20, l21, l24, l96, l128, l100, l144, l200, l256, l288, l1536, l1728, l1800, bnd, nI_add, pk_mul, pI_sub, pI_m1, pT_le, pF_le, pT_lt, pF_lt, pT_eq, pF_eq, pF_m1, mF_eq, mT_eq, mT_lt, mF_le, lm1, rd_nI, wr_nI, cl_nI, pk_us, un_ne, pk_uLs, uL_ne, zI_uI, zI_uJ, zI_uA, zI_uB, zI_uR, zI_uN, zJ_uI, zJ_uJ, zJ_uA, zJ_uB, zJ_uR, zJ_uN, zA_uI, zA_uJ, zA_uA, zA_uB, zA_uR, zA_uN, zB_uI, zB_uJ, zB_uA, zB_uB, zB_uR, zB_uN, zR_uI, zR_uJ, zR_uA, zR_uB, zR_uR, zR_uN, zN_uI, zN_uJ, zN_uA, zN_uB, zN_uR, zN_uN, zI_ne, zJ_ne, zA_ne, zB_ne, zR_ne, zN_ne, bi_T, bi_F, nz16, ↓reduceIte, not_true_eq_false, not_false_eq_true, Bool.false_eq_true, reduceCtorEq, hx1, hy1, hc1, hc2, ite_self]
            · show fX12_sure σ (nI t) (nI x) (nI y) = _
              unfold fX12_sure
              simp (disch := omega) only [l0, l1, l2, l3, l4, l5, l6, l7, l8, l9, l10, l11, l12, l16, l18, l19, l20, l21, l24, l96, l128, l100, l144, l200, l256, l288, l1536, l1728, l1800, bnd, nI_add, pk_mul, pI_sub, pI_m1, pT_le, pF_le, pT_lt, pF_lt, pT_eq, pF_eq, pF_m1, mF_eq, mT_eq, mT_lt, mF_le, lm1, rd_nI, wr_nI, cl_nI, pk_us, un_ne, pk_uLs, uL_ne, zI_uI, zI_uJ, zI_uA, zI_uB, zI_uR, zI_uN, zJ_uI, zJ_uJ, zJ_uA, zJ_uB, zJ_uR, zJ_uN, zA_uI, zA_uJ, zA_uA, zA_uB, zA_uR, zA_uN, zB_uI, zB_uJ, zB_uA, zB_uB, zB_uR, zB_uN, zR_uI, zR_uJ, zR_uA, zR_uB, zR_uR, zR_uN, zN_uI, zN_uJ, zN_uA, zN_uB, zN_uR, zN_uN, zI_ne, zJ_ne, zA_ne, zB_ne, zR_ne, zN_ne, bi_T, bi_F, nz16, ↓reduceIte, not_true_eq_false, not_false_eq_true, Bool.false_eq_true, reduceCtorEq, hm1, hm2]
        · have hb1 : t.testBit (x / 16) = false := Bool.eq_false_iff.mpr hb1
          rw [hb1] at hc1 hm1
          refine B3.no hH hA (-2) ?_ ?_
          · unfold fX11_sure
            simp (disch := omega) only [l0, l1, l2, l3, l4, l5, l6, l7, l8, l9, l10, l11, l12, l16, l18, l19, l20, l21, l24, l96, l128, l100, l144, l200, l256, l288, l1536, l1728, l1800, bnd, nI_add, pk_mul, pI_sub, pI_m1, pT_le, pF_le, pT_lt, pF_lt, pT_eq, pF_eq, pF_m1, mF_eq, mT_eq, mT_lt, mF_le, lm1, rd_nI, wr_nI, cl_nI, pk_us, un_ne, pk_uLs, uL_ne, zI_uI, zI_uJ, zI_uA, zI_uB, zI_uR, zI_uN, zJ_uI, zJ_uJ, zJ_uA, zJ_uB, zJ_uR, zJ_uN, zA_uI, zA_uJ, zA_uA, zA_uB, zA_uR, zA_uN, zB_uI, zB_uJ, zB_uA, zB_uB, zB_uR, zB_uN, zR_uI, zR_uJ, zR_uA, zR_uB, zR_uR, zR_uN, zN_uI, zN_uJ, zN_uA, zN_uB, zN_uR, zN_uN, zI_ne, zJ_ne, zA_ne, zB_ne, zR_ne, zN_ne, bi_T, bi_F, nz16, ↓reduceIte, not_true_eq_false, not_false_eq_true, Bool.false_eq_true, reduceCtorEq, hx1, hy1, hc1, ite_self]
          · show fX12_sure σ (nI t) (nI x) (nI y) = _
            unfold fX12_sure
            simp (disch := omega) only [l0, l1, l2, l3, l4, l5, l6, l7, l8, l9, l10, l11, l12, l16, l18, l19, l20, l21, l24, l96, l128, l100, l144, l200, l256, l288, l1536, l1728, l1800, bnd, nI_add, pk_mul, pI_sub, pI_m1, pT_le, pF_le, pT_lt, pF_lt, pT_eq, pF_eq, pF_m1, mF_eq, mT_eq, mT_lt, mF_le, lm1, rd_nI, wr_nI, cl_nI, pk_us, un_ne, pk_uLs, uL_ne, zI_uI, zI_uJ, zI_uA, zI_uB, zI_uR, zI_uN, zJ_uI, zJ_uJ, zJ_uA, zJ_uB, zJ_uR, zJ_uN, zA_uI, zA_uJ, zA_uA, zA_uB, zA_uR, zA_uN, zB_uI, zB_uJ, zB_uA, zB_uB, zB_uR, zB_uN, zR_uI, zR_uJ, zR_uA, zR_uB, zR_uR, zR_uN, zN_uI, zN_uJ, zN_uA, zN_uB, zN_uR, zN_uN, zI_ne, zJ_ne, zA_ne, zB_ne, zR_ne, zN_ne, bi_T, bi_F, nz16, ↓reduceIte, not_true_eq_false, not_false_eq_true, Bool.false_eq_true, reduceCtorEq, hm1]
      · have ea := (e σ (SE.rf σ)).1
        have em := (e (uI σ 30 (nI 0)) s3).2
        have em1 := m_isOfNo2 (e1 (uI σ 30 (nI 0)) s3).2 em
        refine B3.no hH hA (-2) ?_ ?_
        · unfold fX11_sure fX2_areTold
          obtain ⟨u, hu⟩ := isOf_some (p := p) hx
          obtain ⟨v, hv2⟩ := isOf_some (p := p) hy
          cases u with
          | true => simp (disch := omega) only [l0, l1, l2, l3, l4, l5, l6, l7, l8, l9, l10, l11, l12, l16, l18, l19, l20, l21, l24, l96, l128, l100, l144, l200, l256, l288, l1536, l1728, l1800, bnd, nI_add, pk_mul, pI_sub, pI_m1, pT_le, pF_le, pT_lt, pF_lt, pT_eq, pF_eq, pF_m1, mF_eq, mT_eq, mT_lt, mF_le, lm1, rd_nI, wr_nI, cl_nI, pk_us, un_ne, pk_uLs, uL_ne, zI_uI, zI_uJ, zI_uA, zI_uB, zI_uR, zI_uN, zJ_uI, zJ_uJ, zJ_uA, zJ_uB, zJ_uR, zJ_uN, zA_uI, zA_uJ, zA_uA, zA_uB, zA_uR, zA_uN, zB_uI, zB_uJ, zB_uA, zB_uB, zB_uR, zB_uN, zR_uI, zR_uJ, zR_uA, zR_uB, zR_uR, zR_uN, zN_uI, zN_uJ, zN_uA, zN_uB, zN_uR, zN_uN, zI_ne, zJ_ne, zA_ne, zB_ne, zR_ne, zN_ne, bi_T, bi_F, nz16, ↓reduceIte, not_true_eq_false, not_false_eq_true, Bool.false_eq_true, reduceCtorEq, hx1, hy1, ea, hu, hv2, ite_self]
          | false => simp (disch := omega) only [l0, l1, l2, l3, l4, l5, l6, l7, l8, l9, l10, l11, l12, l16, l18, l19, l20, l21, l24, l96, l128, l100, l144, l200, l256, l288, l1536, l1728, l1800, bnd, nI_add, pk_mul, pI_sub, pI_m1, pT_le, pF_le, pT_lt, pF_lt, pT_eq, pF_eq, pF_m1, mF_eq, mT_eq, mT_lt, mF_le, lm1, rd_nI, wr_nI, cl_nI, pk_us, un_ne, pk_uLs, uL_ne, zI_uI, zI_uJ, zI_uA, zI_uB, zI_uR, zI_uN, zJ_uI, zJ_uJ, zJ_uA, zJ_uB, zJ_uR, zJ_uN, zA_uI, zA_uJ, zA_uA, zA_uB, zA_uR, zA_uN, zB_uI, zB_uJ, zB_uA, zB_uB, zB_uR, zB_uN, zR_uI, zR_uJ, zR_uA, zR_uB, zR_uR, zR_uN, zN_uI, zN_uJ, zN_uA, zN_uB, zN_uR, zN_uN, zI_ne, zJ_ne, zA_ne, zB_ne, zR_ne, zN_ne, bi_T, bi_F, nz16, ↓reduceIte, not_true_eq_false, not_false_eq_true, Bool.false_eq_true, reduceCtorEq, hx1, hy1, hu, ite_self]
        · show fX12_sure σ p (nI x) (nI y) = _
          unfold fX12_sure
          simp (disch := omega) only [l0, l1, l2, l3, l4, l5, l6, l7, l8, l9, l10, l11, l12, l16, l18, l19, l20, l21, l24, l96, l128, l100, l144, l200, l256, l288, l1536, l1728, l1800, bnd, nI_add, pk_mul, pI_sub, pI_m1, pT_le, pF_le, pT_lt, pF_lt, pT_eq, pF_eq, pF_m1, mF_eq, mT_eq, mT_lt, mF_le, lm1, rd_nI, wr_nI, cl_nI, pk_us, un_ne, pk_uLs, uL_ne, zI_uI, zI_uJ, zI_uA, zI_uB, zI_uR, zI_uN, zJ_uI, zJ_uJ, zJ_uA, zJ_uB, zJ_uR, zJ_uN, zA_uI, zA_uJ, zA_uA, zA_uB, zA_uR, zA_uN, zB_uI, zB_uJ, zB_uA, zB_uB, zB_uR, zB_uN, zR_uI, zR_uJ, zR_uA, zR_uB, zR_uR, zR_uN, zN_uI, zN_uJ, zN_uA, zN_uB, zN_uR, zN_uN, zI_ne, zJ_ne, zA_ne, zB_ne, zR_ne, zN_ne, bi_T, bi_F, nz16, ↓reduceIte, not_true_eq_false, not_false_eq_true, Bool.false_eq_true, reduceCtorEq, em1]
    · have ea := (e2 σ (SE.rf σ)).1
      have em := m_isOfNo (q := p) (e2 (uI σ 30 (nI 0)) s3).2
      have hx1 := (e1 σ (SE.rf σ)).1
      refine B3.no hH hA (-2) ?_ ?_
      · unfold fX11_sure
        simp (disch := omega) only [l0, l1, l2, l3, l4, l5, l6, l7, l8, l9, l10, l11, l12, l16, l18, l19, l20, l21, l24, l96, l128, l100, l144, l200, l256, l288, l1536, l1728, l1800, bnd, nI_add, pk_mul, pI_sub, pI_m1, pT_le, pF_le, pT_lt, pF_lt, pT_eq, pF_eq, pF_m1, mF_eq, mT_eq, mT_lt, mF_le, lm1, rd_nI, wr_nI, cl_nI, pk_us, un_ne, pk_uLs, uL_ne, zI_uI, zI_uJ, zI_uA, zI_uB, zI_uR, zI_uN, zJ_uI, zJ_uJ, zJ_uA, zJ_uB, zJ_uR, zJ_uN, zA_uI, zA_uJ, zA_uA, zA_uB, zA_uR, zA_uN, zB_uI, zB_uJ, zB_uA, zB_uB, zB_uR, zB_uN, zR_uI, zR_uJ, zR_uA, zR_uB, zR_uR, zR_uN, zN_uI, zN_uJ, zN_uA, zN_uB, zN_uR, zN_uN, zI_ne, zJ_ne, zA_ne, zB_ne, zR_ne, zN_ne, bi_T, bi_F, nz16, ↓reduceIte, not_true_eq_false, not_false_eq_true, Bool.false_eq_true, reduceCtorEq, hx1, ea, ite_self]
      · show fX12_sure σ p (nI x) w = _
        unfold fX12_sure
        have tri : ∃ u, fX12_isOf (uI σ 30 (nI 0)) (nI x) p = some u := by
          rcases i32_of p with hp | ⟨k, hk, rfl⟩
          · exact ⟨_, m_isOfNo2 (e1 (uI σ 30 (nI 0)) s3).2 (m_allN hp)⟩
          · exact ⟨_, m_isOf h.1 R3.2.2.1 hk (by omega)⟩
        obtain ⟨u, hu⟩ := tri
        cases u with
        | true => simp (disch := omega) only [l0, l1, l2, l3, l4, l5, l6, l7, l8, l9, l10, l11, l12, l16, l18, l19, l20, l21, l24, l96, l128, l100, l144, l200, l256, l288, l1536, l1728, l1800, bnd, nI_add, pk_mul, pI_sub, pI_m1, pT_le, pF_le, pT_lt, pF_lt, pT_eq, pF_eq, pF_m1, mF_eq, mT_eq, mT_lt, mF_le, lm1, rd_nI, wr_nI, cl_nI, pk_us, un_ne, pk_uLs, uL_ne, zI_uI, zI_uJ, zI_uA, zI_uB, zI_uR, zI_uN, zJ_uI, zJ_uJ, zJ_uA, zJ_uB, zJ_uR, zJ_uN, zA_uI, zA_uJ, zA_uA, zA_uB, zA_uR, zA_uN, zB_uI, zB_uJ, zB_uA, zB_uB, zB_uR, zB_uN, zR_uI, zR_uJ, zR_uA, zR_uB, zR_uR, zR_uN, zN_uI, zN_uJ, zN_uA, zN_uB, zN_uR, zN_uN, zI_ne, zJ_ne, zA_ne, zB_ne, zR_ne, zN_ne, bi_T, bi_F, nz16, ↓reduceIte, not_true_eq_false, not_false_eq_true, Bool.false_eq_true, reduceCtorEq, hu, em]
        | false => simp (disch := omega) only [l0, l1, l2, l3, l4, l5, l6, l7, l8, l9, l10, l11, l12, l16, l18, l19, l20, l21, l24, l96, l128, l100, l144, l200, l256, l288, l1536, l1728, l1800, bnd, nI_add, pk_mul, pI_sub, pI_m1, pT_le, pF_le, pT_lt, pF_lt, pT_eq, pF_eq, pF_m1, mF_eq, mT_eq, mT_lt, mF_le, lm1, rd_nI, wr_nI, cl_nI, pk_us, un_ne, pk_uLs, uL_ne, zI_uI, zI_uJ, zI_uA, zI_uB, zI_uR, zI_uN, zJ_uI, zJ_uJ, zJ_uA, zJ_uB, zJ_uR, zJ_uN, zA_uI, zA_uJ, zA_uA, zA_uB, zA_uR, zA_uN, zB_uI, zB_uJ, zB_uA, zB_uB, zB_uR, zB_uN, zR_uI, zR_uJ, zR_uA, zR_uB, zR_uR, zR_uN, zN_uI, zN_uJ, zN_uA, zN_uB, zN_uR, zN_uN, zI_ne, zJ_ne, zA_ne, zB_ne, zR_ne, zN_ne, bi_T, bi_F, nz16, ↓reduceIte, not_true_eq_false, not_false_eq_true, Bool.false_eq_true, reduceCtorEq, hu]
  · have ea := (e1 σ (SE.rf σ)).1
    have em := m_isOfNo (q := p) (e1 (uI σ 30 (nI 0)) s3).2
    refine B3.no hH hA (-2) ?_ ?_
    · unfold fX11_sure
      simp (disch := omega) only [l0, l1, l2, l3, l4, l5, l6, l7, l8, l9, l10, l11, l12, l16, l18, l19, l20, l21, l24, l96, l128, l100, l144, l200, l256, l288, l1536, l1728, l1800, bnd, nI_add, pk_mul, pI_sub, pI_m1, pT_le, pF_le, pT_lt, pF_lt, pT_eq, pF_eq, pF_m1, mF_eq, mT_eq, mT_lt, mF_le, lm1, rd_nI, wr_nI, cl_nI, pk_us, un_ne, pk_uLs, uL_ne, zI_uI, zI_uJ, zI_uA, zI_uB, zI_uR, zI_uN, zJ_uI, zJ_uJ, zJ_uA, zJ_uB, zJ_uR, zJ_uN, zA_uI, zA_uJ, zA_uA, zA_uB, zA_uR, zA_uN, zB_uI, zB_uJ, zB_uA, zB_uB, zB_uR, zB_uN, zR_uI, zR_uJ, zR_uA, zR_uB, zR_uR, zR_uN, zN_uI, zN_uJ, zN_uA, zN_uB, zN_uR, zN_uN, zI_ne, zJ_ne, zA_ne, zB_ne, zR_ne, zN_ne, bi_T, bi_F, nz16, ↓reduceIte, not_true_eq_false, not_false_eq_true, Bool.false_eq_true, reduceCtorEq, ea, ite_self]
    · show fX12_sure σ p q w = _
      unfold fX12_sure
      simp (disch := omega) only [l0, l1, l2, l3, l4, l5, l6, l7, l8, l9, l10, l11, l12, l16, l18, l19, l20, l21, l24, l96, l128, l100, l144, l200, l256, l288, l1536, l1728, l1800, bnd, nI_add, pk_mul, pI_sub, pI_m1, pT_le, pF_le, pT_lt, pF_lt, pT_eq, pF_eq, pF_m1, mF_eq, mT_eq, mT_lt, mF_le, lm1, rd_nI, wr_nI, cl_nI, pk_us, un_ne, pk_uLs, uL_ne, zI_uI, zI_uJ, zI_uA, zI_uB, zI_uR, zI_uN, zJ_uI, zJ_uJ, zJ_uA, zJ_uB, zJ_uR, zJ_uN, zA_uI, zA_uJ, zA_uA, zA_uB, zA_uR, zA_uN, zB_uI, zB_uJ, zB_uA, zB_uB, zB_uR, zB_uN, zR_uI, zR_uJ, zR_uA, zR_uB, zR_uR, zR_uN, zN_uI, zN_uJ, zN_uA, zN_uB, zN_uR, zN_uN, zI_ne, zJ_ne, zA_ne, zB_ne, zR_ne, zN_ne, bi_T, bi_F, nz16, ↓reduceIte, not_true_eq_false, not_false_eq_true, Bool.false_eq_true, reduceCtorEq, em]
