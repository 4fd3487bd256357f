/-! the model reads a plot: all scenes; fault and text of a plot *-/
theorem m_readPlot {σ : St} {bs : List Nat} {plot : Nat} (h31 : zI σ 31 = nI bs.length) (h55 : hB (zA σ 55) bs) (hl : bs.length ≤ 200) (hb : ∀ b, b ∈ bs → 1 ≤ b ∧ b < 256) (hr : plot ≤ 4) : ∃ υ, FR [67, 68] [] [35, 36, 37, 38] [] (uR σ 3 55) υ ∧ on1 σ υ 67 plot ∧ onm σ υ 68 20 plot ∧ fX12_readPlot σ (nI plot) = some υ ∧ zI υ 38 = fx (pPlot bs).2 ∧ (fx (pPlot bs).2 = mI → zA υ 67 plot = nI (pPlot bs).1.length ∧ 1 ≤ (pPlot bs).1.length ∧ (pPlot bs).1.length ≤ 20 ∧ ∀ k, k < (pPlot bs).1.length → zA υ 68 (20 * plot + k) = nI ((pPlot bs).1.getD k 0) ∧ 0 < (pPlot bs).1.getD k 0 ∧ (pPlot bs).1.getD k 0 < 1024) := by
  obtain ⟨s0, hs0⟩ : ∃ s0, s0 = uI (uI (uI (uI (uR σ 3 55) 35 (nI 0)) 36 (nI bs.length)) 37 (nI 0)) 38 mI := ⟨_, rfl⟩
  obtain ⟨s2, hs2⟩ : ∃ s2, s2 = uA s0 67 (upd (zA s0 67) plot (nI 0)) := ⟨_, rfl⟩
  have hF2 : FR [67] [] [35, 36, 37, 38] [] (uR σ 3 55) s2 := by
    rw [hs2, hs0]
    exact FR.uA (FR.uI (FR.uI (FR.uI (FR.uI (FR.rf _ _ _ _ _) (by decide)) (by decide)) (by decide)) (by decide)) (by decide)
  have hM2 : MX s2 55 0 bs 0 := by
    rw [hs2, hs0]
    refine ⟨?_, .inl ⟨rfl, by omega⟩, ?_, ?_, ?_, ?_, fun j hj => ?_, Nat.zero_le _, hl, hb⟩
    · simp (disch := omega) only [l0, l1, l2, l3, l4, l5, l6, l7, l8, l9, l10, l11, l12, l16, l18, l19, l20, l21, l24, l96, l128, l100, l144, l200, l256, l288, l1536, l1728, l1800, bnd, nI_add, pk_mul, pI_sub, pI_m1, pT_le, pF_le, pT_lt, pF_lt, pT_eq, pF_eq, pF_m1, mF_eq, mT_eq, mT_lt, mF_le, lm1, rd_nI, wr_nI, cl_nI, pk_us, un_ne, pk_uLs, uL_ne, zI_uI, zI_uJ, zI_uA, zI_uB, zI_uR, zI_uN, zJ_uI, zJ_uJ, zJ_uA, zJ_uB, zJ_uR, zJ_uN, zA_uI, zA_uJ, zA_uA, zA_uB, zA_uR, zA_uN, zB_uI, zB_uJ, zB_uA, zB_uB, zB_uR, zB_uN, zR_uI, zR_uJ, zR_uA, zR_uB, zR_uR, zR_uN, zN_uI, zN_uJ, zN_uA, zN_uB, zN_uR, zN_uN, zI_ne, zJ_ne, zA_ne, zB_ne, zR_ne, zN_ne, bi_T, bi_F, nz16, ↓reduceIte, not_true_eq_false, not_false_eq_true, Bool.false_eq_true, reduceCtorEq]
    · simp (disch := omega) only [l0, l1, l2, l3, l4, l5, l6, l7, l8, l9, l10, l11, l12, l16, l18, l19, l20, l21, l24, l96, l128, l100, l144, l200, l256, l288, l1536, l1728, l1800, bnd, nI_add, pk_mul, pI_sub, pI_m1, pT_le, pF_le, pT_lt, pF_lt, pT_eq, pF_eq, pF_m1, mF_eq, mT_eq, mT_lt, mF_le, lm1, rd_nI, wr_nI, cl_nI, pk_us, un_ne, pk_uLs, uL_ne, zI_uI, zI_uJ, zI_uA, zI_uB, zI_uR, zI_uN, zJ_uI, zJ_uJ, zJ_uA, zJ_uB, zJ_uR, zJ_uN, zA_uI, zA_uJ, zA_uA, zA_uB, zA_uR, zA_uN, zB_uI, zB_uJ, zB_uA, zB_uB, zB_uR, zB_uN, zR_uI, zR_uJ, zR_uA, zR_uB, zR_uR, zR_uN, zN_uI, zN_uJ, zN_uA, zN_uB, zN_uR, zN_uN, zI_ne, zJ_ne, zA_ne, zB_ne, zR_ne, zN_ne, bi_T, bi_F, nz16, ↓reduceIte, not_true_eq_false, not_false_eq_true, Bool.false_eq_true, reduceCtorEq]
    · simp (disch := omega) only [l0, l1, l2, l3, l4, l5, l6, l7, l8, l9, l10, l11, l12, l16, l18, l19, l20, l21, l24, l96, l128, l100, l144, l200, l256, l288, l1536, l1728, l1800, bnd, nI_add, pk_mul, pI_sub, pI_m1, pT_le, pF_le, pT_lt, pF_lt, pT_eq, pF_eq, pF_m1, mF_eq, mT_eq, mT_lt, mF_le, lm1, rd_nI, wr_nI, cl_nI, pk_us, un_ne, pk_uLs, uL_ne, zI_uI, zI_uJ, zI_uA, zI_uB, zI_uR, zI_uN, zJ_uI, zJ_uJ, zJ_uA, zJ_uB, zJ_uR, zJ_uN, zA_uI, zA_uJ, zA_uA, zA_uB, zA_uR, zA_uN, zB_uI, zB_uJ, zB_uA, zB_uB, zB_uR, zB_uN, zR_uI, zR_uJ, zR_uA, zR_uB, zR_uR, zR_uN, zN_uI, zN_uJ, zN_uA, zN_uB, zN_uR, zN_uN, zI_ne, zJ_ne, zA_ne, zB_ne, zR_ne, zN_ne, bi_T, bi_F, nz16, ↓reduceIte, not_true_eq_false, not_false_eq_true, Bool.false_eq_true, reduceCtorEq]
    · simp (disch := omega) only [l0, l1, l2, l3, l4, l5, l6, l7, l8, l9, l10, l11, l12, l16, l18, l19, l20, l21, l24, l96, l128, l100, l144, l200, l256, l288, l1536, l1728, l1800, bnd, nI_add, pk_mul, pI_sub, pI_m1, pT_le, pF_le, pT_lt, pF_lt, pT_eq, pF_eq, pF_m1, mF_eq, mT_eq, mT_lt, mF_le, lm1, rd_nI, wr_nI, cl_nI, pk_us, un_ne, pk_uLs, uL_ne, zI_uI, zI_uJ, zI_uA, zI_uB, zI_uR, zI_uN, zJ_uI, zJ_uJ, zJ_uA, zJ_uB, zJ_uR, zJ_uN, zA_uI, zA_uJ, zA_uA, zA_uB, zA_uR, zA_uN, zB_uI, zB_uJ, zB_uA, zB_uB, zB_uR, zB_uN, zR_uI, zR_uJ, zR_uA, zR_uB, zR_uR, zR_uN, zN_uI, zN_uJ, zN_uA, zN_uB, zN_uR, zN_uN, zI_ne, zJ_ne, zA_ne, zB_ne, zR_ne, zN_ne, bi_T, bi_F, nz16, ↓reduceIte, not_true_eq_false, not_false_eq_true, Bool.false_eq_true, reduceCtorEq]
    · simp (disch := omega) only [l0, l1, l2, l3, l4, l5, l6, l7, l8, l9, l10, l11, l12, l16, l18, l19, l20, l21, l24, l96, l128, l100, l144, l200, l256, l288, l1536, l1728, l1800, bnd, nI_add, pk_mul, pI_sub, pI_m1, pT_le, pF_le, pT_lt, pF_lt, pT_eq, pF_eq, pF_m1, mF_eq, mT_eq, mT_lt, mF_le, lm1, rd_nI, wr_nI, cl_nI, pk_us, un_ne, pk_uLs, uL_ne, zI_uI, zI_uJ, zI_uA, zI_uB, zI_uR, zI_uN, zJ_uI, zJ_uJ, zJ_uA, zJ_uB, zJ_uR, zJ_uN, zA_uI, zA_uJ, zA_uA, zA_uB, zA_uR, zA_uN, zB_uI, zB_uJ, zB_uA, zB_uB, zB_uR, zB_uN, zR_uI, zR_uJ, zR_uA, zR_uB, zR_uR, zR_uN, zN_uI, zN_uJ, zN_uA, zN_uB, zN_uR, zN_uN, zI_ne, zJ_ne, zA_ne, zB_ne, zR_ne, zN_ne, bi_T, bi_F, nz16, ↓reduceIte, not_true_eq_false, not_false_eq_true, Bool.false_eq_true, reduceCtorEq]
    · rw [zA_ne (by decide)]
      rw [Nat.zero_add]
      exact h55 j hj
  have h67 : zA s2 67 = upd (zA σ 67) plot (nI 0) := by rw [hs2, zA_uA, hs0]; rfl
  have hbeg : fX12_begin_55 σ (nI 0) (zI σ 31) = some s0 := by unfold fX12_begin_55; rw [h31, hs0]; rfl
  have key := it_for (β := St × Bool × Nat × List Nat) (body := fun (kb : (St × Int32) → Option St) (t : St × Int32) => fX12_readPlot_L22 (nI plot) (fun s22 => (fX12_fails s22).bind fun r23 => some r23.2) (fun s24 => (fX12_fails s24).bind fun r25 => some r25.2) (fun σ v2 => kb (σ, v2)) t.1 t.2) 20 (by omega) (fun i b => (b.1, (if b.2.1 = true then nI 1 else nI 0))) (fun i b => b.2.2.2.length = i ∧ FR [67, 68] [] [35, 36, 37, 38] [] (uR σ 3 55) b.1 ∧ zA b.1 67 = upd (zA σ 67) plot (nI i) ∧ onm σ b.1 68 20 plot ∧ MX b.1 55 0 bs b.2.2.1 ∧ (∀ k, k < i → zA b.1 68 (20 * plot + k) = nI (b.2.2.2.getD k 0) ∧ 0 < b.2.2.2.getD k 0 ∧ b.2.2.2.getD k 0 < 1024) ∧ (b.2.1 = true → i < 20 ∧ pPlot bs = (b.2.2.2 ++ (pPl (20 - i) (.inr (tkR Jp 0 gp bs b.2.2.1))).1, (pPl (20 - i) (.inr (tkR Jp 0 gp bs b.2.2.1))).2)) ∧ (b.2.1 = false → 1 ≤ i ∧ pPlot bs = (b.2.2.2, .inr (tkR Jp 0 gp bs b.2.2.1)) ∧ (hd (tkR Jp 0 gp bs b.2.2.1)).1 = 256)) (fun i b z => ∃ υ, FR [67, 68] [] [35, 36, 37, 38] [] (uR σ 3 55) υ ∧ on1 σ υ 67 plot ∧ onm σ υ 68 20 plot ∧ z = some υ ∧ zI υ 38 = fx (pPlot bs).2 ∧ (fx (pPlot bs).2 = mI → zA υ 67 plot = nI (pPlot bs).1.length ∧ 1 ≤ (pPlot bs).1.length ∧ (pPlot bs).1.length ≤ 20 ∧ ∀ k, k < (pPlot bs).1.length → zA υ 68 (20 * plot + k) = nI ((pPlot bs).1.getD k 0) ∧ 0 < (pPlot bs).1.getD k 0 ∧ (pPlot bs).1.getD k 0 < 1024)) ?_ 0 (s2, true, 0, []) (Nat.zero_le _) ⟨rfl, hF2.mono (by decide) (by decide) (by decide) (by decide), h67, (fun j _ => by rw [hF2.1 68 (by decide)]; rfl), hM2, (fun k hk => absurd hk (Nat.not_lt_zero _)), fun _ => ⟨by decide, rfl⟩, fun e => by cases e⟩
  · obtain ⟨υ, h1, h2, h3, h4, h5, h6⟩ := key
    refine ⟨υ, h1, h2, h3, ?_, h5, h6⟩
    rw [← h4, hs2]
    unfold fX12_readPlot
    simp (disch := omega) only [l0, l1, l2, l3, l4, l5, l6, l7, l8, l9, l10, l11, l12, l16, l18, l19, l20, l21, l24, l96, l128, l100, l144, l200, l256, l288, l1536, l1728, l1800, bnd, nI_add, pk_mul, pI_sub, pI_m1, pT_le, pF_le, pT_lt, pF_lt, pT_eq, pF_eq, pF_m1, mF_eq, mT_eq, mT_lt, mF_le, lm1, rd_nI, wr_nI, cl_nI, pk_us, un_ne, pk_uLs, uL_ne, zI_uI, zI_uJ, zI_uA, zI_uB, zI_uR, zI_uN, zJ_uI, zJ_uJ, zJ_uA, zJ_uB, zJ_uR, zJ_uN, zA_uI, zA_uJ, zA_uA, zA_uB, zA_uR, zA_uN, zB_uI, zB_uJ, zB_uA, zB_uB, zB_uR, zB_uN, zR_uI, zR_uJ, zR_uA, zR_uB, zR_uR, zR_uN, zN_uI, zN_uJ, zN_uA, zN_uB, zN_uR, zN_uN, zI_ne, zJ_ne, zA_ne, zB_ne, zR_ne, zN_ne, bi_T, bi_F, nz16, ↓reduceIte, not_true_eq_false, not_false_eq_true, Bool.false_eq_true, reduceCtorEq, hbeg]
    rfl
  · rintro i ⟨y, more, p, l⟩ hi ⟨jl, jF, j67, j68, jM, jR, jt, jf⟩ kb hkb
    have hgl : l.length = i := jl
    have hF : FR [67, 68] [] [35, 36, 37, 38] [] (uR σ 3 55) y := jF
    have h67 : zA y 67 = upd (zA σ 67) plot (nI i) := j67
    have h68 : onm σ y 68 20 plot := j68
    have hM : MX y 55 0 bs p := jM
    have hR : ∀ k, k < i → zA y 68 (20 * plot + k) = nI (l.getD k 0) ∧ 0 < l.getD k 0 ∧ l.getD k 0 < 1024 := jR
    have ht : more = true → i < 20 ∧ pPlot bs = (l ++ (pPl (20 - i) (.inr (tkR Jp 0 gp bs p))).1, (pPl (20 - i) (.inr (tkR Jp 0 gp bs p))).2) := jt
    have hf : more = false → 1 ≤ i ∧ pPlot bs = (l, .inr (tkR Jp 0 gp bs p)) ∧ (hd (tkR Jp 0 gp bs p)).1 = 256 := jf
    clear jl jF j67 j68 jM jR jt jf
    show ∃ υ, _ ∧ _ ∧ _ ∧ fX12_readPlot_L22 (nI plot) _ _ (fun σ v2 => kb (σ, v2)) y (if more = true then nI 1 else nI 0) = some υ ∧ _
    have o67 : ∀ w : St, zA w 67 = zA y 67 → on1 σ w 67 plot := fun w hw j hj => by rw [hw, h67, un_ne hj]
    cases hm : more with
    | false =>
      obtain ⟨hi1, hp, he⟩ := hf hm
      have hfx : fx (pPlot bs).2 = mI := by
        rw [hp]
        exact if_pos he
      rw [if_neg (by decide)]
      refine ⟨y, hF, o67 y rfl, h68, ?_, ?_, fun _ => ?_⟩
      · unfold fX12_readPlot_L22
        simp (disch := omega) only [l0, l1, l2, l3, l4, l5, l6, l7, l8, l9, l10, l11, l12, l16, l18, l19, l20, l21, l24, l96, l128, l100, l144, l200, l256, l288, l1536, l1728, l1800, bnd, nI_add, pk_mul, pI_sub, pI_m1, pT_le, pF_le, pT_lt, pF_lt, pT_eq, pF_eq, pF_m1, mF_eq, mT_eq, mT_lt, mF_le, lm1, rd_nI, wr_nI, cl_nI, pk_us, un_ne, pk_uLs, uL_ne, zI_uI, zI_uJ, zI_uA, zI_uB, zI_uR, zI_uN, zJ_uI, zJ_uJ, zJ_uA, zJ_uB, zJ_uR, zJ_uN, zA_uI, zA_uJ, zA_uA, zA_uB, zA_uR, zA_uN, zB_uI, zB_uJ, zB_uA, zB_uB, zB_uR, zB_uN, zR_uI, zR_uJ, zR_uA, zR_uB, zR_uR, zR_uN, zN_uI, zN_uJ, zN_uA, zN_uB, zN_uR, zN_uN, zI_ne, zJ_ne, zA_ne, zB_ne, zR_ne, zN_ne, bi_T, bi_F, nz16, ↓reduceIte, not_true_eq_false, not_false_eq_true, Bool.false_eq_true, reduceCtorEq]
      · rw [hfx]; exact hM.2.2.2.2.2.1
      · rw [hp]
        show zA y 67 plot = nI l.length ∧ 1 ≤ l.length ∧ l.length ≤ 20 ∧ ∀ k, k < l.length → zA y 68 (20 * plot + k) = nI (l.getD k 0) ∧ 0 < l.getD k 0 ∧ l.getD k 0 < 1024
        rw [hgl]
        exact ⟨by rw [h67, pk_us], hi1, hi, hR⟩
    | true =>
      obtain ⟨hi2, hp⟩ := ht hm
      rw [show 20 - i = (20 - (i + 1)) + 1 by omega] at hp
      obtain ⟨p', y2, g1, g2, g3, g4, g5, g6, g7⟩ := m_look hM
      have et : tkR Jp 0 gp bs p = tkR Jp 0 gp bs p' := g6 Jp 0 gp (by decide)
      rw [et] at hp
      have ep : pPl (20 - (i + 1) + 1) (.inr (tkR Jp 0 gp bs p')) = if 0 < 20 - (i + 1) ∧ tb 47 (pSc (.inr (tkR Jp 0 gp bs p'))).2 = true then ((pSc (.inr (tkR Jp 0 gp bs p'))).1 :: (pPl (20 - (i + 1)) (tlx (pSc (.inr (tkR Jp 0 gp bs p'))).2)).1, (pPl (20 - (i + 1)) (tlx (pSc (.inr (tkR Jp 0 gp bs p'))).2)).2) else ([(pSc (.inr (tkR Jp 0 gp bs p'))).1], (pSc (.inr (tkR Jp 0 gp bs p'))).2) := rfl
      rw [ep] at hp
      rw [if_pos rfl]
      obtain ⟨y3, p3, f1, f2, f3, f4⟩ := m_scene (v1 := nI plot) (fun s8 => (fX12_fails s8).bind fun r23 => some r23.2) (fun s9 x10 x11 => fX12_readPlot_J105 (fun s24 => (fX12_fails s24).bind fun r25 => some r25.2) (fun σ v2 => kb (σ, v2)) s9 (nI plot) x10 x11) g4 g5
      have e67 : zA y3 67 = zA y 67 := by rw [f1.1 67 (by decide), g3.1 67 (by decide)]
      have e68 : zA y3 68 = zA y 68 := by rw [f1.1 68 (by decide), g3.1 68 (by decide)]
      have hF3 : FR [67, 68] [] [35, 36, 37, 38] [] (uR σ 3 55) y3 := (hF.tr (g3.mono (by decide) (by decide) (by decide) (by decide))).tr (f1.mono (by decide) (by decide) (by decide) (by decide))
      have hpn := f2.2.2.2.2.2.2.2.1
      rcases f4 with ⟨b, q1, q2, q3, q4, q5⟩ | ⟨q1, q2, q3⟩
      · rw [q4] at hp
        obtain ⟨y4, hy4⟩ : ∃ y4, y4 = uA (uA y3 68 (upd (zA y3 68) (20 * plot + i) (nI b))) 67 (upd (zA y3 67) plot (nI (i + 1))) := ⟨_, rfl⟩
        have hF4 : FR [67, 68] [] [] [] y3 y4 := by rw [hy4]; exact FR.uA (FR.uA (FR.rf _ _ _ _ _) (by decide)) (by decide)
        have hM4 : MX y4 55 0 bs p3 := f2.fr hF4 (by decide) (by decide)
        have z67 : zA y4 67 = upd (zA σ 67) plot (nI (i + 1)) := by rw [hy4, zA_uA, e67, h67, un_un]
        have z68 : zA y4 68 = upd (zA y 68) (20 * plot + i) (nI b) := by rw [hy4, zA_ne (by decide), zA_uA, e68]
        have hR4 : ∀ k, k < i + 1 → zA y4 68 (20 * plot + k) = nI ((l ++ [b]).getD k 0) ∧ 0 < (l ++ [b]).getD k 0 ∧ (l ++ [b]).getD k 0 < 1024 := by
          intro k hk
          rw [z68]
          by_cases e : k = i
          · rw [e, pk_us, ← hgl, getD_snoc_eq']
            exact ⟨rfl, q2, q3⟩
          · rw [un_ne (by omega), getD_snoc_lt' (by omega)]
            exact hR k (by omega)
        have h684 : onm σ y4 68 20 plot := fun j hj => by rw [z68, un_ne (by omega)]; exact h68 j hj
        have hF5 : FR [67, 68] [] [35, 36, 37, 38] [] (uR σ 3 55) y4 := hF3.tr (hF4.mono (by decide) (by decide) (by decide) (by decide))
        have hll : (l ++ [b]).length = i + 1 := by rw [List.length_append, List.length_singleton, hgl]
        have r67 : zA y3 67 plot = nI i := by rw [e67, h67, pk_us]
        obtain ⟨htp, htk⟩ := tk_p hb hpn f3
        rcases q5 with q5 | q5
        · rw [if_neg (fun hx => by have := of_decide_eq_true hx.2; omega)] at hp
          have hlk : lk bs p3 = mI := by
            rcases htk with ⟨r1, r2, r3⟩ | ⟨r1, r2, r3, r4, r5⟩
            · exact r3
            · omega
          obtain ⟨υ, a1, a2, a3, a4, a5, a6⟩ := hkb (y4, false, p3, l ++ [b]) hi2 ⟨hll, hF5, z67, h684, hM4, hR4, (fun e => by cases e), fun _ => ⟨by omega, hp, q5⟩⟩
          refine ⟨υ, a1, a2, a3, ?_, a5, a6⟩
          rw [← a4]
          unfold fX12_readPlot_L22
          simp (disch := omega) only [l0, l1, l2, l3, l4, l5, l6, l7, l8, l9, l10, l11, l12, l16, l18, l19, l20, l21, l24, l96, l128, l100, l144, l200, l256, l288, l1536, l1728, l1800, bnd, nI_add, pk_mul, pI_sub, pI_m1, pT_le, pF_le, pT_lt, pF_lt, pT_eq, pF_eq, pF_m1, mF_eq, mT_eq, mT_lt, mF_le, lm1, rd_nI, wr_nI, cl_nI, pk_us, un_ne, pk_uLs, uL_ne, zI_uI, zI_uJ, zI_uA, zI_uB, zI_uR, zI_uN, zJ_uI, zJ_uJ, zJ_uA, zJ_uB, zJ_uR, zJ_uN, zA_uI, zA_uJ, zA_uA, zA_uB, zA_uR, zA_uN, zB_uI, zB_uJ, zB_uA, zB_uB, zB_uR, zB_uN, zR_uI, zR_uJ, zR_uA, zR_uB, zR_uR, zR_uN, zN_uI, zN_uJ, zN_uA, zN_uB, zN_uR, zN_uN, zI_ne, zJ_ne, zA_ne, zB_ne, zR_ne, zN_ne, bi_T, bi_F, nz16, ↓reduceIte, not_true_eq_false, not_false_eq_true, Bool.false_eq_true, reduceCtorEq, g7]
          rw [q1, hlk]
          unfold fX12_readPlot_J105
          rw [hy4]
          simp (disch := omega) only [l0, l1, l2, l3, l4, l5, l6, l7, l8, l9, l10, l11, l12, l16, l18, l19, l20, l21, l24, l96, l128, l100, l144, l200, l256, l288, l1536, l1728, l1800, bnd, nI_add, pk_mul, pI_sub, pI_m1, pT_le, pF_le, pT_lt, pF_lt, pT_eq, pF_eq, pF_m1, mF_eq, mT_eq, mT_lt, mF_le, lm1, rd_nI, wr_nI, cl_nI, pk_us, un_ne, pk_uLs, uL_ne, zI_uI, zI_uJ, zI_uA, zI_uB, zI_uR, zI_uN, zJ_uI, zJ_uJ, zJ_uA, zJ_uB, zJ_uR, zJ_uN, zA_uI, zA_uJ, zA_uA, zA_uB, zA_uR, zA_uN, zB_uI, zB_uJ, zB_uA, zB_uB, zB_uR, zB_uN, zR_uI, zR_uJ, zR_uA, zR_uB, zR_uR, zR_uN, zN_uI, zN_uJ, zN_uA, zN_uB, zN_uR, zN_uN, zI_ne, zJ_ne, zA_ne, zB_ne, zR_ne, zN_ne, bi_T, bi_F, nz16, ↓reduceIte, not_true_eq_false, not_false_eq_true, Bool.false_eq_true, reduceCtorEq, r67, l47]
        · rcases htk with ⟨r1, r2, r3⟩ | ⟨r1, r2, r3, r4, r5⟩
          · omega
          · have hlk : lk bs p3 = nI 47 := by rw [r4, ← r2, q5]
            have t47 : tb 47 (.inr (tkR Jp 0 gp bs p3)) = true := decide_eq_true q5
            have h373 := f2.2.2.2.2.1
            by_cases hi20 : i + 1 = 20
            · rw [if_neg (fun hx => by omega)] at hp
              have hfx : fx (pPlot bs).2 = nI p3 := by
                rw [hp]
                show (if (hd (tkR Jp 0 gp bs p3)).1 = 256 then _ else _) = _
                rw [if_neg (by omega), htp]
              have hfl := m_fails hM4
              refine ⟨uI y4 38 (nI p3), FR.uI hF5 (by decide), fun j hj => by rw [zA_uI, z67, un_ne hj], h684, ?_, by rw [hfx, zI_uI], fun e => ?_⟩
              · unfold fX12_readPlot_L22
                simp (disch := omega) only [l0, l1, l2, l3, l4, l5, l6, l7, l8, l9, l10, l11, l12, l16, l18, l19, l20, l21, l24, l96, l128, l100, l144, l200, l256, l288, l1536, l1728, l1800, bnd, nI_add, pk_mul, pI_sub, pI_m1, pT_le, pF_le, pT_lt, pF_lt, pT_eq, pF_eq, pF_m1, mF_eq, mT_eq, mT_lt, mF_le, lm1, rd_nI, wr_nI, cl_nI, pk_us, un_ne, pk_uLs, uL_ne, zI_uI, zI_uJ, zI_uA, zI_uB, zI_uR, zI_uN, zJ_uI, zJ_uJ, zJ_uA, zJ_uB, zJ_uR, zJ_uN, zA_uI, zA_uJ, zA_uA, zA_uB, zA_uR, zA_uN, zB_uI, zB_uJ, zB_uA, zB_uB, zB_uR, zB_uN, zR_uI, zR_uJ, zR_uA, zR_uB, zR_uR, zR_uN, zN_uI, zN_uJ, zN_uA, zN_uB, zN_uR, zN_uN, zI_ne, zJ_ne, zA_ne, zB_ne, zR_ne, zN_ne, bi_T, bi_F, nz16, ↓reduceIte, not_true_eq_false, not_false_eq_true, Bool.false_eq_true, reduceCtorEq, g7]
                rw [q1, hlk]
                unfold fX12_readPlot_J105
                rw [hy4, hi20] at hfl
                rw [hy4, hi20]
                simp (disch := omega) only [l0, l1, l2, l3, l4, l5, l6, l7, l8, l9, l10, l11, l12, l16, l18, l19, l20, l21, l24, l96, l128, l100, l144, l200, l256, l288, l1536, l1728, l1800, bnd, nI_add, pk_mul, pI_sub, pI_m1, pT_le, pF_le, pT_lt, pF_lt, pT_eq, pF_eq, pF_m1, mF_eq, mT_eq, mT_lt, mF_le, lm1, rd_nI, wr_nI, cl_nI, pk_us, un_ne, pk_uLs, uL_ne, zI_uI, zI_uJ, zI_uA, zI_uB, zI_uR, zI_uN, zJ_uI, zJ_uJ, zJ_uA, zJ_uB, zJ_uR, zJ_uN, zA_uI, zA_uJ, zA_uA, zA_uB, zA_uR, zA_uN, zB_uI, zB_uJ, zB_uA, zB_uB, zB_uR, zB_uN, zR_uI, zR_uJ, zR_uA, zR_uB, zR_uR, zR_uN, zN_uI, zN_uJ, zN_uA, zN_uB, zN_uR, zN_uN, zI_ne, zJ_ne, zA_ne, zB_ne, zR_ne, zN_ne, bi_T, bi_F, nz16, ↓reduceIte, not_true_eq_false, not_false_eq_true, Bool.false_eq_true, reduceCtorEq, r67, l47, hi20, hfl]
              · rw [hfx, pF_m1 (by omega)] at e
                exact e.elim
            · rw [if_pos ⟨by omega, t47⟩] at hp
              have etl : tlx (.inr (tkR Jp 0 gp bs p3)) = .inr (tkR Jp 0 gp bs (p3 + 1)) := by
                show Sum.inr (tkR Jp 0 gp bs p3).tail = _
                rw [r5]
              rw [etl] at hp
              have hF6 : FR [] [] [37] [] y4 (uI y4 37 (nI (p3 + 1))) := FR.uI (FR.rf _ _ _ _ _) (by decide)
              obtain ⟨υ, a1, a2, a3, a4, a5, a6⟩ := hkb (uI y4 37 (nI (p3 + 1)), true, p3 + 1, l ++ [b]) hi2 ⟨hll, hF5.tr (hF6.mono (by decide) (by decide) (by decide) (by decide)), z67, h684, hM4.at r1, hR4, fun _ => ⟨by omega, by rw [hp, List.append_assoc]; rfl⟩, fun e => by cases e⟩
              refine ⟨υ, a1, a2, a3, ?_, a5, a6⟩
              rw [← a4]
              unfold fX12_readPlot_L22
              simp (disch := omega) only [l0, l1, l2, l3, l4, l5, l6, l7, l8, l9, l10, l11, l12, l16, l18, l19, l20, l21, l24, l96, l128, l100, l144, l200, l256, l288, l1536, l1728, l1800, bnd, nI_add, pk_mul, pI_sub, pI_m1, pT_le, pF_le, pT_lt, pF_lt, pT_eq, pF_eq, pF_m1, mF_eq, mT_eq, mT_lt, mF_le, lm1, rd_nI, wr_nI, cl_nI, pk_us, un_ne, pk_uLs, uL_ne, zI_uI, zI_uJ, zI_uA, zI_uB, zI_uR, zI_uN, zJ_uI, zJ_uJ, zJ_uA, zJ_uB, zJ_uR, zJ_uN, zA_uI, zA_uJ, zA_uA, zA_uB, zA_uR, zA_uN, zB_uI, zB_uJ, zB_uA, zB_uB, zB_uR, zB_uN, zR_uI, zR_uJ, zR_uA, zR_uB, zR_uR, zR_uN, zN_uI, zN_uJ, zN_uA, zN_uB, zN_uR, zN_uN, zI_ne, zJ_ne, zA_ne, zB_ne, zR_ne, zN_ne, bi_T, bi_F, nz16, ↓reduceIte, not_true_eq_false, not_false_eq_true, Bool.false_eq_true, reduceCtorEq, g7]
              rw [q1, hlk]
              unfold fX12_readPlot_J105
              rw [hy4]
              simp (disch := omega) only [l0, l1, l2, l3, l4, l5, l6, l7, l8, l9, l10, l11, l12, l16, l18, l19, l20, l21, l24, l96, l128, l100, l144, l200, l256, l288, l1536, l1728, l1800, bnd, nI_add, pk_mul, pI_sub, pI_m1, pT_le, pF_le, pT_lt, pF_lt, pT_eq, pF_eq, pF_m1, mF_eq, mT_eq, mT_lt, mF_le, lm1, rd_nI, wr_nI, cl_nI, pk_us, un_ne, pk_uLs, uL_ne, zI_uI, zI_uJ, zI_uA, zI_uB, zI_uR, zI_uN, zJ_uI, zJ_uJ, zJ_uA, zJ_uB, zJ_uR, zJ_uN, zA_uI, zA_uJ, zA_uA, zA_uB, zA_uR, zA_uN, zB_uI, zB_uJ, zB_uA, zB_uB, zB_uR, zB_uN, zR_uI, zR_uJ, zR_uA, zR_uB, zR_uR, zR_uN, zN_uI, zN_uJ, zN_uA, zN_uB, zN_uR, zN_uN, zI_ne, zJ_ne, zA_ne, zB_ne, zR_ne, zN_ne, bi_T, bi_F, nz16, ↓reduceIte, not_true_eq_false, not_false_eq_true, Bool.false_eq_true, reduceCtorEq, r67, l47, h373]
      · rw [if_neg (fun hx => by rw [q3] at hx; cases hx.2)] at hp
        have hfx : fx (pPlot bs).2 = nI p3 := by rw [hp]; exact q2
        have hfl := m_fails f2
        have h200 := f2.2.2.2.2.2.2.2.2.1
        refine ⟨uI y3 38 (nI p3), FR.uI hF3 (by decide), o67 _ e67, fun j hj => by rw [zA_uI, e68]; exact h68 j hj, ?_, by rw [hfx, zI_uI], fun e => ?_⟩
        · unfold fX12_readPlot_L22
          simp (disch := omega) only [l0, l1, l2, l3, l4, l5, l6, l7, l8, l9, l10, l11, l12, l16, l18, l19, l20, l21, l24, l96, l128, l100, l144, l200, l256, l288, l1536, l1728, l1800, bnd, nI_add, pk_mul, pI_sub, pI_m1, pT_le, pF_le, pT_lt, pF_lt, pT_eq, pF_eq, pF_m1, mF_eq, mT_eq, mT_lt, mF_le, lm1, rd_nI, wr_nI, cl_nI, pk_us, un_ne, pk_uLs, uL_ne, zI_uI, zI_uJ, zI_uA, zI_uB, zI_uR, zI_uN, zJ_uI, zJ_uJ, zJ_uA, zJ_uB, zJ_uR, zJ_uN, zA_uI, zA_uJ, zA_uA, zA_uB, zA_uR, zA_uN, zB_uI, zB_uJ, zB_uA, zB_uB, zB_uR, zB_uN, zR_uI, zR_uJ, zR_uA, zR_uB, zR_uR, zR_uN, zN_uI, zN_uJ, zN_uA, zN_uB, zN_uR, zN_uN, zI_ne, zJ_ne, zA_ne, zB_ne, zR_ne, zN_ne, bi_T, bi_F, nz16, ↓reduceIte, not_true_eq_false, not_false_eq_true, Bool.false_eq_true, reduceCtorEq, g7]
          rw [q1]
          simp (disch := omega) only [l0, l1, l2, l3, l4, l5, l6, l7, l8, l9, l10, l11, l12, l16, l18, l19, l20, l21, l24, l96, l128, l100, l144, l200, l256, l288, l1536, l1728, l1800, bnd, nI_add, pk_mul, pI_sub, pI_m1, pT_le, pF_le, pT_lt, pF_lt, pT_eq, pF_eq, pF_m1, mF_eq, mT_eq, mT_lt, mF_le, lm1, rd_nI, wr_nI, cl_nI, pk_us, un_ne, pk_uLs, uL_ne, zI_uI, zI_uJ, zI_uA, zI_uB, zI_uR, zI_uN, zJ_uI, zJ_uJ, zJ_uA, zJ_uB, zJ_uR, zJ_uN, zA_uI, zA_uJ, zA_uA, zA_uB, zA_uR, zA_uN, zB_uI, zB_uJ, zB_uA, zB_uB, zB_uR, zB_uN, zR_uI, zR_uJ, zR_uA, zR_uB, zR_uR, zR_uN, zN_uI, zN_uJ, zN_uA, zN_uB, zN_uR, zN_uN, zI_ne, zJ_ne, zA_ne, zB_ne, zR_ne, zN_ne, bi_T, bi_F, nz16, ↓reduceIte, not_true_eq_false, not_false_eq_true, Bool.false_eq_true, reduceCtorEq, hfl]
        · rw [hfx, pF_m1 (by omega)] at e
          exact e.elim
theorem sf_onP {σ τ : St} {A K : List Nat} (f : FR A [] K [] (uR σ 3 55) τ) (o : on1 σ τ 67 4) (o2 : onm σ τ 68 20 4) (hA : ∀ q, q ∈ A → q ∈ [67, 68]) (hK : ∀ q, q ∈ K → q ∉ pI) : SF σ τ := by
  have hn : ∀ q, q ∉ [67, 68] → zA τ q = zA σ q := fun q hq => f.1 q (fun x => hq (hA q x))
  refine ⟨fun q hq h2 => hn q (fun x => h2 ?_), fun q hq => f.2.1 q (by intro x; cases x), fun q hq => f.2.2.1 q (fun x => hK q x hq), ?_, fun r j => ?_, eqOn.of (hn 60 (by decide)), eqOn.of (hn 61 (by decide)), eqOn.of (hn 62 (by decide)), eqOn.of (hn 63 (by decide)), eqOn.of (hn 64 (by decide)), eqOn.of (hn 65 (by decide)), eqOn.of (hn 66 (by decide)), fun j hj => o j (by omega), fun j hj => o2 j (by omega), fun r k hk => by rw [hn 22 (by decide)]; exact r k hk⟩
  · simp only [List.mem_cons, List.not_mem_nil, or_false] at x ⊢
    omega
  · funext j
    exact f.2.2.2.1 j (by intro x; cases x)
  · rw [f.2.2.2.2]
    exact (rOk_uR (by decide) r) j
theorem m_fault1 {σ : St} {bs : List Nat} (h31 : zI σ 31 = nI bs.length) (h55 : hB (zA σ 55) bs) (hl : bs.length ≤ 200) (hb : ∀ b, b ∈ bs → 1 ≤ b ∧ b < 256) : ∃ υ, fX12_fault σ (nI 1) = some (fx (pPlot bs).2, υ) ∧ SF σ υ := by
  obtain ⟨υ, h5, h6, h7, h8, h9, h10⟩ := m_readPlot (σ := uI σ 30 (nI 0)) (plot := 4) h31 h55 hl hb (by decide)
  refine ⟨υ, ?_, (SF.of (se30 σ (nI 0))).tr (sf_onP h5 h6 h7 (by decide) (by decide))⟩
  have hin := m_isIn (a := 1) (b := 0) (c := 2) (by decide) (by decide) (by decide)
  rw [decide_eq_true (show 0 ≤ 1 ∧ 1 ≤ 2 by decide)] at hin
  unfold fX12_fault
  simp (disch := omega) only [l0, l1, l2, l3, l4, l5, l6, l7, l8, l9, l10, l11, l12, l16, l18, l19, l20, l21, l24, l96, l128, l100, l144, l200, l256, l288, l1536, l1728, l1800, bnd, nI_add, pk_mul, pI_sub, pI_m1, pT_le, pF_le, pT_lt, pF_lt, pT_eq, pF_eq, pF_m1, mF_eq, mT_eq, mT_lt, mF_le, lm1, rd_nI, wr_nI, cl_nI, pk_us, un_ne, pk_uLs, uL_ne, zI_uI, zI_uJ, zI_uA, zI_uB, zI_uR, zI_uN, zJ_uI, zJ_uJ, zJ_uA, zJ_uB, zJ_uR, zJ_uN, zA_uI, zA_uJ, zA_uA, zA_uB, zA_uR, zA_uN, zB_uI, zB_uJ, zB_uA, zB_uB, zB_uR, zB_uN, zR_uI, zR_uJ, zR_uA, zR_uB, zR_uR, zR_uN, zN_uI, zN_uJ, zN_uA, zN_uB, zN_uR, zN_uN, zI_ne, zJ_ne, zA_ne, zB_ne, zR_ne, zN_ne, bi_T, bi_F, nz16, ↓reduceIte, not_true_eq_false, not_false_eq_true, Bool.false_eq_true, reduceCtorEq, hin, h8, h9]
theorem t_fault_p {σ : St} {bs : List Nat} (h : TP σ bs) : ∃ τ υ, fX11_fault σ (nI 1) = some (fx (pPlot bs).2, τ) ∧ SE σ τ ∧ fX12_fault τ (nI 1) = some (fx (pPlot bs).2, υ) ∧ SF τ υ := by
  obtain ⟨τ, h1, h2, h3, h4⟩ := c_faultOf_p h.2.2.1 h.2.2.2.2.1 h.1 h.2.1
  have hse : SE σ τ := se_fr h1 (by decide) (by decide) (by decide) (by decide)
  have h' := h.se hse
  obtain ⟨υ, h5, h6⟩ := m_fault1 (σ := τ) h'.2.2.2.1 h'.2.2.2.2.2 h'.1 h'.2.1
  refine ⟨τ, υ, ?_, hse, h5, h6⟩
  unfold fX11_fault
  simp (disch := omega) only [l0, l1, l2, l3, l4, l5, l6, l7, l8, l9, l10, l11, l12, l16, l18, l19, l20, l21, l24, l96, l128, l100, l144, l200, l256, l288, l1536, l1728, l1800, bnd, nI_add, pk_mul, pI_sub, pI_m1, pT_le, pF_le, pT_lt, pF_lt, pT_eq, pF_eq, pF_m1, mF_eq, mT_eq, mT_lt, mF_le, lm1, rd_nI, wr_nI, cl_nI, pk_us, un_ne, pk_uLs, uL_ne, zI_uI, zI_uJ, zI_uA, zI_uB, zI_uR, zI_uN, zJ_uI, zJ_uJ, zJ_uA, zJ_uB, zJ_uR, zJ_uN, zA_uI, zA_uJ, zA_uA, zA_uB, zA_uR, zA_uN, zB_uI, zB_uJ, zB_uA, zB_uB, zB_uR, zB_uN, zR_uI, zR_uJ, zR_uA, zR_uB, zR_uR, zR_uN, zN_uI, zN_uJ, zN_uA, zN_uB, zN_uR, zN_uN, zI_ne, zJ_ne, zA_ne, zB_ne, zR_ne, zN_ne, bi_T, bi_F, nz16, ↓reduceIte, not_true_eq_false, not_false_eq_true, Bool.false_eq_true, reduceCtorEq, h2]
