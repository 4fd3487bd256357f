/-! the model reads a habit: sums, atoms *-/
theorem m_smS {q b0 N dp : Nat} {bs : List Nat} {e : En} {rec : St → Option (Int32 × St)} {s : Sx → Int × Sx} (hN201 : N ≤ 201) (hr0 : mOK q b0 bs e N dp rec s) (hg0 : gOK N s) : mOK q b0 bs e N dp (fun σ => fX12_sum_B rec σ) (smS s) := by
  have hr := m_tmS hN201 hr0 hg0
  have hg : gOK N (tmS s) := fun N' x hN hx => tmS_g hg0 x N' hN hx
  intro σ x N' hN hG hx h39
  obtain ⟨v0, υ0, h1, h2, h3⟩ := hr σ x N' hN hG hx h39
  obtain ⟨g1, g2⟩ := hg N' x hN hx
  have key := it_for (β := St × Int32 × Int × Sx × Nat) (body := fun (kb : (St × Int32) → Option (Int32 × St)) (t : St × Int32) => fX12_sum_L5 rec (fun σ v1 => kb (σ, v1)) t.1 t.2) 200 (by omega) (fun i b => (b.1, b.2.1)) (fun i b => smL (tmS s) 200 (tmS s x).1 (tmS s x).2 = smL (tmS s) (200 - i) b.2.2.1 b.2.2.2.1 ∧ b.2.2.2.2 ≤ N ∧ b.2.2.2.2 + i ≤ 201 ∧ gX b.2.2.2.2 b.2.2.2.1 ∧ bnd6 b.2.2.1 ∧ HM σ b.1 ∧ ((MG b.1 q b0 bs b.2.2.2.1 ∧ zI b.1 39 = nI dp ∧ (EM σ e → b.2.1 = iI b.2.2.1)) ∨ MB b.1 b.2.2.2.1)) (fun i b z => ∃ v υ, z = some (v, υ) ∧ HM σ υ ∧ ((MG υ q b0 bs (smL (tmS s) 200 (tmS s x).1 (tmS s x).2).2 ∧ zI υ 39 = nI dp ∧ (EM σ e → v = iI (smL (tmS s) 200 (tmS s x).1 (tmS s x).2).1)) ∨ MB υ (smL (tmS s) 200 (tmS s x).1 (tmS s x).2).2)) ?_ 0 (υ0, v0, (tmS s x).1, (tmS s x).2, N') (Nat.zero_le _) ⟨rfl, hN, (by show N' + 0 ≤ 201; omega), g1, g2, h2, h3⟩
  · obtain ⟨v, υ, k1, k2, k3⟩ := key
    refine ⟨v, υ, ?_, k2, k3⟩
    show fX12_sum_B rec σ = some (v, υ)
    unfold fX12_sum_B
    have h1 : fX12_term_B rec σ = some (v0, υ0) := h1
    rw [h1, bnd]
    exact k1
  · rintro i ⟨z, c, v, w, M⟩ hi ⟨jt, jN, jM, jx, jv, jF, jc⟩ kb hkb
    have ht : smL (tmS s) 200 (tmS s x).1 (tmS s x).2 = smL (tmS s) (200 - i) v w := jt
    have hM : M ≤ N := jN
    have hMi : M + i ≤ 201 := jM
    have hw : gX M w := jx
    have hv : bnd6 v := jv
    have hFz : HM σ z := jF
    have hcs : (MG z q b0 bs w ∧ zI z 39 = nI dp ∧ (EM σ e → c = iI v)) ∨ MB z w := jc
    clear jt jN jM jx jv jF jc
    show ∃ v' υ, fX12_sum_L5 rec (fun σ v1 => kb (σ, v1)) z c = _ ∧ _
    unfold fX12_sum_L5
    rcases hcs with ⟨hGz, h39z, hval⟩ | hB
    · have h38 := hGz.m1
      obtain ⟨p, y1, a1, a2, a3, a4, a5⟩ := m_lookS hGz
      have c42 := lk_sg (v := 43) a1 a3 (by decide) (by decide)
      rw [← a2] at c42
      have hG1 : MG y1 q b0 bs w := ⟨p, a1, a2⟩
      have h391 : zI y1 39 = nI dp := (a4.2.2.1 39 (by decide)).trans h39z
      obtain ⟨p2, y2, b1, b2, b3, b4, b5⟩ := m_lookS hG1
      have d42 := lk_sg (v := 43) b1 b3 (by decide) (by decide)
      rw [← b2] at d42
      have c47 := lk_sg (v := 45) b1 b3 (by decide) (by decide)
      rw [← b2] at c47
      have hG2 : MG y2 q b0 bs w := ⟨p2, b1, b2⟩
      have h392 : zI y2 39 = nI dp := (b4.2.2.1 39 (by decide)).trans h391
      have hF2 : HM σ y2 := (hFz.tr (HM.of a4 (by decide))).tr (HM.of b4 (by decide))
      have d1 := hv.1
      have d2 := hv.2
      by_cases h42 : sg w = 43
      · have hi200 : i < 200 := by
          apply Decidable.byContradiction
          intro hc
          have := gX_1 (gX_mono hw (show M ≤ 1 by omega))
          omega
        obtain ⟨n1, n2, n3, n4, n5⟩ := sg_next b1 b3 (by rw [← b2]; omega)
        rw [← b2] at n4
        have hw1 := gX_tl hw (by omega)
        have h39n : zI (uI y2 37 (nI (p2 + 1))) 39 = nI dp := by rw [zI_ne (by decide)]; exact h392
        obtain ⟨v', y3, r1, r2, r3⟩ := hr (uI y2 37 (nI (p2 + 1))) (tlx w) (M - 1) (by omega) ⟨p2 + 1, n5, n4⟩ hw1 h39n
        have r1 : fX12_term_B rec (uI y2 37 (nI (p2 + 1))) = some (v', y3) := r1
        obtain ⟨q1, q2⟩ := hg (M - 1) (tlx w) (by omega) hw1
        rw [show 200 - i = (200 - (i + 1)) + 1 by omega] at ht
        have ht : smL (tmS s) 200 (tmS s x).1 (tmS s x).2 = if sg w = 43 then smL (tmS s) (200 - (i + 1)) (cl6 (v + (tmS s (tlx w)).1)) (tmS s (tlx w)).2 else if sg w = 45 then smL (tmS s) (200 - (i + 1)) (cl6 (v - (tmS s (tlx w)).1)) (tmS s (tlx w)).2 else (v, w) := ht
        rw [if_pos h42] at ht
        have hF3 : HM σ y3 := (hF2.tr (FR.uI (FR.rf _ _ _ _ _) (by decide))).tr r2
        obtain ⟨c', hc1, hc2⟩ := b_tot (c.toInt64 + v'.toInt64)
        have d3 := q2.1
        have d4 := q2.2
        obtain ⟨v2, υ, k1, k2, k3⟩ := hkb (y3, c', cl6 (v + (tmS s (tlx w)).1), (tmS s (tlx w)).2, M - 1) hi200 ⟨ht, by show M - 1 ≤ N; omega, by show M - 1 + (i + 1) ≤ 201; omega, q1, cl6_b _, hF3, by
          rcases r3 with ⟨r3, r4, r5⟩ | r3
          · refine .inl ⟨r3, r4, fun hE => ?_⟩
            have e1 := hval hE
            have e2 := r5 (hE.fr (hF2.tr (FR.uI (FR.rf _ _ _ _ _) (by decide))))
            rw [e1, e2, iI_64 (by omega) (by omega), iI_64 (by omega) (by omega), iL_add hv q2] at hc1
            rw [c_bounded (by omega) (by omega)] at hc1
            exact (Option.some.inj hc1).symm
          · exact .inr r3⟩
        refine ⟨v2, υ, ?_, k2, k3⟩
        rw [← k1]
        have e1 := c42.mpr h42
        have e2 := d42.mpr h42
        have h372 := b1.2.2.2.2.1
        unfold fX12_sum_J31
        simp (disch := omega) only [l0, l1, l2, l3, l4, l5, l6, l7, l8, l9, l10, l11, l12, l16, l18, l19, l20, l21, l24, l96, l128, l100, l144, l200, l256, l288, l1536, l1728, l1800, bnd, nI_add, pk_mul, pI_sub, pI_m1, pT_le, pF_le, pT_lt, pF_lt, pT_eq, pF_eq, pF_m1, mF_eq, mT_eq, mT_lt, mF_le, lm1, rd_nI, wr_nI, cl_nI, pk_us, un_ne, pk_uLs, uL_ne, zI_uI, zI_uJ, zI_uA, zI_uB, zI_uR, zI_uN, zJ_uI, zJ_uJ, zJ_uA, zJ_uB, zJ_uR, zJ_uN, zA_uI, zA_uJ, zA_uA, zA_uB, zA_uR, zA_uN, zB_uI, zB_uJ, zB_uA, zB_uB, zB_uR, zB_uN, zR_uI, zR_uJ, zR_uA, zR_uB, zR_uR, zR_uN, zN_uI, zN_uJ, zN_uA, zN_uB, zN_uR, zN_uN, zI_ne, zJ_ne, zA_ne, zB_ne, zR_ne, zN_ne, bi_T, bi_F, nz16, ↓reduceIte, not_true_eq_false, not_false_eq_true, Bool.false_eq_true, reduceCtorEq, h38, mI_eq, a5, l43, e1, b5, e2, h372, r1, hc2]
      · by_cases h47 : sg w = 45
        · obtain ⟨p3, y3, f1, f2, f3, f4, f5⟩ := m_lookS hG2
          have f42 := lk_sg (v := 43) f1 f3 (by decide) (by decide)
          rw [← f2] at f42
          have hi200 : i < 200 := by
            apply Decidable.byContradiction
            intro hc
            have := gX_1 (gX_mono hw (show M ≤ 1 by omega))
            omega
          have h393 : zI y3 39 = nI dp := (f4.2.2.1 39 (by decide)).trans h392
          obtain ⟨n1, n2, n3, n4, n5⟩ := sg_next f1 f3 (by rw [← f2]; omega)
          rw [← f2] at n4
          have hw1 := gX_tl hw (by omega)
          have h39n : zI (uI y3 37 (nI (p3 + 1))) 39 = nI dp := by rw [zI_ne (by decide)]; exact h393
          obtain ⟨v', y4, r1, r2, r3⟩ := hr (uI y3 37 (nI (p3 + 1))) (tlx w) (M - 1) (by omega) ⟨p3 + 1, n5, n4⟩ hw1 h39n
          have r1 : fX12_term_B rec (uI y3 37 (nI (p3 + 1))) = some (v', y4) := r1
          obtain ⟨q1, q2⟩ := hg (M - 1) (tlx w) (by omega) hw1
          rw [show 200 - i = (200 - (i + 1)) + 1 by omega] at ht
          have ht : smL (tmS s) 200 (tmS s x).1 (tmS s x).2 = if sg w = 43 then smL (tmS s) (200 - (i + 1)) (cl6 (v + (tmS s (tlx w)).1)) (tmS s (tlx w)).2 else if sg w = 45 then smL (tmS s) (200 - (i + 1)) (cl6 (v - (tmS s (tlx w)).1)) (tmS s (tlx w)).2 else (v, w) := ht
          rw [if_neg h42, if_pos h47] at ht
          have hF3 : HM σ y3 := hF2.tr (HM.of f4 (by decide))
          have hF4 : HM σ y4 := (hF3.tr (FR.uI (FR.rf _ _ _ _ _) (by decide))).tr r2
          have e1 : ¬ lk bs p = nI 43 := fun h => h42 (c42.mp h)
          have e2 := c47.mpr h47
          have e3 : ¬ lk bs p3 = nI 43 := fun h => h42 (f42.mp h)
          have h373 := f1.2.2.2.2.1
          obtain ⟨c', hc1, hc2⟩ := b_tot (c.toInt64 - v'.toInt64)
          have d3 := q2.1
          have d4 := q2.2
          obtain ⟨v2, υ, k1, k2, k3⟩ := hkb (y4, c', cl6 (v - (tmS s (tlx w)).1), (tmS s (tlx w)).2, M - 1) hi200 ⟨ht, by show M - 1 ≤ N; omega, by show M - 1 + (i + 1) ≤ 201; omega, q1, cl6_b _, hF4, by
            rcases r3 with ⟨r3, r4, r5⟩ | r3
            · refine .inl ⟨r3, r4, fun hE => ?_⟩
              have e1 := hval hE
              have e2 := r5 (hE.fr (hF3.tr (FR.uI (FR.rf _ _ _ _ _) (by decide))))
              rw [e1, e2, iI_64 (by omega) (by omega), iI_64 (by omega) (by omega), iL_sub hv q2] at hc1
              rw [c_bounded (by omega) (by omega)] at hc1
              exact (Option.some.inj hc1).symm
            · exact .inr r3⟩
          refine ⟨v2, υ, ?_, k2, k3⟩
          rw [← k1]
          unfold fX12_sum_J31
          simp (disch := omega) only [l0, l1, l2, l3, l4, l5, l6, l7, l8, l9, l10, l11, l12, l16, l18, l19, l20, l21, l24, l96, l128, l100, l144, l200, l256, l288, l1536, l1728, l1800, bnd, nI_add, pk_mul, pI_sub, pI_m1, pT_le, pF_le, pT_lt, pF_lt, pT_eq, pF_eq, pF_m1, mF_eq, mT_eq, mT_lt, mF_le, lm1, rd_nI, wr_nI, cl_nI, pk_us, un_ne, pk_uLs, uL_ne, zI_uI, zI_uJ, zI_uA, zI_uB, zI_uR, zI_uN, zJ_uI, zJ_uJ, zJ_uA, zJ_uB, zJ_uR, zJ_uN, zA_uI, zA_uJ, zA_uA, zA_uB, zA_uR, zA_uN, zB_uI, zB_uJ, zB_uA, zB_uB, zB_uR, zB_uN, zR_uI, zR_uJ, zR_uA, zR_uB, zR_uR, zR_uN, zN_uI, zN_uJ, zN_uA, zN_uB, zN_uR, zN_uN, zI_ne, zJ_ne, zA_ne, zB_ne, zR_ne, zN_ne, bi_T, bi_F, nz16, ↓reduceIte, not_true_eq_false, not_false_eq_true, Bool.false_eq_true, reduceCtorEq, h38, mI_eq, a5, l43, if_neg e1, b5, l45, e2, f5, if_neg e3, h373, r1, hc2]
        · have he : smL (tmS s) (200 - i) v w = (v, w) := by
            cases 200 - i with
            | zero => rfl
            | succ n =>
              unfold smL
              rw [if_neg h42, if_neg h47]
          rw [he] at ht
          have e1 : ¬ lk bs p = nI 43 := fun h => h42 (c42.mp h)
          have e2 : ¬ lk bs p2 = nI 45 := fun h => h47 (c47.mp h)
          refine ⟨c, y2, ?_, hF2, .inl ⟨by rw [ht]; exact hG2, h392, fun hE => by rw [ht]; exact hval hE⟩⟩
          simp (disch := omega) only [l0, l1, l2, l3, l4, l5, l6, l7, l8, l9, l10, l11, l12, l16, l18, l19, l20, l21, l24, l96, l128, l100, l144, l200, l256, l288, l1536, l1728, l1800, bnd, nI_add, pk_mul, pI_sub, pI_m1, pT_le, pF_le, pT_lt, pF_lt, pT_eq, pF_eq, pF_m1, mF_eq, mT_eq, mT_lt, mF_le, lm1, rd_nI, wr_nI, cl_nI, pk_us, un_ne, pk_uLs, uL_ne, zI_uI, zI_uJ, zI_uA, zI_uB, zI_uR, zI_uN, zJ_uI, zJ_uJ, zJ_uA, zJ_uB, zJ_uR, zJ_uN, zA_uI, zA_uJ, zA_uA, zA_uB, zA_uR, zA_uN, zB_uI, zB_uJ, zB_uA, zB_uB, zB_uR, zB_uN, zR_uI, zR_uJ, zR_uA, zR_uB, zR_uR, zR_uN, zN_uI, zN_uJ, zN_uA, zN_uB, zN_uR, zN_uN, zI_ne, zJ_ne, zA_ne, zB_ne, zR_ne, zN_ne, bi_T, bi_F, nz16, ↓reduceIte, not_true_eq_false, not_false_eq_true, Bool.false_eq_true, reduceCtorEq, h38, mI_eq, a5, l43, if_neg e1, b5, l45, if_neg e2]
    · have h38 := hB.m1
      obtain ⟨f, hf1, hf2, hf3⟩ := hB
      rw [smL_flt hf1] at ht
      refine ⟨c, z, ?_, hFz, .inr ⟨f, by rw [ht]; exact hf1, hf2, hf3⟩⟩
      simp (disch := omega) only [l0, l1, l2, l3, l4, l5, l6, l7, l8, l9, l10, l11, l12, l16, l18, l19, l20, l21, l24, l96, l128, l100, l144, l200, l256, l288, l1536, l1728, l1800, bnd, nI_add, pk_mul, pI_sub, pI_m1, pT_le, pF_le, pT_lt, pF_lt, pT_eq, pF_eq, pF_m1, mF_eq, mT_eq, mT_lt, mF_le, lm1, rd_nI, wr_nI, cl_nI, pk_us, un_ne, pk_uLs, uL_ne, zI_uI, zI_uJ, zI_uA, zI_uB, zI_uR, zI_uN, zJ_uI, zJ_uJ, zJ_uA, zJ_uB, zJ_uR, zJ_uN, zA_uI, zA_uJ, zA_uA, zA_uB, zA_uR, zA_uN, zB_uI, zB_uJ, zB_uA, zB_uB, zB_uR, zB_uN, zR_uI, zR_uJ, zR_uA, zR_uB, zR_uR, zR_uN, zN_uI, zN_uJ, zN_uA, zN_uB, zN_uR, zN_uN, zI_ne, zJ_ne, zA_ne, zB_ne, zR_ne, zN_ne, bi_T, bi_F, nz16, ↓reduceIte, not_true_eq_false, not_false_eq_true, Bool.false_eq_true, reduceCtorEq, mI_eq, if_neg h38]
/-- goes in: one deeper, behind the sign *-/
theorem m_goesIn {σ : St} {q b0 p dp : Nat} {bs : List Nat} (hM : MX σ q b0 bs p) (h32 : p < bs.length → bs.getD p 0 ≠ 32) (h39 : zI σ 39 = nI dp) (hd : dp ≤ 6) (hs : sg (.inr (tkR Jh 4 gh bs p)) < 256) : (dp < 6 ∧ ∃ υ, fX12_goesIn σ = some (true, υ) ∧ MG υ q b0 bs (tlx (.inr (tkR Jh 4 gh bs p))) ∧ zI υ 39 = nI (dp + 1) ∧ HM σ υ) ∨ (dp = 6 ∧ ∃ υ, fX12_goesIn σ = some (false, υ) ∧ MB υ (slx (.inr (tkR Jh 4 gh bs p))) ∧ HM σ υ) := by
  obtain ⟨n1, n2, n3, n4, n5⟩ := sg_next hM h32 hs
  have h37 := hM.2.2.2.2.1
  by_cases h6 : dp < 6
  · left
    refine ⟨h6, uI (uI σ 39 (nI (dp + 1))) 37 (nI (p + 1)), ?_, ⟨p + 1, ?_, n4⟩, ?_, FR.uI (FR.uI (FR.rf _ _ _ _ _) (by decide)) (by decide)⟩
    · unfold fX12_goesIn
      simp (disch := omega) only [l0, l1, l2, l3, l4, l5, l6, l7, l8, l9, l10, l11, l12, l16, l18, l19, l20, l21, l24, l96, l128, l100, l144, l200, l256, l288, l1536, l1728, l1800, bnd, nI_add, pk_mul, pI_sub, pI_m1, pT_le, pF_le, pT_lt, pF_lt, pT_eq, pF_eq, pF_m1, mF_eq, mT_eq, mT_lt, mF_le, lm1, rd_nI, wr_nI, cl_nI, pk_us, un_ne, pk_uLs, uL_ne, zI_uI, zI_uJ, zI_uA, zI_uB, zI_uR, zI_uN, zJ_uI, zJ_uJ, zJ_uA, zJ_uB, zJ_uR, zJ_uN, zA_uI, zA_uJ, zA_uA, zA_uB, zA_uR, zA_uN, zB_uI, zB_uJ, zB_uA, zB_uB, zB_uR, zB_uN, zR_uI, zR_uJ, zR_uA, zR_uB, zR_uR, zR_uN, zN_uI, zN_uJ, zN_uA, zN_uB, zN_uR, zN_uN, zI_ne, zJ_ne, zA_ne, zB_ne, zR_ne, zN_ne, bi_T, bi_F, nz16, ↓reduceIte, not_true_eq_false, not_false_eq_true, Bool.false_eq_true, reduceCtorEq, h39, h37]
    · exact (hM.fr (FR.uI (FR.rf [] [] [39] [] _) (by decide)) (fun x => by cases x) (by decide)).at n1
    · simp (disch := omega) only [l0, l1, l2, l3, l4, l5, l6, l7, l8, l9, l10, l11, l12, l16, l18, l19, l20, l21, l24, l96, l128, l100, l144, l200, l256, l288, l1536, l1728, l1800, bnd, nI_add, pk_mul, pI_sub, pI_m1, pT_le, pF_le, pT_lt, pF_lt, pT_eq, pF_eq, pF_m1, mF_eq, mT_eq, mT_lt, mF_le, lm1, rd_nI, wr_nI, cl_nI, pk_us, un_ne, pk_uLs, uL_ne, zI_uI, zI_uJ, zI_uA, zI_uB, zI_uR, zI_uN, zJ_uI, zJ_uJ, zJ_uA, zJ_uB, zJ_uR, zJ_uN, zA_uI, zA_uJ, zA_uA, zA_uB, zA_uR, zA_uN, zB_uI, zB_uJ, zB_uA, zB_uB, zB_uR, zB_uN, zR_uI, zR_uJ, zR_uA, zR_uB, zR_uR, zR_uN, zN_uI, zN_uJ, zN_uA, zN_uB, zN_uR, zN_uN, zI_ne, zJ_ne, zA_ne, zB_ne, zR_ne, zN_ne, bi_T, bi_F, nz16, ↓reduceIte, not_true_eq_false, not_false_eq_true, Bool.false_eq_true, reduceCtorEq]
  · right
    obtain ⟨f1, f2⟩ := m_failS hM h32
    refine ⟨by omega, _, ?_, f2, FR.uI (FR.rf _ _ _ _ _) (by decide)⟩
    have h6 : dp = 6 := by omega
    rw [h6] at h39
    unfold fX12_goesIn
    simp (disch := omega) only [l0, l1, l2, l3, l4, l5, l6, l7, l8, l9, l10, l11, l12, l16, l18, l19, l20, l21, l24, l96, l128, l100, l144, l200, l256, l288, l1536, l1728, l1800, bnd, nI_add, pk_mul, pI_sub, pI_m1, pT_le, pF_le, pT_lt, pF_lt, pT_eq, pF_eq, pF_m1, mF_eq, mT_eq, mT_lt, mF_le, lm1, rd_nI, wr_nI, cl_nI, pk_us, un_ne, pk_uLs, uL_ne, zI_uI, zI_uJ, zI_uA, zI_uB, zI_uR, zI_uN, zJ_uI, zJ_uJ, zJ_uA, zJ_uB, zJ_uR, zJ_uN, zA_uI, zA_uJ, zA_uA, zA_uB, zA_uR, zA_uN, zB_uI, zB_uJ, zB_uA, zB_uB, zB_uR, zB_uN, zR_uI, zR_uJ, zR_uA, zR_uB, zR_uR, zR_uN, zN_uI, zN_uJ, zN_uA, zN_uB, zN_uR, zN_uN, zI_ne, zJ_ne, zA_ne, zB_ne, zR_ne, zN_ne, bi_T, bi_F, nz16, ↓reduceIte, not_true_eq_false, not_false_eq_true, Bool.false_eq_true, reduceCtorEq, h39, f1]
theorem m_atom {q b0 N : Nat} {bs : List Nat} {n v f l w : Nat} (hN201 : N ≤ 201) (hb : bnd6 (n : Int) ∧ bnd6 (v : Int) ∧ bnd6 (f : Int) ∧ bnd6 (l : Int) ∧ bnd6 (w : Int)) (heb : eB (evS n v f l w)) : ∀ (k dp : Nat), 7 ≤ k + dp → dp ≤ 6 → mOK q b0 bs (evS n v f l w) N dp (fun σ => fX12_atom k σ) (atS (evS n v f l w) k dp)
  | 0, dp, h1, h2 => by omega
  | k + 1, dp, h1, h2 => by
    intro σ x N' hN hG hx h39
    obtain ⟨p, y1, a1, a2, a3, a4, a5⟩ := m_lookS hG
    have h391 : zI y1 39 = nI dp := (a4.2.2.1 39 (by decide)).trans h39
    have hF1 : HM σ y1 := HM.of a4 (by decide)
    have hbs := a1.2.2.2.2.2.2.2.2.2
    have hpn := a1.2.2.2.2.2.2.2.1
    have htk := tk_head (J := Jh) (M := 4) (gr := gh) hpn a3
    have hsl := sg_lt x
    show ∃ c υ, fX12_atom_B (fX12_atom k) σ = some (c, υ) ∧ HM σ υ ∧ ((MG υ q b0 bs (atB (fun dp x => smS (atS (evS n v f l w) k dp) x) (evS n v f l w) dp x).2 ∧ zI υ 39 = nI dp ∧ (EM σ (evS n v f l w) → c = iI (atB (fun dp x => smS (atS (evS n v f l w) k dp) x) (evS n v f l w) dp x).1)) ∨ MB υ (atB (fun dp x => smS (atS (evS n v f l w) k dp) x) (evS n v f l w) dp x).2)
    unfold fX12_atom_B
    rw [a5, bnd]
    -- what stands here
    by_cases hs256 : sg x < 256
    · obtain ⟨n1, n2, n3, n4, n5⟩ := sg_next a1 a3 (by rw [← a2]; exact hs256)
      rw [← a2] at n2 n4
      have hlk : lk bs p = nI (sg x) := by rw [n2]; exact if_pos n1
      have ham := am201 (s := sg x) (by omega)
      show ∃ c υ, ((fX12_isAmong_201 (lk bs p)).bind _) = some (c, υ) ∧ _
      rw [hlk, ham, bnd]
      cases hia : isA (sg x) with
      | true =>
        obtain ⟨z, hz⟩ := ev_isA.mp hia
        have hne : ¬ (sg x = 91 ∧ dp < 6) := by
          rintro ⟨h, _⟩
          rw [h] at hia
          exact absurd hia (by decide)
        have hat : atB (fun dp x => smS (atS (evS n v f l w) k dp) x) (evS n v f l w) dp x = (z, tlx x) := by
          unfold atB
          rw [if_neg hne, if_neg (by omega), hz]
        rw [hat]
        have h37 := a1.2.2.2.2.1
        have hlt : sg x < 128 := by
          have := of_decide_eq_true hia
          omega
        refine ⟨zA y1 59 (sg x), uI y1 37 (nI (p + 1)), ?_, hF1.tr (FR.uI (FR.rf _ _ _ _ _) (by decide)), .inl ⟨⟨p + 1, n5, n4⟩, by rw [zI_ne (by decide)]; exact h391, fun hE => (hE.fr hF1) _ _ hz⟩⟩
        simp (disch := omega) only [l0, l1, l2, l3, l4, l5, l6, l7, l8, l9, l10, l11, l12, l16, l18, l19, l20, l21, l24, l96, l128, l100, l144, l200, l256, l288, l1536, l1728, l1800, bnd, nI_add, pk_mul, pI_sub, pI_m1, pT_le, pF_le, pT_lt, pF_lt, pT_eq, pF_eq, pF_m1, mF_eq, mT_eq, mT_lt, mF_le, lm1, rd_nI, wr_nI, cl_nI, pk_us, un_ne, pk_uLs, uL_ne, zI_uI, zI_uJ, zI_uA, zI_uB, zI_uR, zI_uN, zJ_uI, zJ_uJ, zJ_uA, zJ_uB, zJ_uR, zJ_uN, zA_uI, zA_uJ, zA_uA, zA_uB, zA_uR, zA_uN, zB_uI, zB_uJ, zB_uA, zB_uB, zB_uR, zB_uN, zR_uI, zR_uJ, zR_uA, zR_uB, zR_uR, zR_uN, zN_uI, zN_uJ, zN_uA, zN_uB, zN_uR, zN_uN, zI_ne, zJ_ne, zA_ne, zB_ne, zR_ne, zN_ne, bi_T, bi_F, nz16, ↓reduceIte, not_true_eq_false, not_false_eq_true, Bool.false_eq_true, reduceCtorEq, h37]
      | false =>
        by_cases h91 : sg x = 91
        · have hen : evS n v f l w 91 = none := rfl
          rcases m_goesIn a1 a3 h391 h2 (by rw [← a2]; exact hs256) with ⟨h6, y2, c1, c2, c3, c4⟩ | ⟨h6, y2, c1, c2, c3⟩
          · rw [← a2] at c2
            have hx1 := gX_tl hx (by omega)
            have hgk : gOK N (atS (evS n v f l w) k (dp + 1)) := fun N'' x _ hx => atS_g heb k (dp + 1) x N'' hx
            obtain ⟨v', y3, r1, r2, r3⟩ := m_smS hN201 (m_atom (q := q) (b0 := b0) (bs := bs) hN201 hb heb k (dp + 1) (by omega) (by omega)) hgk y2 (tlx x) (N' - 1) (by omega) c2 hx1 c3
            have r1 : fX12_sum_B (fX12_atom k) y2 = some (v', y3) := r1
            have hc : sg x = 91 ∧ dp < 6 := ⟨h91, h6⟩
            have hat : atB (fun dp x => smS (atS (evS n v f l w) k dp) x) (evS n v f l w) dp x = ((smS (atS (evS n v f l w) k (dp + 1)) (tlx x)).1, nd 93 (smS (atS (evS n v f l w) k (dp + 1)) (tlx x)).2) := by
              unfold atB
              rw [if_pos hc]
            rw [hat]
            have hF3 : HM σ y3 := (hF1.tr c4).tr r2
            rcases r3 with ⟨r3, r4, r5⟩ | r3
            · rcases m_takesS (v := 93) r3 (by decide) (by decide) with ⟨t1, y4, t2, t3, t4⟩ | ⟨t1, y4, t2, t3, t4⟩
              · have h394 : zI y4 39 = nI (dp + 1) := (t4.2.2.1 39 (by decide)).trans r4
                have hsub : nI (dp + 1) - nI 1 = nI dp := by rw [pI_sub (by omega), Nat.add_sub_cancel]
                obtain ⟨pp, m1, m2⟩ := t3
                refine ⟨v', uI y4 39 (nI dp), ?_, (hF3.tr (HM.of t4 (by decide))).tr (FR.uI (FR.rf _ _ _ _ _) (by decide)), .inl ⟨⟨pp, m1.fr (FR.uI (FR.rf [] [] [39] [] _) (by decide)) (fun x => by cases x) (by decide), m2⟩, by rw [zI_uI], fun hE => r5 (hE.fr (hF1.tr c4))⟩⟩
                simp (disch := omega) only [l0, l1, l2, l3, l4, l5, l6, l7, l8, l9, l10, l11, l12, l16, l18, l19, l20, l21, l24, l96, l128, l100, l144, l200, l256, l288, l1536, l1728, l1800, bnd, nI_add, pk_mul, pI_sub, pI_m1, pT_le, pF_le, pT_lt, pF_lt, pT_eq, pF_eq, pF_m1, mF_eq, mT_eq, mT_lt, mF_le, lm1, rd_nI, wr_nI, cl_nI, pk_us, un_ne, pk_uLs, uL_ne, zI_uI, zI_uJ, zI_uA, zI_uB, zI_uR, zI_uN, zJ_uI, zJ_uJ, zJ_uA, zJ_uB, zJ_uR, zJ_uN, zA_uI, zA_uJ, zA_uA, zA_uB, zA_uR, zA_uN, zB_uI, zB_uJ, zB_uA, zB_uB, zB_uR, zB_uN, zR_uI, zR_uJ, zR_uA, zR_uB, zR_uR, zR_uN, zN_uI, zN_uJ, zN_uA, zN_uB, zN_uR, zN_uN, zI_ne, zJ_ne, zA_ne, zB_ne, zR_ne, zN_ne, bi_T, bi_F, nz16, ↓reduceIte, not_true_eq_false, not_false_eq_true, Bool.false_eq_true, reduceCtorEq, h91, l91, c1, r1, l93, t2, h394, hsub]
              · refine ⟨nI 0, y4, ?_, hF3.tr t4, .inr t3⟩
                simp (disch := omega) only [l0, l1, l2, l3, l4, l5, l6, l7, l8, l9, l10, l11, l12, l16, l18, l19, l20, l21, l24, l96, l128, l100, l144, l200, l256, l288, l1536, l1728, l1800, bnd, nI_add, pk_mul, pI_sub, pI_m1, pT_le, pF_le, pT_lt, pF_lt, pT_eq, pF_eq, pF_m1, mF_eq, mT_eq, mT_lt, mF_le, lm1, rd_nI, wr_nI, cl_nI, pk_us, un_ne, pk_uLs, uL_ne, zI_uI, zI_uJ, zI_uA, zI_uB, zI_uR, zI_uN, zJ_uI, zJ_uJ, zJ_uA, zJ_uB, zJ_uR, zJ_uN, zA_uI, zA_uJ, zA_uA, zA_uB, zA_uR, zA_uN, zB_uI, zB_uJ, zB_uA, zB_uB, zB_uR, zB_uN, zR_uI, zR_uJ, zR_uA, zR_uB, zR_uR, zR_uN, zN_uI, zN_uJ, zN_uA, zN_uB, zN_uR, zN_uN, zI_ne, zJ_ne, zA_ne, zB_ne, zR_ne, zN_ne, bi_T, bi_F, nz16, ↓reduceIte, not_true_eq_false, not_false_eq_true, Bool.false_eq_true, reduceCtorEq, h91, l91, c1, r1, l93, t2]
            · obtain ⟨t1, t2⟩ := m_takesB (c := nI 93) (v := 93) r3 (by decide)
              refine ⟨nI 0, y3, ?_, hF3, .inr t2⟩
              simp (disch := omega) only [l0, l1, l2, l3, l4, l5, l6, l7, l8, l9, l10, l11, l12, l16, l18, l19, l20, l21, l24, l96, l128, l100, l144, l200, l256, l288, l1536, l1728, l1800, bnd, nI_add, pk_mul, pI_sub, pI_m1, pT_le, pF_le, pT_lt, pF_lt, pT_eq, pF_eq, pF_m1, mF_eq, mT_eq, mT_lt, mF_le, lm1, rd_nI, wr_nI, cl_nI, pk_us, un_ne, pk_uLs, uL_ne, zI_uI, zI_uJ, zI_uA, zI_uB, zI_uR, zI_uN, zJ_uI, zJ_uJ, zJ_uA, zJ_uB, zJ_uR, zJ_uN, zA_uI, zA_uJ, zA_uA, zA_uB, zA_uR, zA_uN, zB_uI, zB_uJ, zB_uA, zB_uB, zB_uR, zB_uN, zR_uI, zR_uJ, zR_uA, zR_uB, zR_uR, zR_uN, zN_uI, zN_uJ, zN_uA, zN_uB, zN_uR, zN_uN, zI_ne, zJ_ne, zA_ne, zB_ne, zR_ne, zN_ne, bi_T, bi_F, nz16, ↓reduceIte, not_true_eq_false, not_false_eq_true, Bool.false_eq_true, reduceCtorEq, h91, l91, c1, r1, l93, t1]
          · have hc : ¬ (sg x = 91 ∧ dp < 6) := fun h => by omega
            have hat : atB (fun dp x => smS (atS (evS n v f l w) k dp) x) (evS n v f l w) dp x = (0, slx x) := by
              unfold atB
              rw [if_neg hc, if_neg (by omega), h91, hen]
            rw [hat, a2]
            refine ⟨nI 0, y2, ?_, hF1.tr c3, .inr c2⟩
            rw [← a2]
            simp (disch := omega) only [l0, l1, l2, l3, l4, l5, l6, l7, l8, l9, l10, l11, l12, l16, l18, l19, l20, l21, l24, l96, l128, l100, l144, l200, l256, l288, l1536, l1728, l1800, bnd, nI_add, pk_mul, pI_sub, pI_m1, pT_le, pF_le, pT_lt, pF_lt, pT_eq, pF_eq, pF_m1, mF_eq, mT_eq, mT_lt, mF_le, lm1, rd_nI, wr_nI, cl_nI, pk_us, un_ne, pk_uLs, uL_ne, zI_uI, zI_uJ, zI_uA, zI_uB, zI_uR, zI_uN, zJ_uI, zJ_uJ, zJ_uA, zJ_uB, zJ_uR, zJ_uN, zA_uI, zA_uJ, zA_uA, zA_uB, zA_uR, zA_uN, zB_uI, zB_uJ, zB_uA, zB_uB, zB_uR, zB_uN, zR_uI, zR_uJ, zR_uA, zR_uB, zR_uR, zR_uN, zN_uI, zN_uJ, zN_uA, zN_uB, zN_uR, zN_uN, zI_ne, zJ_ne, zA_ne, zB_ne, zR_ne, zN_ne, bi_T, bi_F, nz16, ↓reduceIte, not_true_eq_false, not_false_eq_true, Bool.false_eq_true, reduceCtorEq, h91, l91, c1]
        · -- another sign
          have hdi := m_isDigit a1
          rw [decide_eq_false (show ¬ (p < bs.length ∧ Jh (bs.getD p 0) = true) from fun h => by rw [n3] at h; cases h.2)] at hdi
          have hen : evS n v f l w (sg x) = none := by
            cases hev : evS n v f l w (sg x) with
            | none => rfl
            | some z =>
              have := ev_isA.mpr ⟨z, hev⟩
              rw [hia] at this
              cases this
          have hc : ¬ (sg x = 91 ∧ dp < 6) := fun h => h91 h.1
          have hat : atB (fun dp x => smS (atS (evS n v f l w) k dp) x) (evS n v f l w) dp x = (0, slx x) := by
            unfold atB
            rw [if_neg hc, if_neg (by omega), hen]
          rw [hat, a2]
          obtain ⟨f1, f2⟩ := m_failS a1 a3
          have hdi2 : fX12_isDigit (uI y1 38 (nI p)) = some false := by
            unfold fX12_isDigit at hdi ⊢
            rw [zI_ne (by decide), zI_ne (by decide), zI_ne (by decide), zA_uI, zR_uI]
            exact hdi
          have hJ : fX12_atom_J86 (fX12_atom k) (uI y1 38 (nI p)) = some (nI 0, uI y1 38 (nI p)) := by
            have key := it_for (β := Unit) (body := fun (kb : (St × Int32 × Int32) → Option (Int32 × St)) (t : St × Int32 × Int32) => fX12_atom_L90 (fX12_atom k) (fun s8 => (fX12_fails s8).bind fun r9 => some ((0 : Int32), r9.2)) (fun σ v2 v3 => kb (σ, v2, v3)) t.1 t.2.1 t.2.2) 0 (by omega) (fun i _ => (uI y1 38 (nI p), nI i, nI i)) (fun _ _ => True) (fun _ _ z => z = some (nI 0, uI y1 38 (nI p))) ?_ 0 () (Nat.zero_le _) trivial
            · exact key
            · intro i _ hi _ kb _
              have hi0 : i = 0 := by omega
              show fX12_atom_L90 _ _ (fun σ v2 v3 => kb (σ, v2, v3)) (uI y1 38 (nI p)) (nI i) (nI i) = _
              unfold fX12_atom_L90
              simp (disch := omega) only [l0, l1, l2, l3, l4, l5, l6, l7, l8, l9, l10, l11, l12, l16, l18, l19, l20, l21, l24, l96, l128, l100, l144, l200, l256, l288, l1536, l1728, l1800, bnd, nI_add, pk_mul, pI_sub, pI_m1, pT_le, pF_le, pT_lt, pF_lt, pT_eq, pF_eq, pF_m1, mF_eq, mT_eq, mT_lt, mF_le, lm1, rd_nI, wr_nI, cl_nI, pk_us, un_ne, pk_uLs, uL_ne, zI_uI, zI_uJ, zI_uA, zI_uB, zI_uR, zI_uN, zJ_uI, zJ_uJ, zJ_uA, zJ_uB, zJ_uR, zJ_uN, zA_uI, zA_uJ, zA_uA, zA_uB, zA_uR, zA_uN, zB_uI, zB_uJ, zB_uA, zB_uB, zB_uR, zB_uN, zR_uI, zR_uJ, zR_uA, zR_uB, zR_uR, zR_uN, zN_uI, zN_uJ, zN_uA, zN_uB, zN_uR, zN_uN, zI_ne, zJ_ne, zA_ne, zB_ne, zR_ne, zN_ne, bi_T, bi_F, nz16, ↓reduceIte, not_true_eq_false, not_false_eq_true, Bool.false_eq_true, reduceCtorEq, hdi2, hi0]
          refine ⟨nI 0, uI y1 38 (nI p), ?_, hF1.tr (FR.uI (FR.rf _ _ _ _ _) (by decide)), .inr f2⟩
          rw [← a2]
          simp (disch := omega) only [l0, l1, l2, l3, l4, l5, l6, l7, l8, l9, l10, l11, l12, l16, l18, l19, l20, l21, l24, l96, l128, l100, l144, l200, l256, l288, l1536, l1728, l1800, bnd, nI_add, pk_mul, pI_sub, pI_m1, pT_le, pF_le, pT_lt, pF_lt, pT_eq, pF_eq, pF_m1, mF_eq, mT_eq, mT_lt, mF_le, lm1, rd_nI, wr_nI, cl_nI, pk_us, un_ne, pk_uLs, uL_ne, zI_uI, zI_uJ, zI_uA, zI_uB, zI_uR, zI_uN, zJ_uI, zJ_uJ, zJ_uA, zJ_uB, zJ_uR, zJ_uN, zA_uI, zA_uJ, zA_uA, zA_uB, zA_uR, zA_uN, zB_uI, zB_uJ, zB_uA, zB_uB, zB_uR, zB_uN, zR_uI, zR_uJ, zR_uA, zR_uB, zR_uR, zR_uN, zN_uI, zN_uJ, zN_uA, zN_uB, zN_uR, zN_uN, zI_ne, zJ_ne, zA_ne, zB_ne, zR_ne, zN_ne, bi_T, bi_F, nz16, ↓reduceIte, not_true_eq_false, not_false_eq_true, Bool.false_eq_true, reduceCtorEq, l91, hdi, f1, hJ]
    · -- digits, or the end
      rcases htk.2 with ⟨h3, h4⟩ | ⟨h3, h4, h5⟩ | ⟨h3, h4, h5⟩
      · have hlk : lk bs p = mI := if_neg (by omega)
        have hsx : sg x = 256 := by
          rw [a2]
          show (if (hd (tkR Jh 4 gh bs p)).1 < 1000 then (hd (tkR Jh 4 gh bs p)).1 else 1000) = 256
          rw [h4]
          rfl
        have hdi := m_isDigit a1
        rw [decide_eq_false (show ¬ (p < bs.length ∧ Jh (bs.getD p 0) = true) from fun h => by omega)] at hdi
        have hc : ¬ (sg x = 91 ∧ dp < 6) := fun h => by omega
        have hat : atB (fun dp x => smS (atS (evS n v f l w) k dp) x) (evS n v f l w) dp x = (0, slx x) := by
          unfold atB
          rw [if_neg hc, if_neg (by omega), hsx]
          rfl
        rw [hat, a2]
        obtain ⟨f1, f2⟩ := m_failS a1 a3
        have hdi2 : fX12_isDigit (uI y1 38 (nI p)) = some false := by
          unfold fX12_isDigit at hdi ⊢
          rw [zI_ne (by decide), zI_ne (by decide), zI_ne (by decide), zA_uI, zR_uI]
          exact hdi
        have hJ : fX12_atom_J86 (fX12_atom k) (uI y1 38 (nI p)) = some (nI 0, uI y1 38 (nI p)) := by
          have key := it_for (β := Unit) (body := fun (kb : (St × Int32 × Int32) → Option (Int32 × St)) (t : St × Int32 × Int32) => fX12_atom_L90 (fX12_atom k) (fun s8 => (fX12_fails s8).bind fun r9 => some ((0 : Int32), r9.2)) (fun σ v2 v3 => kb (σ, v2, v3)) t.1 t.2.1 t.2.2) 0 (by omega) (fun i _ => (uI y1 38 (nI p), nI i, nI i)) (fun _ _ => True) (fun _ _ z => z = some (nI 0, uI y1 38 (nI p))) ?_ 0 () (Nat.zero_le _) trivial
          · exact key
          · intro i _ hi _ kb _
            have hi0 : i = 0 := by omega
            show fX12_atom_L90 _ _ (fun σ v2 v3 => kb (σ, v2, v3)) (uI y1 38 (nI p)) (nI i) (nI i) = _
            unfold fX12_atom_L90
            simp (disch := omega) only [l0, l1, l2, l3, l4, l5, l6, l7, l8, l9, l10, l11, l12, l16, l18, l19, l20, l21, l24, l96, l128, l100, l144, l200, l256, l288, l1536, l1728, l1800, bnd, nI_add, pk_mul, pI_sub, pI_m1, pT_le, pF_le, pT_lt, pF_lt, pT_eq, pF_eq, pF_m1, mF_eq, mT_eq, mT_lt, mF_le, lm1, rd_nI, wr_nI, cl_nI, pk_us, un_ne, pk_uLs, uL_ne, zI_uI, zI_uJ, zI_uA, zI_uB, zI_uR, zI_uN, zJ_uI, zJ_uJ, zJ_uA, zJ_uB, zJ_uR, zJ_uN, zA_uI, zA_uJ, zA_uA, zA_uB, zA_uR, zA_uN, zB_uI, zB_uJ, zB_uA, zB_uB, zB_uR, zB_uN, zR_uI, zR_uJ, zR_uA, zR_uB, zR_uR, zR_uN, zN_uI, zN_uJ, zN_uA, zN_uB, zN_uR, zN_uN, zI_ne, zJ_ne, zA_ne, zB_ne, zR_ne, zN_ne, bi_T, bi_F, nz16, ↓reduceIte, not_true_eq_false, not_false_eq_true, Bool.false_eq_true, reduceCtorEq, hdi2, hi0]
        refine ⟨nI 0, uI y1 38 (nI p), ?_, hF1.tr (FR.uI (FR.rf _ _ _ _ _) (by decide)), .inr f2⟩
        rw [hlk]
        simp (disch := omega) only [l0, l1, l2, l3, l4, l5, l6, l7, l8, l9, l10, l11, l12, l16, l18, l19, l20, l21, l24, l96, l128, l100, l144, l200, l256, l288, l1536, l1728, l1800, bnd, nI_add, pk_mul, pI_sub, pI_m1, pT_le, pF_le, pT_lt, pF_lt, pT_eq, pF_eq, pF_m1, mF_eq, mT_eq, mT_lt, mF_le, lm1, rd_nI, wr_nI, cl_nI, pk_us, un_ne, pk_uLs, uL_ne, zI_uI, zI_uJ, zI_uA, zI_uB, zI_uR, zI_uN, zJ_uI, zJ_uJ, zJ_uA, zJ_uB, zJ_uR, zJ_uN, zA_uI, zA_uJ, zA_uA, zA_uB, zA_uR, zA_uN, zB_uI, zB_uJ, zB_uA, zB_uB, zB_uR, zB_uN, zR_uI, zR_uJ, zR_uA, zR_uB, zR_uR, zR_uN, zN_uI, zN_uJ, zN_uA, zN_uB, zN_uR, zN_uN, zI_ne, zJ_ne, zA_ne, zB_ne, zR_ne, zN_ne, bi_T, bi_F, nz16, ↓reduceIte, not_true_eq_false, not_false_eq_true, Bool.false_eq_true, reduceCtorEq, am201m, l91, hdi, f1, hJ]
      · have hlk : lk bs p = nI (bs.getD p 0) := if_pos h3
        have hjd := of_decide_eq_true h4
        have hsx : sg x = 1000 := by
          rw [a2]
          show (if (hd (tkR Jh 4 gh bs p)).1 < 1000 then (hd (tkR Jh 4 gh bs p)).1 else 1000) = 1000
          rw [if_neg (by omega)]
        have hdi := m_isDigit a1
        rw [decide_eq_true ⟨h3, h4⟩] at hdi
        have ham := am201 (s := bs.getD p 0) (by omega)
        have hia : isA (bs.getD p 0) = false := decide_eq_false (by omega)
        rw [hia] at ham
        obtain ⟨z, c, υ, d1, d2, d3, d4⟩ := m_digits (rec := fX12_atom k) a1 h3 h4
        have hc : ¬ (sg x = 91 ∧ dp < 6) := fun h => by omega
        have hat : atB (fun dp x => smS (atS (evS n v f l w) k dp) x) (evS n v f l w) dp x = (vl x, tlx x) := by
          unfold atB
          rw [if_neg hc, if_pos hsx]
        rw [hat]
        refine ⟨c, υ, ?_, hF1.tr (HM.of d2 (by decide)), ?_⟩
        · rw [hlk]
          simp (disch := omega) only [l0, l1, l2, l3, l4, l5, l6, l7, l8, l9, l10, l11, l12, l16, l18, l19, l20, l21, l24, l96, l128, l100, l144, l200, l256, l288, l1536, l1728, l1800, bnd, nI_add, pk_mul, pI_sub, pI_m1, pT_le, pF_le, pT_lt, pF_lt, pT_eq, pF_eq, pF_m1, mF_eq, mT_eq, mT_lt, mF_le, lm1, rd_nI, wr_nI, cl_nI, pk_us, un_ne, pk_uLs, uL_ne, zI_uI, zI_uJ, zI_uA, zI_uB, zI_uR, zI_uN, zJ_uI, zJ_uJ, zJ_uA, zJ_uB, zJ_uR, zJ_uN, zA_uI, zA_uJ, zA_uA, zA_uB, zA_uR, zA_uN, zB_uI, zB_uJ, zB_uA, zB_uB, zB_uR, zB_uN, zR_uI, zR_uJ, zR_uA, zR_uB, zR_uR, zR_uN, zN_uI, zN_uJ, zN_uA, zN_uB, zN_uR, zN_uN, zI_ne, zJ_ne, zA_ne, zB_ne, zR_ne, zN_ne, bi_T, bi_F, nz16, ↓reduceIte, not_true_eq_false, not_false_eq_true, Bool.false_eq_true, reduceCtorEq, ham, l91, hdi, d3]
        · rcases d4 with ⟨e1, p', e2, e3⟩ | ⟨e1, R, e3⟩
          · refine .inl ⟨⟨p', e2, ?_⟩, (d2.2.2.1 39 (by decide)).trans h391, fun _ => ?_⟩
            · rw [a2, e3]
              rfl
            · rw [a2, e3, e1]
              show nI z = iI ((1000 + z - 1000 : Nat) : Int)
              rw [iI_nat, show 1000 + z - 1000 = z by omega]
          · refine .inr ⟨p + 4, .inr ⟨R, ?_⟩, e1, by have := a1.2.2.2.2.2.2.2.2.1; omega⟩
            rw [a2, e3]
            rfl
      · exfalso
        apply hs256
        have hbb := (hbs _ (getD_mem (d := 0) h3)).2
        rw [a2]
        show (if (hd (tkR Jh 4 gh bs p)).1 < 1000 then (hd (tkR Jh 4 gh bs p)).1 else 1000) < 256
        rw [h5]
        show (if bs.getD p 0 < 1000 then bs.getD p 0 else 1000) < 256
        rw [if_pos (by omega)]
        exact hbb
