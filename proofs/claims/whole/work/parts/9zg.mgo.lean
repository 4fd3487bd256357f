/-! the model goes through a habit *-/
theorem gX_n1 {N v : Nat} {x : Sx} (h : gX N x) (hv : v ≠ 256) : gX (N - 1) (nd v x) := by
  cases x with
  | inl p => exact h
  | inr R =>
    obtain ⟨h1, h2, h3⟩ := h
    cases R with
    | nil => exact absurd h1 (fun h => h)
    | cons t R =>
      show gX (N - 1) (if t.1 = v then .inr R else .inl t.2)
      split
      · rename_i e
        refine ⟨gT_tail h1 (by omega), fun u hu => h2 u (List.mem_cons_of_mem _ hu), ?_⟩
        rw [List.length_cons] at h3
        omega
      · exact h1.2.1
theorem cls_g1 {e : En} (he : eB e) (N : Nat) (x : Sx) (h1 : gX N (clX x)) : gX N (cls e x).2.2 ∧ bnd6 (cls e x).2.1 := by
  unfold cls
  split
  · have h2 := hcS_g (unS_g he N 8 0) N (clX x) (Nat.le_refl _) h1
    exact smD_g he 0 N _ (gX_nd h2 (by decide))
  · have h3 := smD_g he 0 N (clX x) h1
    split
    · have h4 := cmS_g he 0 N (clV0 e x).1 (clV0 e x).2 h3.1
      have h5 := ulL_g (unS_g he N 8 0) 200 (cmS e 0 (clV0 e x).1 (clV0 e x).2).1 N _ (Nat.le_refl _) h4
      have h6 := trL_g (unS_g he N 8 0) 200 (clC0 e x).1 N _ (Nat.le_refl _) h5
      exact smD_g he 0 N _ (gX_nd h6 (by decide))
    · exact h3
theorem gX_cl {e : En} (he : eB e) {N : Nat} {x : Sx} (hx : gX N x) : gX (N - 1) (cls e x).2.2 := (cls_g1 he (N - 1) x (gX_nd (gX_n1 (v := 121) hx (by decide)) (by decide))).1
theorem m_sumO {q b0 N : Nat} {bs : List Nat} {n v f l w : Nat} (hN201 : N ≤ 201) (hb : bnd6 (n : Int) ∧ bnd6 (v : Int) ∧ bnd6 (f : Int) ∧ bnd6 (l : Int) ∧ bnd6 (w : Int)) (heb : eB (evS n v f l w)) (dp : Nat) (hd : dp ≤ 6) : mOK q b0 bs (evS n v f l w) N dp (fun σ => fX12_sum 8 σ) (smD (evS n v f l w) dp) :=
  m_smS hN201 (m_atom hN201 hb heb 8 dp (by omega) hd) (fun N' x _ hx => atS_g heb 8 dp x N' hx)
theorem m_unO {q b0 N : Nat} {bs : List Nat} {n v f l w : Nat} (hN201 : N ≤ 201) (hb : bnd6 (n : Int) ∧ bnd6 (v : Int) ∧ bnd6 (f : Int) ∧ bnd6 (l : Int) ∧ bnd6 (w : Int)) (heb : eB (evS n v f l w)) : mBK q b0 bs (evS n v f l w) N 0 (fun σ => fX12_unit 8 σ) (unS (evS n v f l w) 8 0) :=
  m_unit hN201 heb rfl rfl (fun dp hd => m_sumO hN201 hb heb dp hd) 8 0 8 (by omega) (by omega) (by omega)

theorem m_go_55 {b0 : Nat} {bs : List Nat} {n v f l w : Nat} {σ : St} (hb : bnd6 (n : Int) ∧ bnd6 (v : Int) ∧ bnd6 (f : Int) ∧ bnd6 (l : Int) ∧ bnd6 (w : Int)) (heb : eB (evS n v f l w)) (hb0 : b0 + bs.length ≤ 200) (hda : ∀ j, j < bs.length → zA σ 55 (b0 + j) = sbv (bs.getD j 0)) (hl : bs.length ≤ 200) (hby : ∀ b, b ∈ bs → 1 ≤ b ∧ b < 256) (hX : gX 201 (.inr (tkF Jh 4 gh bs))) : ∃ υ, fX12_goThrough_55 σ (nI b0) (nI bs.length) = some υ ∧ FR [] [] [35, 36, 37, 38, 39, 40, 41, 42] [] (uR σ 3 55) υ ∧ zI υ 38 = fx (pHab (evS n v f l w) bs).2 ∧ (EM σ (evS n v f l w) → fx (pHab (evS n v f l w) bs).2 = mI → zI υ 41 = iI (pHab (evS n v f l w) bs).1) := by
  have hsm := m_sumO (q := 55) (b0 := b0) (bs := bs) (Nat.le_refl 201) hb heb 0 (by omega)
  have hun := m_unO (q := 55) (b0 := b0) (bs := bs) (Nat.le_refl 201) hb heb
  generalize hs9 : uI (uI (uI (uI (uI (uI (uI (uI (uR σ 3 55) 35 (nI b0)) 36 (nI bs.length)) 37 (nI 0)) 38 mI) 40 (nI 121)) 39 (nI 0)) 42 (nI 0)) 41 (nI 0) = s9
  have hF9 : FR [] [] [35, 36, 37, 38, 39, 40, 41, 42] [] (uR σ 3 55) s9 := by
    rw [← hs9]
    exact FR.uI (FR.uI (FR.uI (FR.uI (FR.uI (FR.uI (FR.uI (FR.uI (FR.rf _ _ _ _ _) (by decide)) (by decide)) (by decide)) (by decide)) (by decide)) (by decide)) (by decide)) (by decide)
  have hM : MX s9 55 b0 bs 0 := by
    rw [← hs9]
    refine ⟨?_, .inl ⟨rfl, hb0⟩, ?_, ?_, ?_, ?_, ?_, Nat.zero_le _, hl, hby⟩
    · simp (disch := omega) only [l0, l1, l2, l3, l4, l5, l6, l7, l8, l9, l10, l11, l12, l16, l18, l19, l20, l21, l24, l96, l128, l100, l144, l200, l256, l288, l1536, l1728, l1800, bnd, nI_add, pk_mul, pI_sub, pI_m1, pT_le, pF_le, pT_lt, pF_lt, pT_eq, pF_eq, pF_m1, mF_eq, mT_eq, mT_lt, mF_le, lm1, rd_nI, wr_nI, cl_nI, pk_us, un_ne, pk_uLs, uL_ne, zI_uI, zI_uJ, zI_uA, zI_uB, zI_uR, zI_uN, zJ_uI, zJ_uJ, zJ_uA, zJ_uB, zJ_uR, zJ_uN, zA_uI, zA_uJ, zA_uA, zA_uB, zA_uR, zA_uN, zB_uI, zB_uJ, zB_uA, zB_uB, zB_uR, zB_uN, zR_uI, zR_uJ, zR_uA, zR_uB, zR_uR, zR_uN, zN_uI, zN_uJ, zN_uA, zN_uB, zN_uR, zN_uN, zI_ne, zJ_ne, zA_ne, zB_ne, zR_ne, zN_ne, bi_T, bi_F, nz16, ↓reduceIte, not_true_eq_false, not_false_eq_true, Bool.false_eq_true, reduceCtorEq]
    · simp (disch := omega) only [l0, l1, l2, l3, l4, l5, l6, l7, l8, l9, l10, l11, l12, l16, l18, l19, l20, l21, l24, l96, l128, l100, l144, l200, l256, l288, l1536, l1728, l1800, bnd, nI_add, pk_mul, pI_sub, pI_m1, pT_le, pF_le, pT_lt, pF_lt, pT_eq, pF_eq, pF_m1, mF_eq, mT_eq, mT_lt, mF_le, lm1, rd_nI, wr_nI, cl_nI, pk_us, un_ne, pk_uLs, uL_ne, zI_uI, zI_uJ, zI_uA, zI_uB, zI_uR, zI_uN, zJ_uI, zJ_uJ, zJ_uA, zJ_uB, zJ_uR, zJ_uN, zA_uI, zA_uJ, zA_uA, zA_uB, zA_uR, zA_uN, zB_uI, zB_uJ, zB_uA, zB_uB, zB_uR, zB_uN, zR_uI, zR_uJ, zR_uA, zR_uB, zR_uR, zR_uN, zN_uI, zN_uJ, zN_uA, zN_uB, zN_uR, zN_uN, zI_ne, zJ_ne, zA_ne, zB_ne, zR_ne, zN_ne, bi_T, bi_F, nz16, ↓reduceIte, not_true_eq_false, not_false_eq_true, Bool.false_eq_true, reduceCtorEq]
    · simp (disch := omega) only [l0, l1, l2, l3, l4, l5, l6, l7, l8, l9, l10, l11, l12, l16, l18, l19, l20, l21, l24, l96, l128, l100, l144, l200, l256, l288, l1536, l1728, l1800, bnd, nI_add, pk_mul, pI_sub, pI_m1, pT_le, pF_le, pT_lt, pF_lt, pT_eq, pF_eq, pF_m1, mF_eq, mT_eq, mT_lt, mF_le, lm1, rd_nI, wr_nI, cl_nI, pk_us, un_ne, pk_uLs, uL_ne, zI_uI, zI_uJ, zI_uA, zI_uB, zI_uR, zI_uN, zJ_uI, zJ_uJ, zJ_uA, zJ_uB, zJ_uR, zJ_uN, zA_uI, zA_uJ, zA_uA, zA_uB, zA_uR, zA_uN, zB_uI, zB_uJ, zB_uA, zB_uB, zB_uR, zB_uN, zR_uI, zR_uJ, zR_uA, zR_uB, zR_uR, zR_uN, zN_uI, zN_uJ, zN_uA, zN_uB, zN_uR, zN_uN, zI_ne, zJ_ne, zA_ne, zB_ne, zR_ne, zN_ne, bi_T, bi_F, nz16, ↓reduceIte, not_true_eq_false, not_false_eq_true, Bool.false_eq_true, reduceCtorEq]
    · simp (disch := omega) only [l0, l1, l2, l3, l4, l5, l6, l7, l8, l9, l10, l11, l12, l16, l18, l19, l20, l21, l24, l96, l128, l100, l144, l200, l256, l288, l1536, l1728, l1800, bnd, nI_add, pk_mul, pI_sub, pI_m1, pT_le, pF_le, pT_lt, pF_lt, pT_eq, pF_eq, pF_m1, mF_eq, mT_eq, mT_lt, mF_le, lm1, rd_nI, wr_nI, cl_nI, pk_us, un_ne, pk_uLs, uL_ne, zI_uI, zI_uJ, zI_uA, zI_uB, zI_uR, zI_uN, zJ_uI, zJ_uJ, zJ_uA, zJ_uB, zJ_uR, zJ_uN, zA_uI, zA_uJ, zA_uA, zA_uB, zA_uR, zA_uN, zB_uI, zB_uJ, zB_uA, zB_uB, zB_uR, zB_uN, zR_uI, zR_uJ, zR_uA, zR_uB, zR_uR, zR_uN, zN_uI, zN_uJ, zN_uA, zN_uB, zN_uR, zN_uN, zI_ne, zJ_ne, zA_ne, zB_ne, zR_ne, zN_ne, bi_T, bi_F, nz16, ↓reduceIte, not_true_eq_false, not_false_eq_true, Bool.false_eq_true, reduceCtorEq]
    · simp (disch := omega) only [l0, l1, l2, l3, l4, l5, l6, l7, l8, l9, l10, l11, l12, l16, l18, l19, l20, l21, l24, l96, l128, l100, l144, l200, l256, l288, l1536, l1728, l1800, bnd, nI_add, pk_mul, pI_sub, pI_m1, pT_le, pF_le, pT_lt, pF_lt, pT_eq, pF_eq, pF_m1, mF_eq, mT_eq, mT_lt, mF_le, lm1, rd_nI, wr_nI, cl_nI, pk_us, un_ne, pk_uLs, uL_ne, zI_uI, zI_uJ, zI_uA, zI_uB, zI_uR, zI_uN, zJ_uI, zJ_uJ, zJ_uA, zJ_uB, zJ_uR, zJ_uN, zA_uI, zA_uJ, zA_uA, zA_uB, zA_uR, zA_uN, zB_uI, zB_uJ, zB_uA, zB_uB, zB_uR, zB_uN, zR_uI, zR_uJ, zR_uA, zR_uB, zR_uR, zR_uN, zN_uI, zN_uJ, zN_uA, zN_uB, zN_uR, zN_uN, zI_ne, zJ_ne, zA_ne, zB_ne, zR_ne, zN_ne, bi_T, bi_F, nz16, ↓reduceIte, not_true_eq_false, not_false_eq_true, Bool.false_eq_true, reduceCtorEq]
    · intro j hj
      rw [← hda j hj]
      simp (disch := omega) only [l0, l1, l2, l3, l4, l5, l6, l7, l8, l9, l10, l11, l12, l16, l18, l19, l20, l21, l24, l96, l128, l100, l144, l200, l256, l288, l1536, l1728, l1800, bnd, nI_add, pk_mul, pI_sub, pI_m1, pT_le, pF_le, pT_lt, pF_lt, pT_eq, pF_eq, pF_m1, mF_eq, mT_eq, mT_lt, mF_le, lm1, rd_nI, wr_nI, cl_nI, pk_us, un_ne, pk_uLs, uL_ne, zI_uI, zI_uJ, zI_uA, zI_uB, zI_uR, zI_uN, zJ_uI, zJ_uJ, zJ_uA, zJ_uB, zJ_uR, zJ_uN, zA_uI, zA_uJ, zA_uA, zA_uB, zA_uR, zA_uN, zB_uI, zB_uJ, zB_uA, zB_uB, zB_uR, zB_uN, zR_uI, zR_uJ, zR_uA, zR_uB, zR_uR, zR_uN, zN_uI, zN_uJ, zN_uA, zN_uB, zN_uR, zN_uN, zI_ne, zJ_ne, zA_ne, zB_ne, zR_ne, zN_ne, bi_T, bi_F, nz16, ↓reduceIte, not_true_eq_false, not_false_eq_true, Bool.false_eq_true, reduceCtorEq]
  have h39 : zI s9 39 = nI 0 := by rw [← hs9]; simp (disch := omega) only [l0, l1, l2, l3, l4, l5, l6, l7, l8, l9, l10, l11, l12, l16, l18, l19, l20, l21, l24, l96, l128, l100, l144, l200, l256, l288, l1536, l1728, l1800, bnd, nI_add, pk_mul, pI_sub, pI_m1, pT_le, pF_le, pT_lt, pF_lt, pT_eq, pF_eq, pF_m1, mF_eq, mT_eq, mT_lt, mF_le, lm1, rd_nI, wr_nI, cl_nI, pk_us, un_ne, pk_uLs, uL_ne, zI_uI, zI_uJ, zI_uA, zI_uB, zI_uR, zI_uN, zJ_uI, zJ_uJ, zJ_uA, zJ_uB, zJ_uR, zJ_uN, zA_uI, zA_uJ, zA_uA, zA_uB, zA_uR, zA_uN, zB_uI, zB_uJ, zB_uA, zB_uB, zB_uR, zB_uN, zR_uI, zR_uJ, zR_uA, zR_uB, zR_uR, zR_uN, zN_uI, zN_uJ, zN_uA, zN_uB, zN_uR, zN_uN, zI_ne, zJ_ne, zA_ne, zB_ne, zR_ne, zN_ne, bi_T, bi_F, nz16, ↓reduceIte, not_true_eq_false, not_false_eq_true, Bool.false_eq_true, reduceCtorEq]
  have h40 : zI s9 40 = nI 121 := by rw [← hs9]; simp (disch := omega) only [l0, l1, l2, l3, l4, l5, l6, l7, l8, l9, l10, l11, l12, l16, l18, l19, l20, l21, l24, l96, l128, l100, l144, l200, l256, l288, l1536, l1728, l1800, bnd, nI_add, pk_mul, pI_sub, pI_m1, pT_le, pF_le, pT_lt, pF_lt, pT_eq, pF_eq, pF_m1, mF_eq, mT_eq, mT_lt, mF_le, lm1, rd_nI, wr_nI, cl_nI, pk_us, un_ne, pk_uLs, uL_ne, zI_uI, zI_uJ, zI_uA, zI_uB, zI_uR, zI_uN, zJ_uI, zJ_uJ, zJ_uA, zJ_uB, zJ_uR, zJ_uN, zA_uI, zA_uJ, zA_uA, zA_uB, zA_uR, zA_uN, zB_uI, zB_uJ, zB_uA, zB_uB, zB_uR, zB_uN, zR_uI, zR_uJ, zR_uA, zR_uB, zR_uR, zR_uN, zN_uI, zN_uJ, zN_uA, zN_uB, zN_uR, zN_uN, zI_ne, zJ_ne, zA_ne, zB_ne, zR_ne, zN_ne, bi_T, bi_F, nz16, ↓reduceIte, not_true_eq_false, not_false_eq_true, Bool.false_eq_true, reduceCtorEq]
  have hfd : zI s9 42 = bi false ∧ zI s9 41 = iI 0 := by
    rw [← hs9]
    constructor
    · simp (disch := omega) only [l0, l1, l2, l3, l4, l5, l6, l7, l8, l9, l10, l11, l12, l16, l18, l19, l20, l21, l24, l96, l128, l100, l144, l200, l256, l288, l1536, l1728, l1800, bnd, nI_add, pk_mul, pI_sub, pI_m1, pT_le, pF_le, pT_lt, pF_lt, pT_eq, pF_eq, pF_m1, mF_eq, mT_eq, mT_lt, mF_le, lm1, rd_nI, wr_nI, cl_nI, pk_us, un_ne, pk_uLs, uL_ne, zI_uI, zI_uJ, zI_uA, zI_uB, zI_uR, zI_uN, zJ_uI, zJ_uJ, zJ_uA, zJ_uB, zJ_uR, zJ_uN, zA_uI, zA_uJ, zA_uA, zA_uB, zA_uR, zA_uN, zB_uI, zB_uJ, zB_uA, zB_uB, zB_uR, zB_uN, zR_uI, zR_uJ, zR_uA, zR_uB, zR_uR, zR_uN, zN_uI, zN_uJ, zN_uA, zN_uB, zN_uR, zN_uN, zI_ne, zJ_ne, zA_ne, zB_ne, zR_ne, zN_ne, bi_T, bi_F, nz16, ↓reduceIte, not_true_eq_false, not_false_eq_true, Bool.false_eq_true, reduceCtorEq]
    · simp (disch := omega) only [l0, l1, l2, l3, l4, l5, l6, l7, l8, l9, l10, l11, l12, l16, l18, l19, l20, l21, l24, l96, l128, l100, l144, l200, l256, l288, l1536, l1728, l1800, bnd, nI_add, pk_mul, pI_sub, pI_m1, pT_le, pF_le, pT_lt, pF_lt, pT_eq, pF_eq, pF_m1, mF_eq, mT_eq, mT_lt, mF_le, lm1, rd_nI, wr_nI, cl_nI, pk_us, un_ne, pk_uLs, uL_ne, zI_uI, zI_uJ, zI_uA, zI_uB, zI_uR, zI_uN, zJ_uI, zJ_uJ, zJ_uA, zJ_uB, zJ_uR, zJ_uN, zA_uI, zA_uJ, zA_uA, zA_uB, zA_uR, zA_uN, zB_uI, zB_uJ, zB_uA, zB_uB, zB_uR, zB_uN, zR_uI, zR_uJ, zR_uA, zR_uB, zR_uR, zR_uN, zN_uI, zN_uJ, zN_uA, zN_uB, zN_uR, zN_uN, zI_ne, zJ_ne, zA_ne, zB_ne, zR_ne, zN_ne, bi_T, bi_F, nz16, ↓reduceIte, not_true_eq_false, not_false_eq_true, Bool.false_eq_true, reduceCtorEq]
      rfl
  have hEM : EM σ (evS n v f l w) → EM s9 (evS n v f l w) := by
    intro h
    unfold EM
    rw [hF9.1 59 (by decide), zA_uR]
    exact h
  have hG : MG s9 55 b0 bs (.inr (tkF Jh 4 gh bs)) := ⟨0, hM, rfl⟩
  generalize hev : evS n v f l w = e at *
  obtain ⟨t9, g1, g2, g3⟩ := m_clause (N := 201) (Nat.le_refl 201) heb hsm hun (σ0 := s9) (h := false) (w := 0) (Nat.le_refl 201) hX (FR.rf _ _ _ _ _) hG h39 h40 (fun _ => hfd)
  have key := it_for (β := St × Bool × Int × Sx × Nat) (body := fun (kb : St → Option St) (t : St) => fX12_goThrough_55_L32 (fun s10 => if (zI s10 38) = (-1 : Int32) then ((fX12_look s10).bind fun r11 => if r11.1 = (-1 : Int32) then (some r11.2) else ((fX12_fails r11.2).bind fun r12 => some r12.2)) else (some s10)) (fun σ => kb σ) t) 100 (by omega) (fun i b => b.1) (fun i b => HC2 s9 b.1 ∧ RX 55 b0 bs e s9 b.2.1 b.2.2.1 b.1 (cls e b.2.2.2.1) ∧ gX b.2.2.2.2 b.2.2.2.1 ∧ b.2.2.2.2 + 2 * i ≤ 201 ∧ pHab e bs = clL e (200 - i) b.2.1 b.2.2.1 b.2.2.2.1) (fun i b z => ∃ υ, z = some υ ∧ HC2 s9 υ ∧ zI υ 38 = fx (pHab e bs).2 ∧ (EM s9 e → fx (pHab e bs).2 = mI → zI υ 41 = iI (pHab e bs).1)) ?_ 0 (t9, false, 0, .inr (tkF Jh 4 gh bs), 201) (Nat.zero_le _) ⟨g2, g3, hX, (by show 201 + 2 * 0 ≤ 201; omega), rfl⟩
  · obtain ⟨υ, k1, k2, k3, k4⟩ := key
    refine ⟨υ, ?_, ?_, k3, fun h => k4 (hEM h)⟩
    · unfold fX12_goThrough_55 fX12_begin_55
      rw [mI_eq, bnd, bnd, bnd, bnd, bnd, bnd, bnd, bnd, bnd, bnd, l0, l121, hs9, g1, bnd]
      exact k1
    · exact hF9.tr (k2.mono (by decide) (by decide) (by decide) (by decide))
  · rintro i ⟨z, h, u, x, M⟩ hi ⟨jF, jR, jx, jM, jt⟩ kb hkb
    have hF : HC2 s9 z := jF
    have hR : RX 55 b0 bs e s9 h u z (cls e x) := jR
    have hx : gX M x := jx
    have hMi : M + 2 * i ≤ 201 := jM
    have ht : pHab e bs = clL e (200 - i) h u x := jt
    clear jF jR jx jM jt
    show ∃ υ, fX12_goThrough_55_L32 _ (fun σ => kb σ) z = some υ ∧ _
    have hgx := gX_cl heb hx
    rw [show 200 - i = (200 - (i + 1)) + 1 by omega] at ht
    have ht : pHab e bs = if tb 59 (cls e x).2.2 = true then clL e (200 - (i + 1)) (h || (cls e x).1) (if ((cls e x).1 && !h) = true then (cls e x).2.1 else u) (tlx (cls e x).2.2) else (if ((cls e x).1 && !h) = true then (cls e x).2.1 else u, (cls e x).2.2) := ht
    unfold fX12_goThrough_55_L32
    rw [mI_eq]
    rcases hR with ⟨hGz, h39z, hv⟩ | ⟨f, f1, f2, f3⟩
    · have h38 := hGz.m1
      obtain ⟨p, y1, a1, a2, a3, a4, a5⟩ := m_lookS hGz
      have c59 := lk_sg (v := 59) a1 a3 (by decide) (by decide)
      rw [← a2] at c59
      have hG1 : MG y1 55 b0 bs (cls e x).2.2 := ⟨p, a1, a2⟩
      have hF1 : HC2 s9 y1 := hF.tr (HC2.of (HM.of a4 (by decide)))
      have h391 : zI y1 39 = nI 0 := (a4.2.2.1 39 (by decide)).trans h39z
      rw [if_pos h38, a5, bnd, l59]
      by_cases h59 : sg (cls e x).2.2 = 59
      · have hi100 : i < 100 := by
          apply Decidable.byContradiction
          intro hc
          have := gX_1 (gX_mono hgx (show M - 1 ≤ 1 by omega))
          omega
        obtain ⟨n1, n2, n3, n4, n5⟩ := sg_next a1 a3 (by rw [← a2]; omega)
        rw [← a2] at n4
        have hx1 := gX_tl hgx (by omega)
        have h37 := a1.2.2.2.2.1
        rw [if_pos (tbs_of (by decide) h59)] at ht
        rw [if_pos (c59.mpr h59), bnd, h37, l1, nI_add]
        have hF2 : HC2 s9 (uI y1 37 (nI (p + 1))) := hF1.tr (FR.uI (FR.rf _ _ _ _ _) (by decide))
        have hF0 : HC2 z (uI y1 37 (nI (p + 1))) := (HC2.of (HM.of a4 (by decide))).tr (FR.uI (FR.rf _ _ _ _ _) (by decide))
        have hk : ∀ k, k ∈ [39, 40, 41, 42] → zI (uI y1 37 (nI (p + 1))) k = zI z k := by
          intro k hk
          have hn : k ≠ 37 := fun h => by rw [h] at hk; exact absurd hk (by decide)
          rw [zI_ne hn]
          exact a4.2.2.1 k (fun h => hn (List.mem_singleton.mp h))
        have h40z : zI z 40 = nI 121 := (hF.2.2.1 40 (by decide)).trans h40
        obtain ⟨z2, r1, r2, r3⟩ := m_clause (N := 201) (Nat.le_refl 201) heb hsm hun (σ0 := s9) (h := h || (cls e x).1) (w := if ((cls e x).1 && !h) = true then (cls e x).2.1 else u) (show M - 1 - 1 ≤ 201 by omega) hx1 hF2 ⟨p + 1, n5, n4⟩ ((hk 39 (by decide)).trans h39z) ((hk 40 (by decide)).trans h40z) (by rw [hk 41 (by decide), hk 42 (by decide)]; exact hv)
        obtain ⟨υ, k1, k2, k3, k4⟩ := hkb (z2, h || (cls e x).1, (if ((cls e x).1 && !h) = true then (cls e x).2.1 else u), tlx (cls e x).2.2, M - 1 - 1) hi100 ⟨hF2.tr r2, r3, hx1, by show M - 1 - 1 + 2 * (i + 1) ≤ 201; omega, ht⟩
        refine ⟨υ, ?_, k2, k3, k4⟩
        rw [r1, bnd]
        exact k1
      · have htb : tb 59 (cls e x).2.2 = false := tb_F (by decide) h59
        rw [htb, if_neg (by decide)] at ht
        rw [if_neg (fun h => h59 (c59.mp h))]
        have h381 := hG1.m1
        show ∃ υ, (if zI y1 38 = mI then _ else _) = some υ ∧ _
        rw [if_pos h381]
        obtain ⟨p2, y2, b1, b2, b3, b4, b5⟩ := m_lookS hG1
        have hF2 : HC2 s9 y2 := hF1.tr (HC2.of (HM.of b4 (by decide)))
        rw [b5, bnd]
        have hh := tk_head (J := Jh) (M := 4) (gr := gh) b1.2.2.2.2.2.2.2.1 b3
        have hp200 := b1.2.2.2.2.2.2.2.2.1
        have h41 : zI y2 41 = zI z 41 := (b4.2.2.1 41 (by decide)).trans (a4.2.2.1 41 (by decide))
        by_cases hp : p2 < bs.length
        · have hlk : ¬ lk bs p2 = mI := by
            rw [show lk bs p2 = nI (bs.getD p2 0) from if_pos hp, pF_m1 (by have := (b1.2.2.2.2.2.2.2.2.2 _ (getD_mem (d := 0) hp)).2; omega)]
            exact fun h => h
          have hfx : fx (pHab e bs).2 = nI p2 := by
            rw [ht]
            show fx (cls e x).2.2 = _
            rw [b2]
            show (if (hd (tkR Jh 4 gh bs p2)).1 = 256 then mI else nI (hd (tkR Jh 4 gh bs p2)).2) = _
            have hne : ¬ (hd (tkR Jh 4 gh bs p2)).1 = 256 := by
              rcases hh.2 with ⟨h3, h4⟩ | ⟨h3, h4, h5⟩ | ⟨h3, h4, h5⟩
              · omega
              · omega
              · have hb := (b1.2.2.2.2.2.2.2.2.2 _ (getD_mem (d := 0) hp)).2
                rw [h5]
                show ¬ bs.getD p2 0 = 256
                omega
            rw [if_neg hne, hh.1]
          obtain ⟨d1, d2⟩ := m_failS b1 b3
          refine ⟨uI y2 38 (nI p2), ?_, hF2.tr (FR.uI (FR.rf _ _ _ _ _) (by decide)), by rw [zI_uI, hfx], fun _ hm => ?_⟩
          · rw [if_neg hlk, d1, bnd]
          · rw [hfx, pF_m1 (by omega)] at hm
            exact absurd hm (fun h => h)
        · have hlk : lk bs p2 = mI := if_neg hp
          have hfx : fx (pHab e bs).2 = mI := by
            rw [ht]
            show fx (cls e x).2.2 = _
            rw [b2]
            show (if (hd (tkR Jh 4 gh bs p2)).1 = 256 then mI else nI (hd (tkR Jh 4 gh bs p2)).2) = _
            have he : (hd (tkR Jh 4 gh bs p2)).1 = 256 := by
              rcases hh.2 with ⟨h3, h4⟩ | ⟨h3, h4, h5⟩ | ⟨h3, h4, h5⟩
              · rw [h4]
              · omega
              · omega
            rw [if_pos he]
          refine ⟨y2, by rw [if_pos hlk], hF2, ?_, fun hE _ => ?_⟩
          · rw [hfx]
            exact b1.2.2.2.2.2.1
          · rw [h41, (hv hE).2, ht]
    · have h38 : ¬ zI z 38 = mI := by
        rw [f2, pF_m1 (by omega)]
        exact fun h => h
      rw [tb_flt f1 (by decide), if_neg (by decide)] at ht
      rw [if_neg h38]
      show ∃ υ, (if zI z 38 = mI then _ else _) = some υ ∧ _
      rw [if_neg h38]
      refine ⟨z, rfl, hF, ?_, fun _ hm => ?_⟩
      · rw [f2, ht]
        exact (flt_fx f1).symm
      · rw [ht] at hm
        have hm : fx (cls e x).2.2 = mI := hm
        rw [flt_fx f1, pF_m1 (by omega)] at hm
        exact absurd hm (fun h => h)

theorem m_go_57 {b0 : Nat} {bs : List Nat} {n v f l w : Nat} {σ : St} (hb : bnd6 (n : Int) ∧ bnd6 (v : Int) ∧ bnd6 (f : Int) ∧ bnd6 (l : Int) ∧ bnd6 (w : Int)) (heb : eB (evS n v f l w)) (hb0 : b0 + bs.length ≤ 800) (hda : ∀ j, j < bs.length → zA σ 57 (b0 + j) = sbv (bs.getD j 0)) (hl : bs.length ≤ 200) (hby : ∀ b, b ∈ bs → 1 ≤ b ∧ b < 256) (hX : gX 201 (.inr (tkF Jh 4 gh bs))) : ∃ υ, fX12_goThrough_57 σ (nI b0) (nI bs.length) = some υ ∧ FR [] [] [35, 36, 37, 38, 39, 40, 41, 42] [] (uR σ 3 57) υ ∧ zI υ 38 = fx (pHab (evS n v f l w) bs).2 ∧ (EM σ (evS n v f l w) → fx (pHab (evS n v f l w) bs).2 = mI → zI υ 41 = iI (pHab (evS n v f l w) bs).1) := by
  have hsm := m_sumO (q := 57) (b0 := b0) (bs := bs) (Nat.le_refl 201) hb heb 0 (by omega)
  have hun := m_unO (q := 57) (b0 := b0) (bs := bs) (Nat.le_refl 201) hb heb
  generalize hs9 : uI (uI (uI (uI (uI (uI (uI (uI (uR σ 3 57) 35 (nI b0)) 36 (nI bs.length)) 37 (nI 0)) 38 mI) 40 (nI 121)) 39 (nI 0)) 42 (nI 0)) 41 (nI 0) = s9
  have hF9 : FR [] [] [35, 36, 37, 38, 39, 40, 41, 42] [] (uR σ 3 57) s9 := by
    rw [← hs9]
    exact FR.uI (FR.uI (FR.uI (FR.uI (FR.uI (FR.uI (FR.uI (FR.uI (FR.rf _ _ _ _ _) (by decide)) (by decide)) (by decide)) (by decide)) (by decide)) (by decide)) (by decide)) (by decide)
  have hM : MX s9 57 b0 bs 0 := by
    rw [← hs9]
    refine ⟨?_, .inr ⟨rfl, hb0⟩, ?_, ?_, ?_, ?_, ?_, Nat.zero_le _, hl, hby⟩
    · simp (disch := omega) only [l0, l1, l2, l3, l4, l5, l6, l7, l8, l9, l10, l11, l12, l16, l18, l19, l20, l21, l24, l96, l128, l100, l144, l200, l256, l288, l1536, l1728, l1800, bnd, nI_add, pk_mul, pI_sub, pI_m1, pT_le, pF_le, pT_lt, pF_lt, pT_eq, pF_eq, pF_m1, mF_eq, mT_eq, mT_lt, mF_le, lm1, rd_nI, wr_nI, cl_nI, pk_us, un_ne, pk_uLs, uL_ne, zI_uI, zI_uJ, zI_uA, zI_uB, zI_uR, zI_uN, zJ_uI, zJ_uJ, zJ_uA, zJ_uB, zJ_uR, zJ_uN, zA_uI, zA_uJ, zA_uA, zA_uB, zA_uR, zA_uN, zB_uI, zB_uJ, zB_uA, zB_uB, zB_uR, zB_uN, zR_uI, zR_uJ, zR_uA, zR_uB, zR_uR, zR_uN, zN_uI, zN_uJ, zN_uA, zN_uB, zN_uR, zN_uN, zI_ne, zJ_ne, zA_ne, zB_ne, zR_ne, zN_ne, bi_T, bi_F, nz16, ↓reduceIte, not_true_eq_false, not_false_eq_true, Bool.false_eq_true, reduceCtorEq]
    · simp (disch := omega) only [l0, l1, l2, l3, l4, l5, l6, l7, l8, l9, l10, l11, l12, l16, l18, l19, l20, l21, l24, l96, l128, l100, l144, l200, l256, l288, l1536, l1728, l1800, bnd, nI_add, pk_mul, pI_sub, pI_m1, pT_le, pF_le, pT_lt, pF_lt, pT_eq, pF_eq, pF_m1, mF_eq, mT_eq, mT_lt, mF_le, lm1, rd_nI, wr_nI, cl_nI, pk_us, un_ne, pk_uLs, uL_ne, zI_uI, zI_uJ, zI_uA, zI_uB, zI_uR, zI_uN, zJ_uI, zJ_uJ, zJ_uA, zJ_uB, zJ_uR, zJ_uN, zA_uI, zA_uJ, zA_uA, zA_uB, zA_uR, zA_uN, zB_uI, zB_uJ, zB_uA, zB_uB, zB_uR, zB_uN, zR_uI, zR_uJ, zR_uA, zR_uB, zR_uR, zR_uN, zN_uI, zN_uJ, zN_uA, zN_uB, zN_uR, zN_uN, zI_ne, zJ_ne, zA_ne, zB_ne, zR_ne, zN_ne, bi_T, bi_F, nz16, ↓reduceIte, not_true_eq_false, not_false_eq_true, Bool.false_eq_true, reduceCtorEq]
    · simp (disch := omega) only [l0, l1, l2, l3, l4, l5, l6, l7, l8, l9, l10, l11, l12, l16, l18, l19, l20, l21, l24, l96, l128, l100, l144, l200, l256, l288, l1536, l1728, l1800, bnd, nI_add, pk_mul, pI_sub, pI_m1, pT_le, pF_le, pT_lt, pF_lt, pT_eq, pF_eq, pF_m1, mF_eq, mT_eq, mT_lt, mF_le, lm1, rd_nI, wr_nI, cl_nI, pk_us, un_ne, pk_uLs, uL_ne, zI_uI, zI_uJ, zI_uA, zI_uB, zI_uR, zI_uN, zJ_uI, zJ_uJ, zJ_uA, zJ_uB, zJ_uR, zJ_uN, zA_uI, zA_uJ, zA_uA, zA_uB, zA_uR, zA_uN, zB_uI, zB_uJ, zB_uA, zB_uB, zB_uR, zB_uN, zR_uI, zR_uJ, zR_uA, zR_uB, zR_uR, zR_uN, zN_uI, zN_uJ, zN_uA, zN_uB, zN_uR, zN_uN, zI_ne, zJ_ne, zA_ne, zB_ne, zR_ne, zN_ne, bi_T, bi_F, nz16, ↓reduceIte, not_true_eq_false, not_false_eq_true, Bool.false_eq_true, reduceCtorEq]
    · simp (disch := omega) only [l0, l1, l2, l3, l4, l5, l6, l7, l8, l9, l10, l11, l12, l16, l18, l19, l20, l21, l24, l96, l128, l100, l144, l200, l256, l288, l1536, l1728, l1800, bnd, nI_add, pk_mul, pI_sub, pI_m1, pT_le, pF_le, pT_lt, pF_lt, pT_eq, pF_eq, pF_m1, mF_eq, mT_eq, mT_lt, mF_le, lm1, rd_nI, wr_nI, cl_nI, pk_us, un_ne, pk_uLs, uL_ne, zI_uI, zI_uJ, zI_uA, zI_uB, zI_uR, zI_uN, zJ_uI, zJ_uJ, zJ_uA, zJ_uB, zJ_uR, zJ_uN, zA_uI, zA_uJ, zA_uA, zA_uB, zA_uR, zA_uN, zB_uI, zB_uJ, zB_uA, zB_uB, zB_uR, zB_uN, zR_uI, zR_uJ, zR_uA, zR_uB, zR_uR, zR_uN, zN_uI, zN_uJ, zN_uA, zN_uB, zN_uR, zN_uN, zI_ne, zJ_ne, zA_ne, zB_ne, zR_ne, zN_ne, bi_T, bi_F, nz16, ↓reduceIte, not_true_eq_false, not_false_eq_true, Bool.false_eq_true, reduceCtorEq]
    · simp (disch := omega) only [l0, l1, l2, l3, l4, l5, l6, l7, l8, l9, l10, l11, l12, l16, l18, l19, l20, l21, l24, l96, l128, l100, l144, l200, l256, l288, l1536, l1728, l1800, bnd, nI_add, pk_mul, pI_sub, pI_m1, pT_le, pF_le, pT_lt, pF_lt, pT_eq, pF_eq, pF_m1, mF_eq, mT_eq, mT_lt, mF_le, lm1, rd_nI, wr_nI, cl_nI, pk_us, un_ne, pk_uLs, uL_ne, zI_uI, zI_uJ, zI_uA, zI_uB, zI_uR, zI_uN, zJ_uI, zJ_uJ, zJ_uA, zJ_uB, zJ_uR, zJ_uN, zA_uI, zA_uJ, zA_uA, zA_uB, zA_uR, zA_uN, zB_uI, zB_uJ, zB_uA, zB_uB, zB_uR, zB_uN, zR_uI, zR_uJ, zR_uA, zR_uB, zR_uR, zR_uN, zN_uI, zN_uJ, zN_uA, zN_uB, zN_uR, zN_uN, zI_ne, zJ_ne, zA_ne, zB_ne, zR_ne, zN_ne, bi_T, bi_F, nz16, ↓reduceIte, not_true_eq_false, not_false_eq_true, Bool.false_eq_true, reduceCtorEq]
    · intro j hj
      rw [← hda j hj]
      simp (disch := omega) only [l0, l1, l2, l3, l4, l5, l6, l7, l8, l9, l10, l11, l12, l16, l18, l19, l20, l21, l24, l96, l128, l100, l144, l200, l256, l288, l1536, l1728, l1800, bnd, nI_add, pk_mul, pI_sub, pI_m1, pT_le, pF_le, pT_lt, pF_lt, pT_eq, pF_eq, pF_m1, mF_eq, mT_eq, mT_lt, mF_le, lm1, rd_nI, wr_nI, cl_nI, pk_us, un_ne, pk_uLs, uL_ne, zI_uI, zI_uJ, zI_uA, zI_uB, zI_uR, zI_uN, zJ_uI, zJ_uJ, zJ_uA, zJ_uB, zJ_uR, zJ_uN, zA_uI, zA_uJ, zA_uA, zA_uB, zA_uR, zA_uN, zB_uI, zB_uJ, zB_uA, zB_uB, zB_uR, zB_uN, zR_uI, zR_uJ, zR_uA, zR_uB, zR_uR, zR_uN, zN_uI, zN_uJ, zN_uA, zN_uB, zN_uR, zN_uN, zI_ne, zJ_ne, zA_ne, zB_ne, zR_ne, zN_ne, bi_T, bi_F, nz16, ↓reduceIte, not_true_eq_false, not_false_eq_true, Bool.false_eq_true, reduceCtorEq]
  have h39 : zI s9 39 = nI 0 := by rw [← hs9]; simp (disch := omega) only [l0, l1, l2, l3, l4, l5, l6, l7, l8, l9, l10, l11, l12, l16, l18, l19, l20, l21, l24, l96, l128, l100, l144, l200, l256, l288, l1536, l1728, l1800, bnd, nI_add, pk_mul, pI_sub, pI_m1, pT_le, pF_le, pT_lt, pF_lt, pT_eq, pF_eq, pF_m1, mF_eq, mT_eq, mT_lt, mF_le, lm1, rd_nI, wr_nI, cl_nI, pk_us, un_ne, pk_uLs, uL_ne, zI_uI, zI_uJ, zI_uA, zI_uB, zI_uR, zI_uN, zJ_uI, zJ_uJ, zJ_uA, zJ_uB, zJ_uR, zJ_uN, zA_uI, zA_uJ, zA_uA, zA_uB, zA_uR, zA_uN, zB_uI, zB_uJ, zB_uA, zB_uB, zB_uR, zB_uN, zR_uI, zR_uJ, zR_uA, zR_uB, zR_uR, zR_uN, zN_uI, zN_uJ, zN_uA, zN_uB, zN_uR, zN_uN, zI_ne, zJ_ne, zA_ne, zB_ne, zR_ne, zN_ne, bi_T, bi_F, nz16, ↓reduceIte, not_true_eq_false, not_false_eq_true, Bool.false_eq_true, reduceCtorEq]
  have h40 : zI s9 40 = nI 121 := by rw [← hs9]; simp (disch := omega) only [l0, l1, l2, l3, l4, l5, l6, l7, l8, l9, l10, l11, l12, l16, l18, l19, l20, l21, l24, l96, l128, l100, l144, l200, l256, l288, l1536, l1728, l1800, bnd, nI_add, pk_mul, pI_sub, pI_m1, pT_le, pF_le, pT_lt, pF_lt, pT_eq, pF_eq, pF_m1, mF_eq, mT_eq, mT_lt, mF_le, lm1, rd_nI, wr_nI, cl_nI, pk_us, un_ne, pk_uLs, uL_ne, zI_uI, zI_uJ, zI_uA, zI_uB, zI_uR, zI_uN, zJ_uI, zJ_uJ, zJ_uA, zJ_uB, zJ_uR, zJ_uN, zA_uI, zA_uJ, zA_uA, zA_uB, zA_uR, zA_uN, zB_uI, zB_uJ, zB_uA, zB_uB, zB_uR, zB_uN, zR_uI, zR_uJ, zR_uA, zR_uB, zR_uR, zR_uN, zN_uI, zN_uJ, zN_uA, zN_uB, zN_uR, zN_uN, zI_ne, zJ_ne, zA_ne, zB_ne, zR_ne, zN_ne, bi_T, bi_F, nz16, ↓reduceIte, not_true_eq_false, not_false_eq_true, Bool.false_eq_true, reduceCtorEq]
  have hfd : zI s9 42 = bi false ∧ zI s9 41 = iI 0 := by
    rw [← hs9]
    constructor
    · simp (disch := omega) only [l0, l1, l2, l3, l4, l5, l6, l7, l8, l9, l10, l11, l12, l16, l18, l19, l20, l21, l24, l96, l128, l100, l144, l200, l256, l288, l1536, l1728, l1800, bnd, nI_add, pk_mul, pI_sub, pI_m1, pT_le, pF_le, pT_lt, pF_lt, pT_eq, pF_eq, pF_m1, mF_eq, mT_eq, mT_lt, mF_le, lm1, rd_nI, wr_nI, cl_nI, pk_us, un_ne, pk_uLs, uL_ne, zI_uI, zI_uJ, zI_uA, zI_uB, zI_uR, zI_uN, zJ_uI, zJ_uJ, zJ_uA, zJ_uB, zJ_uR, zJ_uN, zA_uI, zA_uJ, zA_uA, zA_uB, zA_uR, zA_uN, zB_uI, zB_uJ, zB_uA, zB_uB, zB_uR, zB_uN, zR_uI, zR_uJ, zR_uA, zR_uB, zR_uR, zR_uN, zN_uI, zN_uJ, zN_uA, zN_uB, zN_uR, zN_uN, zI_ne, zJ_ne, zA_ne, zB_ne, zR_ne, zN_ne, bi_T, bi_F, nz16, ↓reduceIte, not_true_eq_false, not_false_eq_true, Bool.false_eq_true, reduceCtorEq]
    · simp (disch := omega) only [l0, l1, l2, l3, l4, l5, l6, l7, l8, l9, l10, l11, l12, l16, l18, l19, l20, l21, l24, l96, l128, l100, l144, l200, l256, l288, l1536, l1728, l1800, bnd, nI_add, pk_mul, pI_sub, pI_m1, pT_le, pF_le, pT_lt, pF_lt, pT_eq, pF_eq, pF_m1, mF_eq, mT_eq, mT_lt, mF_le, lm1, rd_nI, wr_nI, cl_nI, pk_us, un_ne, pk_uLs, uL_ne, zI_uI, zI_uJ, zI_uA, zI_uB, zI_uR, zI_uN, zJ_uI, zJ_uJ, zJ_uA, zJ_uB, zJ_uR, zJ_uN, zA_uI, zA_uJ, zA_uA, zA_uB, zA_uR, zA_uN, zB_uI, zB_uJ, zB_uA, zB_uB, zB_uR, zB_uN, zR_uI, zR_uJ, zR_uA, zR_uB, zR_uR, zR_uN, zN_uI, zN_uJ, zN_uA, zN_uB, zN_uR, zN_uN, zI_ne, zJ_ne, zA_ne, zB_ne, zR_ne, zN_ne, bi_T, bi_F, nz16, ↓reduceIte, not_true_eq_false, not_false_eq_true, Bool.false_eq_true, reduceCtorEq]
      rfl
  have hEM : EM σ (evS n v f l w) → EM s9 (evS n v f l w) := by
    intro h
    unfold EM
    rw [hF9.1 59 (by decide), zA_uR]
    exact h
  have hG : MG s9 57 b0 bs (.inr (tkF Jh 4 gh bs)) := ⟨0, hM, rfl⟩
  generalize hev : evS n v f l w = e at *
  obtain ⟨t9, g1, g2, g3⟩ := m_clause (N := 201) (Nat.le_refl 201) heb hsm hun (σ0 := s9) (h := false) (w := 0) (Nat.le_refl 201) hX (FR.rf _ _ _ _ _) hG h39 h40 (fun _ => hfd)
  have key := it_for (β := St × Bool × Int × Sx × Nat) (body := fun (kb : St → Option St) (t : St) => fX12_goThrough_57_L32 (fun s10 => if (zI s10 38) = (-1 : Int32) then ((fX12_look s10).bind fun r11 => if r11.1 = (-1 : Int32) then (some r11.2) else ((fX12_fails r11.2).bind fun r12 => some r12.2)) else (some s10)) (fun σ => kb σ) t) 100 (by omega) (fun i b => b.1) (fun i b => HC2 s9 b.1 ∧ RX 57 b0 bs e s9 b.2.1 b.2.2.1 b.1 (cls e b.2.2.2.1) ∧ gX b.2.2.2.2 b.2.2.2.1 ∧ b.2.2.2.2 + 2 * i ≤ 201 ∧ pHab e bs = clL e (200 - i) b.2.1 b.2.2.1 b.2.2.2.1) (fun i b z => ∃ υ, z = some υ ∧ HC2 s9 υ ∧ zI υ 38 = fx (pHab e bs).2 ∧ (EM s9 e → fx (pHab e bs).2 = mI → zI υ 41 = iI (pHab e bs).1)) ?_ 0 (t9, false, 0, .inr (tkF Jh 4 gh bs), 201) (Nat.zero_le _) ⟨g2, g3, hX, (by show 201 + 2 * 0 ≤ 201; omega), rfl⟩
  · obtain ⟨υ, k1, k2, k3, k4⟩ := key
    refine ⟨υ, ?_, ?_, k3, fun h => k4 (hEM h)⟩
    · unfold fX12_goThrough_57 fX12_begin_57
      rw [mI_eq, bnd, bnd, bnd, bnd, bnd, bnd, bnd, bnd, bnd, bnd, l0, l121, hs9, g1, bnd]
      exact k1
    · exact hF9.tr (k2.mono (by decide) (by decide) (by decide) (by decide))
  · rintro i ⟨z, h, u, x, M⟩ hi ⟨jF, jR, jx, jM, jt⟩ kb hkb
    have hF : HC2 s9 z := jF
    have hR : RX 57 b0 bs e s9 h u z (cls e x) := jR
    have hx : gX M x := jx
    have hMi : M + 2 * i ≤ 201 := jM
    have ht : pHab e bs = clL e (200 - i) h u x := jt
    clear jF jR jx jM jt
    show ∃ υ, fX12_goThrough_57_L32 _ (fun σ => kb σ) z = some υ ∧ _
    have hgx := gX_cl heb hx
    rw [show 200 - i = (200 - (i + 1)) + 1 by omega] at ht
    have ht : pHab e bs = if tb 59 (cls e x).2.2 = true then clL e (200 - (i + 1)) (h || (cls e x).1) (if ((cls e x).1 && !h) = true then (cls e x).2.1 else u) (tlx (cls e x).2.2) else (if ((cls e x).1 && !h) = true then (cls e x).2.1 else u, (cls e x).2.2) := ht
    unfold fX12_goThrough_57_L32
    rw [mI_eq]
    rcases hR with ⟨hGz, h39z, hv⟩ | ⟨f, f1, f2, f3⟩
    · have h38 := hGz.m1
      obtain ⟨p, y1, a1, a2, a3, a4, a5⟩ := m_lookS hGz
      have c59 := lk_sg (v := 59) a1 a3 (by decide) (by decide)
      rw [← a2] at c59
      have hG1 : MG y1 57 b0 bs (cls e x).2.2 := ⟨p, a1, a2⟩
      have hF1 : HC2 s9 y1 := hF.tr (HC2.of (HM.of a4 (by decide)))
      have h391 : zI y1 39 = nI 0 := (a4.2.2.1 39 (by decide)).trans h39z
      rw [if_pos h38, a5, bnd, l59]
      by_cases h59 : sg (cls e x).2.2 = 59
      · have hi100 : i < 100 := by
          apply Decidable.byContradiction
          intro hc
          have := gX_1 (gX_mono hgx (show M - 1 ≤ 1 by omega))
          omega
        obtain ⟨n1, n2, n3, n4, n5⟩ := sg_next a1 a3 (by rw [← a2]; omega)
        rw [← a2] at n4
        have hx1 := gX_tl hgx (by omega)
        have h37 := a1.2.2.2.2.1
        rw [if_pos (tbs_of (by decide) h59)] at ht
        rw [if_pos (c59.mpr h59), bnd, h37, l1, nI_add]
        have hF2 : HC2 s9 (uI y1 37 (nI (p + 1))) := hF1.tr (FR.uI (FR.rf _ _ _ _ _) (by decide))
        have hF0 : HC2 z (uI y1 37 (nI (p + 1))) := (HC2.of (HM.of a4 (by decide))).tr (FR.uI (FR.rf _ _ _ _ _) (by decide))
        have hk : ∀ k, k ∈ [39, 40, 41, 42] → zI (uI y1 37 (nI (p + 1))) k = zI z k := by
          intro k hk
          have hn : k ≠ 37 := fun h => by rw [h] at hk; exact absurd hk (by decide)
          rw [zI_ne hn]
          exact a4.2.2.1 k (fun h => hn (List.mem_singleton.mp h))
        have h40z : zI z 40 = nI 121 := (hF.2.2.1 40 (by decide)).trans h40
        obtain ⟨z2, r1, r2, r3⟩ := m_clause (N := 201) (Nat.le_refl 201) heb hsm hun (σ0 := s9) (h := h || (cls e x).1) (w := if ((cls e x).1 && !h) = true then (cls e x).2.1 else u) (show M - 1 - 1 ≤ 201 by omega) hx1 hF2 ⟨p + 1, n5, n4⟩ ((hk 39 (by decide)).trans h39z) ((hk 40 (by decide)).trans h40z) (by rw [hk 41 (by decide), hk 42 (by decide)]; exact hv)
        obtain ⟨υ, k1, k2, k3, k4⟩ := hkb (z2, h || (cls e x).1, (if ((cls e x).1 && !h) = true then (cls e x).2.1 else u), tlx (cls e x).2.2, M - 1 - 1) hi100 ⟨hF2.tr r2, r3, hx1, by show M - 1 - 1 + 2 * (i + 1) ≤ 201; omega, ht⟩
        refine ⟨υ, ?_, k2, k3, k4⟩
        rw [r1, bnd]
        exact k1
      · have htb : tb 59 (cls e x).2.2 = false := tb_F (by decide) h59
        rw [htb, if_neg (by decide)] at ht
        rw [if_neg (fun h => h59 (c59.mp h))]
        have h381 := hG1.m1
        show ∃ υ, (if zI y1 38 = mI then _ else _) = some υ ∧ _
        rw [if_pos h381]
        obtain ⟨p2, y2, b1, b2, b3, b4, b5⟩ := m_lookS hG1
        have hF2 : HC2 s9 y2 := hF1.tr (HC2.of (HM.of b4 (by decide)))
        rw [b5, bnd]
        have hh := tk_head (J := Jh) (M := 4) (gr := gh) b1.2.2.2.2.2.2.2.1 b3
        have hp200 := b1.2.2.2.2.2.2.2.2.1
        have h41 : zI y2 41 = zI z 41 := (b4.2.2.1 41 (by decide)).trans (a4.2.2.1 41 (by decide))
        by_cases hp : p2 < bs.length
        · have hlk : ¬ lk bs p2 = mI := by
            rw [show lk bs p2 = nI (bs.getD p2 0) from if_pos hp, pF_m1 (by have := (b1.2.2.2.2.2.2.2.2.2 _ (getD_mem (d := 0) hp)).2; omega)]
            exact fun h => h
          have hfx : fx (pHab e bs).2 = nI p2 := by
            rw [ht]
            show fx (cls e x).2.2 = _
            rw [b2]
            show (if (hd (tkR Jh 4 gh bs p2)).1 = 256 then mI else nI (hd (tkR Jh 4 gh bs p2)).2) = _
            have hne : ¬ (hd (tkR Jh 4 gh bs p2)).1 = 256 := by
              rcases hh.2 with ⟨h3, h4⟩ | ⟨h3, h4, h5⟩ | ⟨h3, h4, h5⟩
              · omega
              · omega
              · have hb := (b1.2.2.2.2.2.2.2.2.2 _ (getD_mem (d := 0) hp)).2
                rw [h5]
                show ¬ bs.getD p2 0 = 256
                omega
            rw [if_neg hne, hh.1]
          obtain ⟨d1, d2⟩ := m_failS b1 b3
          refine ⟨uI y2 38 (nI p2), ?_, hF2.tr (FR.uI (FR.rf _ _ _ _ _) (by decide)), by rw [zI_uI, hfx], fun _ hm => ?_⟩
          · rw [if_neg hlk, d1, bnd]
          · rw [hfx, pF_m1 (by omega)] at hm
            exact absurd hm (fun h => h)
        · have hlk : lk bs p2 = mI := if_neg hp
          have hfx : fx (pHab e bs).2 = mI := by
            rw [ht]
            show fx (cls e x).2.2 = _
            rw [b2]
            show (if (hd (tkR Jh 4 gh bs p2)).1 = 256 then mI else nI (hd (tkR Jh 4 gh bs p2)).2) = _
            have he : (hd (tkR Jh 4 gh bs p2)).1 = 256 := by
              rcases hh.2 with ⟨h3, h4⟩ | ⟨h3, h4, h5⟩ | ⟨h3, h4, h5⟩
              · rw [h4]
              · omega
              · omega
            rw [if_pos he]
          refine ⟨y2, by rw [if_pos hlk], hF2, ?_, fun hE _ => ?_⟩
          · rw [hfx]
            exact b1.2.2.2.2.2.1
          · rw [h41, (hv hE).2, ht]
    · have h38 : ¬ zI z 38 = mI := by
        rw [f2, pF_m1 (by omega)]
        exact fun h => h
      rw [tb_flt f1 (by decide), if_neg (by decide)] at ht
      rw [if_neg h38]
      show ∃ υ, (if zI z 38 = mI then _ else _) = some υ ∧ _
      rw [if_neg h38]
      refine ⟨z, rfl, hF, ?_, fun _ hm => ?_⟩
      · rw [f2, ht]
        exact (flt_fx f1).symm
      · rw [ht] at hm
        have hm : fx (cls e x).2.2 = mI := hm
        rw [flt_fx f1, pF_m1 (by omega)] at hm
        exact absurd hm (fun h => h)
