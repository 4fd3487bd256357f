/-! the model reads a plot *-/
theorem bc_step : ∀ b, b < 1024 → ∀ k, k < 10 → b.testBit k = false → bc (b ||| 2 ^ k) = bc b + 1 := by decide +kernel
theorem bc_full : ∀ b, b < 1024 → bc b = 10 → ∀ k, k < 10 → b.testBit k = true := by decide +kernel
theorem bc_zero : ∀ b, b < 1024 → bc b = 0 → b = 0 := by decide +kernel
theorem l106 : (106 : Int32) = nI 106 := nrfl rfl
theorem mlt97 : mI < nI 97 := by decide
/-- the token at a place, of a plot -/
theorem tk_p {bs : List Nat} {p : Nat} (hb : ∀ b, b ∈ bs → 1 ≤ b ∧ b < 256) (hp : p ≤ bs.length) (h32 : p < bs.length → bs.getD p 0 ≠ 32) : (hd (tkR Jp 0 gp bs p)).2 = p ∧ ((p = bs.length ∧ (hd (tkR Jp 0 gp bs p)).1 = 256 ∧ lk bs p = mI) ∨ (p < bs.length ∧ (hd (tkR Jp 0 gp bs p)).1 = bs.getD p 0 ∧ bs.getD p 0 < 256 ∧ lk bs p = nI (bs.getD p 0) ∧ (tkR Jp 0 gp bs p).tail = tkR Jp 0 gp bs (p + 1))) := by
  obtain ⟨h1, h2⟩ := tk_head (J := Jp) (M := 0) (gr := gp) hp h32
  refine ⟨h1, ?_⟩
  rcases h2 with ⟨h3, h4⟩ | ⟨h3, h4, h5⟩ | ⟨h3, h4, h5⟩
  · exact .inl ⟨h3, h4, if_neg (by omega)⟩
  · cases h4
  · refine .inr ⟨h3, by rw [h5]; rfl, (hb _ (getD_mem (d := 0) h3)).2, if_pos h3, by rw [h5]; rfl⟩
theorem sg_inr {R : List Tk} (h : (hd R).1 < 1000) : sg (.inr R) = (hd R).1 := if_pos h
theorem m_scene {y0 : St} {bs : List Nat} {p0 : Nat} {v1 : Int32} (k1 : St → Option St) (k2 : St → Int32 → Int32 → Option St) (h : MX y0 55 0 bs p0) (h32 : p0 < bs.length → bs.getD p0 0 ≠ 32) : ∃ y p, FR [] [] [37] [] y0 y ∧ MX y 55 0 bs p ∧ (p < bs.length → bs.getD p 0 ≠ 32) ∧ ((∃ b, fX12_readPlot_P34 v1 k1 k2 y0 (nI 0) (lk bs p0) = k2 y (nI b) (lk bs p) ∧ 0 < b ∧ b < 1024 ∧ pSc (.inr (tkR Jp 0 gp bs p0)) = (b, .inr (tkR Jp 0 gp bs p)) ∧ ((hd (tkR Jp 0 gp bs p)).1 = 256 ∨ (hd (tkR Jp 0 gp bs p)).1 = 47)) ∨ (fX12_readPlot_P34 v1 k1 k2 y0 (nI 0) (lk bs p0) = k1 y ∧ fx (pSc (.inr (tkR Jp 0 gp bs p0))).2 = nI p ∧ tb 47 (pSc (.inr (tkR Jp 0 gp bs p0))).2 = false)) := by
  have hbb := h.2.2.2.2.2.2.2.2.2
  have h200 := h.2.2.2.2.2.2.2.2.1
  have key := it_for (β := St × Nat × Nat) (body := fun (kb : (St × Int32 × Int32) → Option St) (t : St × Int32 × Int32) => fX12_readPlot_L34 v1 k1 k2 (fun σ v3 v4 => kb (σ, v3, v4)) t.1 t.2.1 t.2.2) 10 (by omega) (fun _ b => (b.1, nI b.2.1, lk bs b.2.2)) (fun i b => bc b.2.1 = i ∧ b.2.1 < 1024 ∧ FR [] [] [37] [] y0 b.1 ∧ MX b.1 55 0 bs b.2.2 ∧ (b.2.2 < bs.length → bs.getD b.2.2 0 ≠ 32) ∧ scP 10 0 (.inr (tkR Jp 0 gp bs p0)) = scP (10 - i) b.2.1 (.inr (tkR Jp 0 gp bs b.2.2)) ∧ (0 < i → (hd (tkR Jp 0 gp bs b.2.2)).1 ≠ 256 ∧ (hd (tkR Jp 0 gp bs b.2.2)).1 ≠ 47) ∧ (i = 0 → b.2.2 = p0)) (fun i b z => ∃ y p, FR [] [] [37] [] y0 y ∧ MX y 55 0 bs p ∧ (p < bs.length → bs.getD p 0 ≠ 32) ∧ ((∃ b, z = k2 y (nI b) (lk bs p) ∧ 0 < b ∧ b < 1024 ∧ pSc (.inr (tkR Jp 0 gp bs p0)) = (b, .inr (tkR Jp 0 gp bs p)) ∧ ((hd (tkR Jp 0 gp bs p)).1 = 256 ∨ (hd (tkR Jp 0 gp bs p)).1 = 47)) ∨ (z = k1 y ∧ fx (pSc (.inr (tkR Jp 0 gp bs p0))).2 = nI p ∧ tb 47 (pSc (.inr (tkR Jp 0 gp bs p0))).2 = false))) ?_ 0 (y0, 0, p0) (Nat.zero_le _) ⟨(by decide : bc 0 = 0), (by show 0 < 1024; decide), FR.rf _ _ _ _ _, h, h32, rfl, (fun hx => absurd hx (Nat.lt_irrefl _)), fun _ => rfl⟩
  · exact key
  · rintro i ⟨y, b, p⟩ hi ⟨jb, jl, jF, jM, j32, jt, jh, j0⟩ kb hkb
    have hbc : bc b = i := jb
    have hbl : b < 1024 := jl
    have hF : FR [] [] [37] [] y0 y := jF
    have hM : MX y 55 0 bs p := jM
    have hn : p < bs.length → bs.getD p 0 ≠ 32 := j32
    have ht : scP 10 0 (.inr (tkR Jp 0 gp bs p0)) = scP (10 - i) b (.inr (tkR Jp 0 gp bs p)) := jt
    have hh : 0 < i → (hd (tkR Jp 0 gp bs p)).1 ≠ 256 ∧ (hd (tkR Jp 0 gp bs p)).1 ≠ 47 := jh
    have h0 : i = 0 → p = p0 := j0
    clear jb jl jF jM j32 jt jh j0
    have hpn := hM.2.2.2.2.2.2.2.1
    have h37 := hM.2.2.2.2.1
    obtain ⟨htp, htk⟩ := tk_p hbb hpn hn
    have hsg : sg (.inr (tkR Jp 0 gp bs p)) = (hd (tkR Jp 0 gp bs p)).1 := sg_inr (by rcases htk with h | h <;> omega)
    show ∃ y' p', _ ∧ _ ∧ _ ∧ ((∃ b', fX12_readPlot_L34 v1 k1 k2 (fun σ v3 v4 => kb (σ, v3, v4)) y (nI b) (lk bs p) = _ ∧ _) ∨ (fX12_readPlot_L34 v1 k1 k2 (fun σ v3 v4 => kb (σ, v3, v4)) y (nI b) (lk bs p) = _ ∧ _))
    unfold fX12_readPlot_L34
    by_cases hp : isP b (hd (tkR Jp 0 gp bs p)).1 = true
    · obtain ⟨p1, p2, p3⟩ := isP_lt hp
      have hi10 : i < 10 := by
        apply Decidable.byContradiction
        intro hx
        have h4 := bc_full b hbl (by omega) ((hd (tkR Jp 0 gp bs p)).1 - 97) (by omega)
        rw [p3] at h4
        cases h4
      rcases htk with ⟨q1, q2, q3⟩ | ⟨q1, q2, q3, q4, q5⟩
      · omega
      · rw [q2] at p1 p2 p3 hp
        have hlt : b ||| 2 ^ (bs.getD p 0 - 97) < 1024 := by
          have h2 : 2 ^ (bs.getD p 0 - 97) < 2 ^ 10 := Nat.pow_lt_pow_right (by decide) (by omega)
          exact Nat.or_lt_two_pow (n := 10) hbl h2
        have hM1 := hM.at (show p + 1 ≤ bs.length from q1)
        obtain ⟨p', y2, g1, g2, g3, g4, g5, g6, g7⟩ := m_look hM1
        have et : tkR Jp 0 gp bs (p + 1) = tkR Jp 0 gp bs p' := g6 Jp 0 gp (by decide)
        have hF2 : FR [] [] [37] [] y0 y2 := (FR.uI hF (by decide)).tr g3
        have e1 : scP (10 - i) b (.inr (tkR Jp 0 gp bs p)) = scP (10 - (i + 1)) (b ||| 2 ^ (bs.getD p 0 - 97)) (.inr (tkR Jp 0 gp bs p')) := by
          rw [show 10 - i = (10 - (i + 1)) + 1 by omega]
          show (if isP b (sg (.inr (tkR Jp 0 gp bs p))) = true then scP (10 - (i + 1)) (b ||| 2 ^ (sg (.inr (tkR Jp 0 gp bs p)) - 97)) (.inr (tkR Jp 0 gp bs p).tail) else _) = _
          rw [hsg, q2, if_pos hp, q5, et]
        rw [e1] at ht
        have hbc2 := bc_step b hbl (bs.getD p 0 - 97) (by omega) p3
        obtain ⟨htp', htk'⟩ := tk_p hbb g2 g5
        have hsg' : sg (.inr (tkR Jp 0 gp bs p')) = (hd (tkR Jp 0 gp bs p')).1 := sg_inr (by rcases htk' with h | h <;> omega)
        have hsub : nI (bs.getD p 0) - nI 97 = nI (bs.getD p 0 - 97) := pI_sub (by omega)
        have hhas := m_has (t := b) (r := bs.getD p 0 - 97) (by omega) (by omega)
        rw [p3] at hhas
        have hsl1 := shl1 (n := bs.getD p 0 - 97) (by omega)
        have hpos : 0 < b ||| 2 ^ (bs.getD p 0 - 97) := by
          rcases Nat.eq_zero_or_pos (b ||| 2 ^ (bs.getD p 0 - 97)) with e | e
          · exfalso
            have h9 : (b ||| 2 ^ (bs.getD p 0 - 97)).testBit (bs.getD p 0 - 97) = true := by rw [fb_bit_set, decide_eq_true rfl, Bool.or_true]
            rw [e, Nat.zero_testBit] at h9
            cases h9
          · exact e
        -- the end of a scene
        have fin : (hd (tkR Jp 0 gp bs p')).1 = 256 ∨ (hd (tkR Jp 0 gp bs p')).1 = 47 → pSc (.inr (tkR Jp 0 gp bs p0)) = (b ||| 2 ^ (bs.getD p 0 - 97), .inr (tkR Jp 0 gp bs p')) := by
          intro he
          have e2 : scP (10 - (i + 1)) (b ||| 2 ^ (bs.getD p 0 - 97)) (.inr (tkR Jp 0 gp bs p')) = (b ||| 2 ^ (bs.getD p 0 - 97), .inr (tkR Jp 0 gp bs p')) := by
            cases 10 - (i + 1) with
            | zero => rfl
            | succ n =>
              show (if isP _ (sg (.inr (tkR Jp 0 gp bs p'))) = true then _ else _) = _
              rw [hsg', if_neg (fun hx => by have := isP_lt hx; omega)]
          rw [e2] at ht
          unfold pSc
          rw [ht, if_neg (show ¬ (b ||| 2 ^ (bs.getD p 0 - 97)) = 0 by omega)]
        rcases htk' with ⟨r1, r2, r3⟩ | ⟨r1, r2, r3, r4, r5⟩
        · refine ⟨y2, p', hF2, g4, g5, .inl ⟨b ||| 2 ^ (bs.getD p 0 - 97), ?_, hpos, hlt, fin (.inl r2), .inl r2⟩⟩
          rw [q4, r3]
          rw [r3] at g7
          simp (disch := omega) only [l0, l1, l2, l3, l4, l5, l6, l7, l8, l9, l10, l11, l12, l16, l18, l19, l20, l21, l24, l96, l128, l100, l144, l200, l256, l288, l1536, l1728, l1800, bnd, nI_add, pk_mul, pI_sub, pI_m1, pT_le, pF_le, pT_lt, pF_lt, pT_eq, pF_eq, pF_m1, mF_eq, mT_eq, mT_lt, mF_le, lm1, rd_nI, wr_nI, cl_nI, pk_us, un_ne, pk_uLs, uL_ne, zI_uI, zI_uJ, zI_uA, zI_uB, zI_uR, zI_uN, zJ_uI, zJ_uJ, zJ_uA, zJ_uB, zJ_uR, zJ_uN, zA_uI, zA_uJ, zA_uA, zA_uB, zA_uR, zA_uN, zB_uI, zB_uJ, zB_uA, zB_uB, zB_uR, zB_uN, zR_uI, zR_uJ, zR_uA, zR_uB, zR_uR, zR_uN, zN_uI, zN_uJ, zN_uA, zN_uB, zN_uR, zN_uN, zI_ne, zJ_ne, zA_ne, zB_ne, zR_ne, zN_ne, bi_T, bi_F, nz16, ↓reduceIte, not_true_eq_false, not_false_eq_true, Bool.false_eq_true, reduceCtorEq, l97, l106, hsub, hhas, hsl1, fa_or, h37, g7, mI_eq]
        · by_cases h47 : bs.getD p' 0 = 47
          · refine ⟨y2, p', hF2, g4, g5, .inl ⟨b ||| 2 ^ (bs.getD p 0 - 97), ?_, hpos, hlt, fin (.inr (by rw [r2]; exact h47)), .inr (by rw [r2]; exact h47)⟩⟩
            rw [q4, r4]
            rw [r4] at g7
            simp (disch := omega) only [l0, l1, l2, l3, l4, l5, l6, l7, l8, l9, l10, l11, l12, l16, l18, l19, l20, l21, l24, l96, l128, l100, l144, l200, l256, l288, l1536, l1728, l1800, bnd, nI_add, pk_mul, pI_sub, pI_m1, pT_le, pF_le, pT_lt, pF_lt, pT_eq, pF_eq, pF_m1, mF_eq, mT_eq, mT_lt, mF_le, lm1, rd_nI, wr_nI, cl_nI, pk_us, un_ne, pk_uLs, uL_ne, zI_uI, zI_uJ, zI_uA, zI_uB, zI_uR, zI_uN, zJ_uI, zJ_uJ, zJ_uA, zJ_uB, zJ_uR, zJ_uN, zA_uI, zA_uJ, zA_uA, zA_uB, zA_uR, zA_uN, zB_uI, zB_uJ, zB_uA, zB_uB, zB_uR, zB_uN, zR_uI, zR_uJ, zR_uA, zR_uB, zR_uR, zR_uN, zN_uI, zN_uJ, zN_uA, zN_uB, zN_uR, zN_uN, zI_ne, zJ_ne, zA_ne, zB_ne, zR_ne, zN_ne, bi_T, bi_F, nz16, ↓reduceIte, not_true_eq_false, not_false_eq_true, Bool.false_eq_true, reduceCtorEq, l97, l106, hsub, hhas, hsl1, fa_or, h37, g7, mI_eq, l47]
          · obtain ⟨y3, p3', f1, f2, f3, f4⟩ := hkb (y2, b ||| 2 ^ (bs.getD p 0 - 97), p') hi10 ⟨by show bc (b ||| 2 ^ (bs.getD p 0 - 97)) = i + 1; rw [hbc2, hbc], hlt, hF2, g4, g5, ht, fun _ => ⟨by show (hd (tkR Jp 0 gp bs p')).1 ≠ 256; omega, by show (hd (tkR Jp 0 gp bs p')).1 ≠ 47; rw [r2]; exact h47⟩, fun hx => by omega⟩
            have eL : fX12_readPlot_L34 v1 k1 k2 (fun σ v3 v4 => kb (σ, v3, v4)) y (nI b) (lk bs p) = kb (y2, nI (b ||| 2 ^ (bs.getD p 0 - 97)), lk bs p') := by
              rw [q4, r4]
              rw [r4] at g7
              unfold fX12_readPlot_L34
              simp (disch := omega) only [l0, l1, l2, l3, l4, l5, l6, l7, l8, l9, l10, l11, l12, l16, l18, l19, l20, l21, l24, l96, l128, l100, l144, l200, l256, l288, l1536, l1728, l1800, bnd, nI_add, pk_mul, pI_sub, pI_m1, pT_le, pF_le, pT_lt, pF_lt, pT_eq, pF_eq, pF_m1, mF_eq, mT_eq, mT_lt, mF_le, lm1, rd_nI, wr_nI, cl_nI, pk_us, un_ne, pk_uLs, uL_ne, zI_uI, zI_uJ, zI_uA, zI_uB, zI_uR, zI_uN, zJ_uI, zJ_uJ, zJ_uA, zJ_uB, zJ_uR, zJ_uN, zA_uI, zA_uJ, zA_uA, zA_uB, zA_uR, zA_uN, zB_uI, zB_uJ, zB_uA, zB_uB, zB_uR, zB_uN, zR_uI, zR_uJ, zR_uA, zR_uB, zR_uR, zR_uN, zN_uI, zN_uJ, zN_uA, zN_uB, zN_uR, zN_uN, zI_ne, zJ_ne, zA_ne, zB_ne, zR_ne, zN_ne, bi_T, bi_F, nz16, ↓reduceIte, not_true_eq_false, not_false_eq_true, Bool.false_eq_true, reduceCtorEq, l97, l106, hsub, hhas, hsl1, fa_or, h37, g7, mI_eq, l47]
            unfold fX12_readPlot_L34 at eL
            refine ⟨y3, p3', f1, f2, f3, ?_⟩
            rw [eL]
            exact f4
    · -- no part
      have e1 : scP (10 - i) b (.inr (tkR Jp 0 gp bs p)) = (b, .inr (tkR Jp 0 gp bs p)) := by
        cases 10 - i with
        | zero => rfl
        | succ n =>
          show (if isP _ (sg (.inr (tkR Jp 0 gp bs p))) = true then _ else _) = _
          rw [hsg, if_neg hp]
      rw [e1] at ht
      refine ⟨y, p, hF, hM, hn, .inr ⟨?_, ?_, ?_⟩⟩
      · rcases htk with ⟨q1, q2, q3⟩ | ⟨q1, q2, q3, q4, q5⟩
        · rw [q3]
          have := mlt97
          simp (disch := omega) only [l0, l1, l2, l3, l4, l5, l6, l7, l8, l9, l10, l11, l12, l16, l18, l19, l20, l21, l24, l96, l128, l100, l144, l200, l256, l288, l1536, l1728, l1800, bnd, nI_add, pk_mul, pI_sub, pI_m1, pT_le, pF_le, pT_lt, pF_lt, pT_eq, pF_eq, pF_m1, mF_eq, mT_eq, mT_lt, mF_le, lm1, rd_nI, wr_nI, cl_nI, pk_us, un_ne, pk_uLs, uL_ne, zI_uI, zI_uJ, zI_uA, zI_uB, zI_uR, zI_uN, zJ_uI, zJ_uJ, zJ_uA, zJ_uB, zJ_uR, zJ_uN, zA_uI, zA_uJ, zA_uA, zA_uB, zA_uR, zA_uN, zB_uI, zB_uJ, zB_uA, zB_uB, zB_uR, zB_uN, zR_uI, zR_uJ, zR_uA, zR_uB, zR_uR, zR_uN, zN_uI, zN_uJ, zN_uA, zN_uB, zN_uR, zN_uN, zI_ne, zJ_ne, zA_ne, zB_ne, zR_ne, zN_ne, bi_T, bi_F, nz16, ↓reduceIte, not_true_eq_false, not_false_eq_true, Bool.false_eq_true, reduceCtorEq, l97, if_pos mlt97]
        · rw [q4]
          by_cases h97 : bs.getD p 0 < 97
          · simp (disch := omega) only [l0, l1, l2, l3, l4, l5, l6, l7, l8, l9, l10, l11, l12, l16, l18, l19, l20, l21, l24, l96, l128, l100, l144, l200, l256, l288, l1536, l1728, l1800, bnd, nI_add, pk_mul, pI_sub, pI_m1, pT_le, pF_le, pT_lt, pF_lt, pT_eq, pF_eq, pF_m1, mF_eq, mT_eq, mT_lt, mF_le, lm1, rd_nI, wr_nI, cl_nI, pk_us, un_ne, pk_uLs, uL_ne, zI_uI, zI_uJ, zI_uA, zI_uB, zI_uR, zI_uN, zJ_uI, zJ_uJ, zJ_uA, zJ_uB, zJ_uR, zJ_uN, zA_uI, zA_uJ, zA_uA, zA_uB, zA_uR, zA_uN, zB_uI, zB_uJ, zB_uA, zB_uB, zB_uR, zB_uN, zR_uI, zR_uJ, zR_uA, zR_uB, zR_uR, zR_uN, zN_uI, zN_uJ, zN_uA, zN_uB, zN_uR, zN_uN, zI_ne, zJ_ne, zA_ne, zB_ne, zR_ne, zN_ne, bi_T, bi_F, nz16, ↓reduceIte, not_true_eq_false, not_false_eq_true, Bool.false_eq_true, reduceCtorEq, l97]
          · by_cases h106 : 106 < bs.getD p 0
            · simp (disch := omega) only [l0, l1, l2, l3, l4, l5, l6, l7, l8, l9, l10, l11, l12, l16, l18, l19, l20, l21, l24, l96, l128, l100, l144, l200, l256, l288, l1536, l1728, l1800, bnd, nI_add, pk_mul, pI_sub, pI_m1, pT_le, pF_le, pT_lt, pF_lt, pT_eq, pF_eq, pF_m1, mF_eq, mT_eq, mT_lt, mF_le, lm1, rd_nI, wr_nI, cl_nI, pk_us, un_ne, pk_uLs, uL_ne, zI_uI, zI_uJ, zI_uA, zI_uB, zI_uR, zI_uN, zJ_uI, zJ_uJ, zJ_uA, zJ_uB, zJ_uR, zJ_uN, zA_uI, zA_uJ, zA_uA, zA_uB, zA_uR, zA_uN, zB_uI, zB_uJ, zB_uA, zB_uB, zB_uR, zB_uN, zR_uI, zR_uJ, zR_uA, zR_uB, zR_uR, zR_uN, zN_uI, zN_uJ, zN_uA, zN_uB, zN_uR, zN_uN, zI_ne, zJ_ne, zA_ne, zB_ne, zR_ne, zN_ne, bi_T, bi_F, nz16, ↓reduceIte, not_true_eq_false, not_false_eq_true, Bool.false_eq_true, reduceCtorEq, l97, l106]
            · have hsub : nI (bs.getD p 0) - nI 97 = nI (bs.getD p 0 - 97) := pI_sub (by omega)
              have hhas := m_has (t := b) (r := bs.getD p 0 - 97) (by omega) (by omega)
              have ht1 : b.testBit (bs.getD p 0 - 97) = true := by
                cases hx : b.testBit (bs.getD p 0 - 97) with
                | true => rfl
                | false =>
                  exfalso
                  apply hp
                  rw [q2]
                  unfold isP
                  rw [decide_eq_true (show 97 ≤ bs.getD p 0 ∧ bs.getD p 0 ≤ 106 by omega), hx]
                  rfl
              rw [ht1] at hhas
              simp (disch := omega) only [l0, l1, l2, l3, l4, l5, l6, l7, l8, l9, l10, l11, l12, l16, l18, l19, l20, l21, l24, l96, l128, l100, l144, l200, l256, l288, l1536, l1728, l1800, bnd, nI_add, pk_mul, pI_sub, pI_m1, pT_le, pF_le, pT_lt, pF_lt, pT_eq, pF_eq, pF_m1, mF_eq, mT_eq, mT_lt, mF_le, lm1, rd_nI, wr_nI, cl_nI, pk_us, un_ne, pk_uLs, uL_ne, zI_uI, zI_uJ, zI_uA, zI_uB, zI_uR, zI_uN, zJ_uI, zJ_uJ, zJ_uA, zJ_uB, zJ_uR, zJ_uN, zA_uI, zA_uJ, zA_uA, zA_uB, zA_uR, zA_uN, zB_uI, zB_uJ, zB_uA, zB_uB, zB_uR, zB_uN, zR_uI, zR_uJ, zR_uA, zR_uB, zR_uR, zR_uN, zN_uI, zN_uJ, zN_uA, zN_uB, zN_uR, zN_uN, zI_ne, zJ_ne, zA_ne, zB_ne, zR_ne, zN_ne, bi_T, bi_F, nz16, ↓reduceIte, not_true_eq_false, not_false_eq_true, Bool.false_eq_true, reduceCtorEq, l97, l106, hsub, hhas]
      · unfold pSc
        rw [ht]
        by_cases hb0 : b = 0
        · rw [if_pos hb0]
          show nI (hd (tkR Jp 0 gp bs p)).2 = _
          rw [htp]
        · rw [if_neg hb0]
          have hi0 : 0 < i := by
            rcases Nat.eq_zero_or_pos i with e | e
            · exact absurd (bc_zero b hbl (by omega)) hb0
            · exact e
          show (if (hd (tkR Jp 0 gp bs p)).1 = 256 then _ else _) = _
          rw [if_neg (hh hi0).1, htp]
      · unfold pSc
        rw [ht]
        by_cases hb0 : b = 0
        · rw [if_pos hb0]
          rfl
        · rw [if_neg hb0]
          have hi0 : 0 < i := by
            rcases Nat.eq_zero_or_pos i with e | e
            · exact absurd (bc_zero b hbl (by omega)) hb0
            · exact e
          exact decide_eq_false (hh hi0).2
