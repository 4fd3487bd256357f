/-! the class reads a plot *-/
def isP (b v : Nat) : Bool := decide (97 ≤ v ∧ v ≤ 106) && !b.testBit (v - 97)
def scP : Nat → Nat → Sx → Nat × Sx
  | 0, b, x => (b, x)
  | n + 1, b, x => if isP b (sg x) = true then scP n (b ||| 2 ^ (sg x - 97)) (tlx x) else (b, x)
def pSc (x : Sx) : Nat × Sx := if (scP 10 0 x).1 = 0 then (0, slx (scP 10 0 x).2) else scP 10 0 x
def pPl : Nat → Sx → List Nat × Sx
  | 0, x => ([], x)
  | n + 1, x => if 0 < n ∧ tb 47 (pSc x).2 = true then ((pSc x).1 :: (pPl n (tlx (pSc x).2)).1, (pPl n (tlx (pSc x).2)).2) else ([(pSc x).1], (pSc x).2)
def pPlot (bs : List Nat) : List Nat × Sx := pPl 20 (.inr (tkF Jp 0 gp bs))
theorem sub97 : ∀ a, a < 97 → nI a - nI 97 < nI 0 := by decide +kernel
theorem l47 : (47 : Int32) = nI 47 := nrfl rfl
theorem isP_lt {b v : Nat} (h : isP b v = true) : 97 ≤ v ∧ v ≤ 106 ∧ b.testBit (v - 97) = false := by
  unfold isP at h
  rw [Bool.and_eq_true] at h
  have h1 := of_decide_eq_true h.1
  refine ⟨h1.1, h1.2, ?_⟩
  have h2 := h.2
  rwa [Bool.not_eq_true'] at h2
theorem scP_lt : ∀ (n b : Nat) (x : Sx), b < 1024 → (scP n b x).1 < 1024
  | 0, _, _, h => h
  | n + 1, b, x, h => by
    show (if isP b (sg x) = true then _ else _ : Nat × Sx).1 < 1024
    split
    · rename_i hp
      have h1 := isP_lt hp
      refine scP_lt n _ _ ?_
      have h2 : 2 ^ (sg x - 97) < 2 ^ 10 := Nat.pow_lt_pow_right (by decide) (by omega)
      exact Nat.or_lt_two_pow (n := 10) h h2
    · exact h
theorem sg_lt (x : Sx) : sg x ≤ 1000 := by
  cases x with
  | inl p => show 257 ≤ 1000; decide
  | inr R => show (if (hd R).1 < 1000 then _ else _) ≤ 1000; split <;> omega
theorem c_takeScene {τ : St} {T : List Tk} {x : Sx} (h : Sp τ T x) : ∃ υ, FR [] [] [6, 7] [] τ υ ∧ Sp υ T (pSc x).2 ∧ fX3_takeScene τ = some (nI (pSc x).1, υ) := by
  have key := it_for (β := St × Bool × Nat × Sx) (body := fun (kb : (St × Int32 × Int32 × Int32) → Option (Int32 × St)) (t : St × Int32 × Int32 × Int32) => fX3_takeScene_L6 (fun s11 x12 => if x12 = 0 then ((fX5_spoil_p s11).bind fun s13 => some (x12, s13))
  else (some (x12, s11))) (fun σ v1 v2 v3 => kb (σ, v1, v2, v3)) t.1 t.2.1 t.2.2.1 t.2.2.2) 10 (by omega) (fun i b => (b.1, nI b.2.2.1, (if b.2.1 = true then nI 1 else nI 0), nI i)) (fun i b => FR [] [] [6, 7] [] τ b.1 ∧ Sp b.1 T b.2.2.2 ∧ b.2.2.1 < 1024 ∧ (b.2.1 = true → scP 10 0 x = scP (10 - i) b.2.2.1 b.2.2.2) ∧ (b.2.1 = false → scP 10 0 x = (b.2.2.1, b.2.2.2))) (fun i b z => ∃ υ, FR [] [] [6, 7] [] τ υ ∧ Sp υ T (pSc x).2 ∧ z = some (nI (pSc x).1, υ)) ?_ 0 (τ, true, 0, x) (Nat.zero_le _) ⟨FR.rf _ _ _ _ _, h, (by show 0 < 1024; decide), fun _ => rfl, fun e => by cases e⟩
  · exact key
  · rintro i ⟨y, more, b, z⟩ hi ⟨jF, jS, jb, jt, jf⟩ kb hkb
    have hF : FR [] [] [6, 7] [] τ y := jF
    have hS : Sp y T z := jS
    have hb : b < 1024 := jb
    have ht : more = true → scP 10 0 x = scP (10 - i) b z := jt
    have hf : more = false → scP 10 0 x = (b, z) := jf
    clear jF jS jb jt jf
    show ∃ υ, _ ∧ _ ∧ fX3_takeScene_L6 _ (fun σ v1 v2 v3 => kb (σ, v1, v2, v3)) y (nI b) (if more = true then nI 1 else nI 0) (nI i) = some (nI (pSc x).1, υ)
    -- the end
    have fin : scP 10 0 x = (b, z) → ∃ υ, FR [] [] [6, 7] [] τ υ ∧ Sp υ T (pSc x).2 ∧ (if nI b = nI 0 then ((fX5_spoil_p y).bind fun s13 => some (nI b, s13)) else (some (nI b, y))) = some (nI (pSc x).1, υ) := by
      intro e
      unfold pSc
      rw [e]
      by_cases hb0 : b = 0
      · obtain ⟨υ, h1, h2, h3⟩ := s_spoil_p hS
        rw [if_pos hb0]
        refine ⟨υ, hF.tr (h3.mono (by decide) (by decide) (by decide) (by decide)), h2, ?_⟩
        simp (disch := omega) only [l0, l1, l2, l3, l4, l5, l6, l7, l8, l9, l10, l11, l12, l16, l18, l19, l20, l21, l24, l96, l128, l100, l144, l200, l256, l288, l1536, l1728, l1800, bnd, nI_add, pk_mul, pI_sub, pI_m1, pT_le, pF_le, pT_lt, pF_lt, pT_eq, pF_eq, pF_m1, mF_eq, mT_eq, mT_lt, mF_le, lm1, rd_nI, wr_nI, cl_nI, pk_us, un_ne, pk_uLs, uL_ne, zI_uI, zI_uJ, zI_uA, zI_uB, zI_uR, zI_uN, zJ_uI, zJ_uJ, zJ_uA, zJ_uB, zJ_uR, zJ_uN, zA_uI, zA_uJ, zA_uA, zA_uB, zA_uR, zA_uN, zB_uI, zB_uJ, zB_uA, zB_uB, zB_uR, zB_uN, zR_uI, zR_uJ, zR_uA, zR_uB, zR_uR, zR_uN, zN_uI, zN_uJ, zN_uA, zN_uB, zN_uR, zN_uN, zI_ne, zJ_ne, zA_ne, zB_ne, zR_ne, zN_ne, bi_T, bi_F, nz16, ↓reduceIte, not_true_eq_false, not_false_eq_true, Bool.false_eq_true, reduceCtorEq, hb0, h1]
      · rw [if_neg hb0]
        refine ⟨y, hF, hS, ?_⟩
        simp (disch := omega) only [l0, l1, l2, l3, l4, l5, l6, l7, l8, l9, l10, l11, l12, l16, l18, l19, l20, l21, l24, l96, l128, l100, l144, l200, l256, l288, l1536, l1728, l1800, bnd, nI_add, pk_mul, pI_sub, pI_m1, pT_le, pF_le, pT_lt, pF_lt, pT_eq, pF_eq, pF_m1, mF_eq, mT_eq, mT_lt, mF_le, lm1, rd_nI, wr_nI, cl_nI, pk_us, un_ne, pk_uLs, uL_ne, zI_uI, zI_uJ, zI_uA, zI_uB, zI_uR, zI_uN, zJ_uI, zJ_uJ, zJ_uA, zJ_uB, zJ_uR, zJ_uN, zA_uI, zA_uJ, zA_uA, zA_uB, zA_uR, zA_uN, zB_uI, zB_uJ, zB_uA, zB_uB, zB_uR, zB_uN, zR_uI, zR_uJ, zR_uA, zR_uB, zR_uR, zR_uN, zN_uI, zN_uJ, zN_uA, zN_uB, zN_uR, zN_uN, zI_ne, zJ_ne, zA_ne, zB_ne, zR_ne, zN_ne, bi_T, bi_F, nz16, ↓reduceIte, not_true_eq_false, not_false_eq_true, Bool.false_eq_true, reduceCtorEq]
    unfold fX3_takeScene_L6
    by_cases hi10 : i = 10
    · have e : scP 10 0 x = (b, z) := by
        cases hm : more with
        | true => rw [ht hm, hi10]; rfl
        | false => exact hf hm
      obtain ⟨υ, h1, h2, h3⟩ := fin e
      refine ⟨υ, h1, h2, ?_⟩
      rw [← h3]
      simp (disch := omega) only [l0, l1, l2, l3, l4, l5, l6, l7, l8, l9, l10, l11, l12, l16, l18, l19, l20, l21, l24, l96, l128, l100, l144, l200, l256, l288, l1536, l1728, l1800, bnd, nI_add, pk_mul, pI_sub, pI_m1, pT_le, pF_le, pT_lt, pF_lt, pT_eq, pF_eq, pF_m1, mF_eq, mT_eq, mT_lt, mF_le, lm1, rd_nI, wr_nI, cl_nI, pk_us, un_ne, pk_uLs, uL_ne, zI_uI, zI_uJ, zI_uA, zI_uB, zI_uR, zI_uN, zJ_uI, zJ_uJ, zJ_uA, zJ_uB, zJ_uR, zJ_uN, zA_uI, zA_uJ, zA_uA, zA_uB, zA_uR, zA_uN, zB_uI, zB_uJ, zB_uA, zB_uB, zB_uR, zB_uN, zR_uI, zR_uJ, zR_uA, zR_uB, zR_uR, zR_uN, zN_uI, zN_uJ, zN_uA, zN_uB, zN_uR, zN_uN, zI_ne, zJ_ne, zA_ne, zB_ne, zR_ne, zN_ne, bi_T, bi_F, nz16, ↓reduceIte, not_true_eq_false, not_false_eq_true, Bool.false_eq_true, reduceCtorEq, hi10]
    · cases hm : more with
      | false =>
        obtain ⟨υ, h1, h2, h3⟩ := fin (hf hm)
        refine ⟨υ, h1, h2, ?_⟩
        rw [← h3, if_neg (show ¬ false = true by decide)]
        simp (disch := omega) only [l0, l1, l2, l3, l4, l5, l6, l7, l8, l9, l10, l11, l12, l16, l18, l19, l20, l21, l24, l96, l128, l100, l144, l200, l256, l288, l1536, l1728, l1800, bnd, nI_add, pk_mul, pI_sub, pI_m1, pT_le, pF_le, pT_lt, pF_lt, pT_eq, pF_eq, pF_m1, mF_eq, mT_eq, mT_lt, mF_le, lm1, rd_nI, wr_nI, cl_nI, pk_us, un_ne, pk_uLs, uL_ne, zI_uI, zI_uJ, zI_uA, zI_uB, zI_uR, zI_uN, zJ_uI, zJ_uJ, zJ_uA, zJ_uB, zJ_uR, zJ_uN, zA_uI, zA_uJ, zA_uA, zA_uB, zA_uR, zA_uN, zB_uI, zB_uJ, zB_uA, zB_uB, zB_uR, zB_uN, zR_uI, zR_uJ, zR_uA, zR_uB, zR_uR, zR_uN, zN_uI, zN_uJ, zN_uA, zN_uB, zN_uR, zN_uN, zI_ne, zJ_ne, zA_ne, zB_ne, zR_ne, zN_ne, bi_T, bi_F, nz16, ↓reduceIte, not_true_eq_false, not_false_eq_true, Bool.false_eq_true, reduceCtorEq]
      | true =>
        rw [if_pos rfl]
        have ht := ht hm
        rw [show 10 - i = (10 - (i + 1)) + 1 by omega] at ht
        have hs := s_sign_p hS
        have hsl := sg_lt z
        by_cases hp : isP b (sg z) = true
        · have hp2 := isP_lt hp
          have e : scP (10 - (i + 1) + 1) b z = scP (10 - (i + 1)) (b ||| 2 ^ (sg z - 97)) (tlx z) := if_pos hp
          rw [e] at ht
          have hz : ∃ R, z = .inr R ∧ (hd R).1 = sg z := by
            cases z with
            | inl p =>
              exfalso
              have : sg (.inl p) = 257 := rfl
              omega
            | inr R =>
              refine ⟨R, rfl, ?_⟩
              have : sg (.inr R) = if (hd R).1 < 1000 then (hd R).1 else 1000 := rfl
              split at this <;> omega
          obtain ⟨R, hzR, hh⟩ := hz
          rw [hzR] at hS
          obtain ⟨υ, h1, h2, h3⟩ := s_step_p hS (by omega)
          have hlt : b ||| 2 ^ (sg z - 97) < 1024 := by
            have h2 : 2 ^ (sg z - 97) < 2 ^ 10 := Nat.pow_lt_pow_right (by decide) (by omega)
            exact Nat.or_lt_two_pow (n := 10) hb h2
          obtain ⟨w, h4, h5, h6⟩ := hkb (υ, true, b ||| 2 ^ (sg z - 97), .inr R.tail) (by omega) ⟨hF.tr (h3.mono (by decide) (by decide) (by decide) (by decide)), h2, hlt, fun _ => by rw [ht, hzR]; rfl, fun e => by cases e⟩
          refine ⟨w, h4, h5, ?_⟩
          rw [← h6]
          have hsub : nI (sg z) - nI 97 = nI (sg z - 97) := pI_sub (by omega)
          have hsh := shr1 (t := b) (r := sg z - 97) (by omega) (by omega)
          have h0 : b / 2 ^ (sg z - 97) % 2 = 0 := by
            have h7 := hp2.2.2
            rw [tb_eq] at h7
            have := of_decide_eq_false h7
            omega
          have hsl1 := shl1 (n := sg z - 97) (by omega)
          simp (disch := omega) only [l0, l1, l2, l3, l4, l5, l6, l7, l8, l9, l10, l11, l12, l16, l18, l19, l20, l21, l24, l96, l128, l100, l144, l200, l256, l288, l1536, l1728, l1800, bnd, nI_add, pk_mul, pI_sub, pI_m1, pT_le, pF_le, pT_lt, pF_lt, pT_eq, pF_eq, pF_m1, mF_eq, mT_eq, mT_lt, mF_le, lm1, rd_nI, wr_nI, cl_nI, pk_us, un_ne, pk_uLs, uL_ne, zI_uI, zI_uJ, zI_uA, zI_uB, zI_uR, zI_uN, zJ_uI, zJ_uJ, zJ_uA, zJ_uB, zJ_uR, zJ_uN, zA_uI, zA_uJ, zA_uA, zA_uB, zA_uR, zA_uN, zB_uI, zB_uJ, zB_uA, zB_uB, zB_uR, zB_uN, zR_uI, zR_uJ, zR_uA, zR_uB, zR_uR, zR_uN, zN_uI, zN_uJ, zN_uA, zN_uB, zN_uR, zN_uN, zI_ne, zJ_ne, zA_ne, zB_ne, zR_ne, zN_ne, bi_T, bi_F, nz16, ↓reduceIte, not_true_eq_false, not_false_eq_true, Bool.false_eq_true, reduceCtorEq, hs, l97, hsub, hsh, h0, hsl1, fa_or, h1]
        · have e : scP (10 - (i + 1) + 1) b z = (b, z) := if_neg hp
          rw [e] at ht
          obtain ⟨w, h4, h5, h6⟩ := hkb (y, false, b, z) (by omega) ⟨hF, hS, hb, (fun e => by cases e), fun _ => ht⟩
          refine ⟨w, h4, h5, ?_⟩
          rw [← h6]
          by_cases h97 : sg z < 97
          · have hn := sub97 _ h97
            simp (disch := omega) only [l0, l1, l2, l3, l4, l5, l6, l7, l8, l9, l10, l11, l12, l16, l18, l19, l20, l21, l24, l96, l128, l100, l144, l200, l256, l288, l1536, l1728, l1800, bnd, nI_add, pk_mul, pI_sub, pI_m1, pT_le, pF_le, pT_lt, pF_lt, pT_eq, pF_eq, pF_m1, mF_eq, mT_eq, mT_lt, mF_le, lm1, rd_nI, wr_nI, cl_nI, pk_us, un_ne, pk_uLs, uL_ne, zI_uI, zI_uJ, zI_uA, zI_uB, zI_uR, zI_uN, zJ_uI, zJ_uJ, zJ_uA, zJ_uB, zJ_uR, zJ_uN, zA_uI, zA_uJ, zA_uA, zA_uB, zA_uR, zA_uN, zB_uI, zB_uJ, zB_uA, zB_uB, zB_uR, zB_uN, zR_uI, zR_uJ, zR_uA, zR_uB, zR_uR, zR_uN, zN_uI, zN_uJ, zN_uA, zN_uB, zN_uR, zN_uN, zI_ne, zJ_ne, zA_ne, zB_ne, zR_ne, zN_ne, bi_T, bi_F, nz16, ↓reduceIte, not_true_eq_false, not_false_eq_true, Bool.false_eq_true, reduceCtorEq, hs, l97, if_pos hn]
          · have hsub : nI (sg z) - nI 97 = nI (sg z - 97) := pI_sub (by omega)
            by_cases h106 : sg z ≤ 106
            · have h1 : b / 2 ^ (sg z - 97) % 2 = 1 := by
                apply Decidable.byContradiction
                intro hx
                apply hp
                unfold isP
                rw [decide_eq_true (show 97 ≤ sg z ∧ sg z ≤ 106 by omega), Bool.true_and, tb_eq, decide_eq_false hx]
                rfl
              have hsh := shr1 (t := b) (r := sg z - 97) (by omega) (by omega)
              simp (disch := omega) only [l0, l1, l2, l3, l4, l5, l6, l7, l8, l9, l10, l11, l12, l16, l18, l19, l20, l21, l24, l96, l128, l100, l144, l200, l256, l288, l1536, l1728, l1800, bnd, nI_add, pk_mul, pI_sub, pI_m1, pT_le, pF_le, pT_lt, pF_lt, pT_eq, pF_eq, pF_m1, mF_eq, mT_eq, mT_lt, mF_le, lm1, rd_nI, wr_nI, cl_nI, pk_us, un_ne, pk_uLs, uL_ne, zI_uI, zI_uJ, zI_uA, zI_uB, zI_uR, zI_uN, zJ_uI, zJ_uJ, zJ_uA, zJ_uB, zJ_uR, zJ_uN, zA_uI, zA_uJ, zA_uA, zA_uB, zA_uR, zA_uN, zB_uI, zB_uJ, zB_uA, zB_uB, zB_uR, zB_uN, zR_uI, zR_uJ, zR_uA, zR_uB, zR_uR, zR_uN, zN_uI, zN_uJ, zN_uA, zN_uB, zN_uR, zN_uN, zI_ne, zJ_ne, zA_ne, zB_ne, zR_ne, zN_ne, bi_T, bi_F, nz16, ↓reduceIte, not_true_eq_false, not_false_eq_true, Bool.false_eq_true, reduceCtorEq, hs, l97, hsub, hsh, h1]
            · simp (disch := omega) only [l0, l1, l2, l3, l4, l5, l6, l7, l8, l9, l10, l11, l12, l16, l18, l19, l20, l21, l24, l96, l128, l100, l144, l200, l256, l288, l1536, l1728, l1800, bnd, nI_add, pk_mul, pI_sub, pI_m1, pT_le, pF_le, pT_lt, pF_lt, pT_eq, pF_eq, pF_m1, mF_eq, mT_eq, mT_lt, mF_le, lm1, rd_nI, wr_nI, cl_nI, pk_us, un_ne, pk_uLs, uL_ne, zI_uI, zI_uJ, zI_uA, zI_uB, zI_uR, zI_uN, zJ_uI, zJ_uJ, zJ_uA, zJ_uB, zJ_uR, zJ_uN, zA_uI, zA_uJ, zA_uA, zA_uB, zA_uR, zA_uN, zB_uI, zB_uJ, zB_uA, zB_uB, zB_uR, zB_uN, zR_uI, zR_uJ, zR_uA, zR_uB, zR_uR, zR_uN, zN_uI, zN_uJ, zN_uA, zN_uB, zN_uR, zN_uN, zI_ne, zJ_ne, zA_ne, zB_ne, zR_ne, zN_ne, bi_T, bi_F, nz16, ↓reduceIte, not_true_eq_false, not_false_eq_true, Bool.false_eq_true, reduceCtorEq, hs, l97, hsub]
theorem c_takeAll_p {τ : St} {T : List Tk} {x : Sx} (h : Sp τ T x) : ∃ υ, FR [20] [] [6, 7, 8] [] τ υ ∧ (∀ k, k < (pPl 20 x).1.length → zA υ 20 k = nI ((pPl 20 x).1.getD k 0)) ∧ zI υ 8 = nI (pPl 20 x).1.length ∧ Sp υ T (pPl 20 x).2 ∧ fX3_takeAll τ = some υ := by
  have key := it_for (β := St × Bool × Sx × List Nat) (body := fun (kb : (St × Int32 × Int32) → Option St) (t : St × Int32 × Int32) => fX3_takeAll_L9 (fun σ v1 v2 => kb (σ, v1, v2)) t.1 t.2.1 t.2.2) 20 (by omega) (fun i b => (b.1, (if b.2.1 = true then nI 1 else nI 0), nI i)) (fun i b => b.2.2.2.length = i ∧ FR [20] [] [6, 7, 8] [] τ b.1 ∧ (∀ k, k < i → zA b.1 20 k = nI (b.2.2.2.getD k 0)) ∧ zI b.1 8 = nI i ∧ Sp b.1 T b.2.2.1 ∧ (b.2.1 = true → i < 20 ∧ pPl 20 x = (b.2.2.2 ++ (pPl (20 - i) b.2.2.1).1, (pPl (20 - i) b.2.2.1).2)) ∧ (b.2.1 = false → pPl 20 x = (b.2.2.2, b.2.2.1))) (fun i b z => ∃ υ, FR [20] [] [6, 7, 8] [] τ υ ∧ (∀ k, k < (pPl 20 x).1.length → zA υ 20 k = nI ((pPl 20 x).1.getD k 0)) ∧ zI υ 8 = nI (pPl 20 x).1.length ∧ Sp υ T (pPl 20 x).2 ∧ z = some υ) ?_ 0 (uI τ 8 (nI 0), true, x, []) (Nat.zero_le _) ⟨rfl, FR.uI (FR.rf _ _ _ _ _) (by decide), (fun k hk => absurd hk (Nat.not_lt_zero _)), by rw [zI_uI], h.fr (FR.uI (FR.rf [] [] [8] [] _) (by decide)) (by decide) (by decide) (by decide), fun _ => ⟨by decide, rfl⟩, fun e => by cases e⟩
  · exact key
  · rintro i ⟨y, more, z, l⟩ hi ⟨jl, jF, jI, j8, jS, jt, jf⟩ kb hkb
    have hl : l.length = i := jl
    have hF : FR [20] [] [6, 7, 8] [] τ y := jF
    have hI : ∀ k, k < i → zA y 20 k = nI (l.getD k 0) := jI
    have h8 : zI y 8 = nI i := j8
    have hS : Sp y T z := jS
    have ht : more = true → i < 20 ∧ pPl 20 x = (l ++ (pPl (20 - i) z).1, (pPl (20 - i) z).2) := jt
    have hf : more = false → pPl 20 x = (l, z) := jf
    clear jl jF jI j8 jS jt jf
    show ∃ υ, _ ∧ _ ∧ _ ∧ _ ∧ fX3_takeAll_L9 (fun σ v1 v2 => kb (σ, v1, v2)) y (if more = true then nI 1 else nI 0) (nI i) = some υ
    cases hm : more with
    | true =>
      obtain ⟨hi2, hp⟩ := ht hm
      rw [show 20 - i = (20 - (i + 1)) + 1 by omega] at hp
      obtain ⟨y2, h1, h2, h3⟩ := c_takeScene hS
      obtain ⟨y3, hy3⟩ : ∃ y3, y3 = uI (uA y2 20 (upd (zA y2 20) i (nI (pSc z).1))) 8 (nI (i + 1)) := ⟨_, rfl⟩
      have hF3 : FR [20] [] [8] [] y2 y3 := by rw [hy3]; exact FR.uI (FR.uA (FR.rf _ _ _ _ _) (by decide)) (by decide)
      have hS3 : Sp y3 T (pSc z).2 := h2.fr hF3 (by decide) (by decide) (by decide)
      have z8 : zI y2 8 = nI i := (h1.2.2.1 8 (by decide)).trans h8
      have hI3 : ∀ k, k < i + 1 → zA y3 20 k = nI ((l ++ [(pSc z).1]).getD k 0) := by
        intro k hk
        rw [hy3, zA_uI, zA_uA, h1.1 20 (by decide)]
        by_cases e : k = i
        · rw [e, pk_us, ← hl, getD_snoc_eq']
        · rw [un_ne e, getD_snoc_lt' (by omega)]
          exact hI k (by omega)
      have hFt := (hF.tr (h1.mono (A' := [20]) (B' := []) (K' := [6, 7, 8]) (N' := []) (by decide) (by decide) (by decide) (by decide))).tr (hF3.mono (A' := [20]) (B' := []) (K' := [6, 7, 8]) (N' := []) (by decide) (by decide) (by decide) (by decide))
      have z83 : zI y3 8 = nI (i + 1) := by rw [hy3, zI_uI]
      have hll : (l ++ [(pSc z).1]).length = i + 1 := by rw [List.length_append, List.length_singleton, hl]
      rw [if_pos rfl]
      unfold fX3_takeAll_L9
      by_cases hi20 : i + 1 < 20
      · obtain ⟨y4, h4, h5, h6⟩ := s_takes_p (v := 47) hS3 (by decide)
        have hI4 : ∀ k, k < i + 1 → zA y4 20 k = nI ((l ++ [(pSc z).1]).getD k 0) := fun k hk => by rw [h6.1 20 (by decide)]; exact hI3 k hk
        cases hb : tb 47 (pSc z).2 with
        | true =>
          have ep : pPl (20 - (i + 1) + 1) z = ((pSc z).1 :: (pPl (20 - (i + 1)) (tlx (pSc z).2)).1, (pPl (20 - (i + 1)) (tlx (pSc z).2)).2) := if_pos ⟨by omega, hb⟩
          rw [ep] at hp
          rw [if_pos hb] at h5
          obtain ⟨w, g1, g2, g3, g4, g5⟩ := hkb (y4, true, tlx (pSc z).2, l ++ [(pSc z).1]) hi2 ⟨hll, hFt.tr (h6.mono (by decide) (by decide) (by decide) (by decide)), hI4, (h6.2.2.1 8 (by decide)).trans z83, h5, fun _ => ⟨hi20, by rw [hp, List.append_assoc]; rfl⟩, fun e => by cases e⟩
          refine ⟨w, g1, g2, g3, g4, ?_⟩
          rw [← g5]
          rw [hb, hy3] at h4
          simp (disch := omega) only [l0, l1, l2, l3, l4, l5, l6, l7, l8, l9, l10, l11, l12, l16, l18, l19, l20, l21, l24, l96, l128, l100, l144, l200, l256, l288, l1536, l1728, l1800, bnd, nI_add, pk_mul, pI_sub, pI_m1, pT_le, pF_le, pT_lt, pF_lt, pT_eq, pF_eq, pF_m1, mF_eq, mT_eq, mT_lt, mF_le, lm1, rd_nI, wr_nI, cl_nI, pk_us, un_ne, pk_uLs, uL_ne, zI_uI, zI_uJ, zI_uA, zI_uB, zI_uR, zI_uN, zJ_uI, zJ_uJ, zJ_uA, zJ_uB, zJ_uR, zJ_uN, zA_uI, zA_uJ, zA_uA, zA_uB, zA_uR, zA_uN, zB_uI, zB_uJ, zB_uA, zB_uB, zB_uR, zB_uN, zR_uI, zR_uJ, zR_uA, zR_uB, zR_uR, zR_uN, zN_uI, zN_uJ, zN_uA, zN_uB, zN_uR, zN_uN, zI_ne, zJ_ne, zA_ne, zB_ne, zR_ne, zN_ne, bi_T, bi_F, nz16, ↓reduceIte, not_true_eq_false, not_false_eq_true, Bool.false_eq_true, reduceCtorEq, h3, z8, l47, h4]
        | false =>
          have hb' : ¬ tb 47 (pSc z).2 = true := by rw [hb]; decide
          have ep : pPl (20 - (i + 1) + 1) z = ([(pSc z).1], (pSc z).2) := if_neg (fun h => hb' h.2)
          rw [ep] at hp
          rw [if_neg hb'] at h5
          obtain ⟨w, g1, g2, g3, g4, g5⟩ := hkb (y4, false, (pSc z).2, l ++ [(pSc z).1]) hi2 ⟨hll, hFt.tr (h6.mono (by decide) (by decide) (by decide) (by decide)), hI4, (h6.2.2.1 8 (by decide)).trans z83, h5, (fun e => by cases e), fun _ => hp⟩
          refine ⟨w, g1, g2, g3, g4, ?_⟩
          rw [← g5]
          rw [hb, hy3] at h4
          simp (disch := omega) only [l0, l1, l2, l3, l4, l5, l6, l7, l8, l9, l10, l11, l12, l16, l18, l19, l20, l21, l24, l96, l128, l100, l144, l200, l256, l288, l1536, l1728, l1800, bnd, nI_add, pk_mul, pI_sub, pI_m1, pT_le, pF_le, pT_lt, pF_lt, pT_eq, pF_eq, pF_m1, mF_eq, mT_eq, mT_lt, mF_le, lm1, rd_nI, wr_nI, cl_nI, pk_us, un_ne, pk_uLs, uL_ne, zI_uI, zI_uJ, zI_uA, zI_uB, zI_uR, zI_uN, zJ_uI, zJ_uJ, zJ_uA, zJ_uB, zJ_uR, zJ_uN, zA_uI, zA_uJ, zA_uA, zA_uB, zA_uR, zA_uN, zB_uI, zB_uJ, zB_uA, zB_uB, zB_uR, zB_uN, zR_uI, zR_uJ, zR_uA, zR_uB, zR_uR, zR_uN, zN_uI, zN_uJ, zN_uA, zN_uB, zN_uR, zN_uN, zI_ne, zJ_ne, zA_ne, zB_ne, zR_ne, zN_ne, bi_T, bi_F, nz16, ↓reduceIte, not_true_eq_false, not_false_eq_true, Bool.false_eq_true, reduceCtorEq, h3, z8, l47, h4]
      · have ep : pPl (20 - (i + 1) + 1) z = ([(pSc z).1], (pSc z).2) := if_neg (fun h => by omega)
        rw [ep] at hp
        obtain ⟨w, g1, g2, g3, g4, g5⟩ := hkb (y3, false, (pSc z).2, l ++ [(pSc z).1]) hi2 ⟨hll, hFt, hI3, z83, hS3, (fun e => by cases e), fun _ => hp⟩
        refine ⟨w, g1, g2, g3, g4, ?_⟩
        rw [← g5, hy3]
        simp (disch := omega) only [l0, l1, l2, l3, l4, l5, l6, l7, l8, l9, l10, l11, l12, l16, l18, l19, l20, l21, l24, l96, l128, l100, l144, l200, l256, l288, l1536, l1728, l1800, bnd, nI_add, pk_mul, pI_sub, pI_m1, pT_le, pF_le, pT_lt, pF_lt, pT_eq, pF_eq, pF_m1, mF_eq, mT_eq, mT_lt, mF_le, lm1, rd_nI, wr_nI, cl_nI, pk_us, un_ne, pk_uLs, uL_ne, zI_uI, zI_uJ, zI_uA, zI_uB, zI_uR, zI_uN, zJ_uI, zJ_uJ, zJ_uA, zJ_uB, zJ_uR, zJ_uN, zA_uI, zA_uJ, zA_uA, zA_uB, zA_uR, zA_uN, zB_uI, zB_uJ, zB_uA, zB_uB, zB_uR, zB_uN, zR_uI, zR_uJ, zR_uA, zR_uB, zR_uR, zR_uN, zN_uI, zN_uJ, zN_uA, zN_uB, zN_uR, zN_uN, zI_ne, zJ_ne, zA_ne, zB_ne, zR_ne, zN_ne, bi_T, bi_F, nz16, ↓reduceIte, not_true_eq_false, not_false_eq_true, Bool.false_eq_true, reduceCtorEq, h3, z8]
    | false =>
      have hp := hf hm
      refine ⟨y, hF, ?_, ?_, ?_, ?_⟩
      · rw [hp]; exact fun k hk => hI k (by rw [← hl]; exact hk)
      · rw [hp]; show zI y 8 = nI l.length; rw [hl]; exact h8
      · rw [hp]; exact hS
      · rw [if_neg (by decide)]
        unfold fX3_takeAll_L9
        by_cases h20 : i = 20
        · simp (disch := omega) only [l0, l1, l2, l3, l4, l5, l6, l7, l8, l9, l10, l11, l12, l16, l18, l19, l20, l21, l24, l96, l128, l100, l144, l200, l256, l288, l1536, l1728, l1800, bnd, nI_add, pk_mul, pI_sub, pI_m1, pT_le, pF_le, pT_lt, pF_lt, pT_eq, pF_eq, pF_m1, mF_eq, mT_eq, mT_lt, mF_le, lm1, rd_nI, wr_nI, cl_nI, pk_us, un_ne, pk_uLs, uL_ne, zI_uI, zI_uJ, zI_uA, zI_uB, zI_uR, zI_uN, zJ_uI, zJ_uJ, zJ_uA, zJ_uB, zJ_uR, zJ_uN, zA_uI, zA_uJ, zA_uA, zA_uB, zA_uR, zA_uN, zB_uI, zB_uJ, zB_uA, zB_uB, zB_uR, zB_uN, zR_uI, zR_uJ, zR_uA, zR_uB, zR_uR, zR_uN, zN_uI, zN_uJ, zN_uA, zN_uB, zN_uR, zN_uN, zI_ne, zJ_ne, zA_ne, zB_ne, zR_ne, zN_ne, bi_T, bi_F, nz16, ↓reduceIte, not_true_eq_false, not_false_eq_true, Bool.false_eq_true, reduceCtorEq, h20]
        · simp (disch := omega) only [l0, l1, l2, l3, l4, l5, l6, l7, l8, l9, l10, l11, l12, l16, l18, l19, l20, l21, l24, l96, l128, l100, l144, l200, l256, l288, l1536, l1728, l1800, bnd, nI_add, pk_mul, pI_sub, pI_m1, pT_le, pF_le, pT_lt, pF_lt, pT_eq, pF_eq, pF_m1, mF_eq, mT_eq, mT_lt, mF_le, lm1, rd_nI, wr_nI, cl_nI, pk_us, un_ne, pk_uLs, uL_ne, zI_uI, zI_uJ, zI_uA, zI_uB, zI_uR, zI_uN, zJ_uI, zJ_uJ, zJ_uA, zJ_uB, zJ_uR, zJ_uN, zA_uI, zA_uJ, zA_uA, zA_uB, zA_uR, zA_uN, zB_uI, zB_uJ, zB_uA, zB_uB, zB_uR, zB_uN, zR_uI, zR_uJ, zR_uA, zR_uB, zR_uR, zR_uN, zN_uI, zN_uJ, zN_uA, zN_uB, zN_uR, zN_uN, zI_ne, zJ_ne, zA_ne, zB_ne, zR_ne, zN_ne, bi_T, bi_F, nz16, ↓reduceIte, not_true_eq_false, not_false_eq_true, Bool.false_eq_true, reduceCtorEq]
theorem c_faultOf_p {σ : St} {bs : List Nat} (h2 : zI σ 2 = nI bs.length) (h11 : hB (zA σ 11) bs) (hl : bs.length ≤ 200) (hb : ∀ b, b ∈ bs → 1 ≤ b ∧ b < 256) : ∃ υ, FR [19, 20] [18] [6, 7, 8] [] (uR σ 1 18) υ ∧ fX5_faultOf_p σ = some (fx (pPlot bs).2, υ) ∧ (∀ k, k < (pPlot bs).1.length → zA υ 20 k = nI ((pPlot bs).1.getD k 0)) ∧ zI υ 8 = nI (pPlot bs).1.length := by
  obtain ⟨s1, h3, h4, h5, h6⟩ := c_cutUp_p h2 h11 hl hb
  obtain ⟨s2, hs2⟩ : ∃ s2, s2 = uI (uI (uR s1 1 18) 6 (nI 0)) 7 mI := ⟨_, rfl⟩
  have hF2 : FR [19] [18] [6, 7] [] (uR σ 1 18) s2 := by
    rw [hs2]
    exact FR.uI (FR.uI ((h3.mono (by decide) (by decide) (by decide) (by decide)).uR2) (by decide)) (by decide)
  have hS2 : Sp s2 (tkF Jp 0 gp bs) (.inr (tkF Jp 0 gp bs)) := by
    refine ⟨⟨?_, ?_, ?_, h5, [], rfl, ?_⟩, gT_p hl hb⟩
    · rw [hs2, zR_uI, zR_uI, zR_uR]
    · rw [hs2, zI_uI]
    · rw [hs2]; exact h4
    · rw [hs2, zI_ne (by decide), zI_uI]; rfl
  obtain ⟨s3, h7, h8, h9, h10, h11'⟩ := c_takeAll_p hS2
  obtain ⟨s4, h12, h13⟩ := s_end_p h10
  refine ⟨s4, ((hF2.mono (by decide) (by decide) (by decide) (by decide)).tr (h7.mono (by decide) (by decide) (by decide) (by decide))).tr (h13.mono (by decide) (by decide) (by decide) (by decide)), ?_, ?_, ?_⟩
  · have e1 : fX5_begin_p_18 s1 = some s2 := by rw [hs2]; rfl
    unfold fX5_faultOf_p
    rw [h6, bnd, e1, bnd, h11', bnd]
    exact h12
  · rw [h13.1 20 (by decide)]
    exact h8
  · rw [h13.2.2.1 8 (by decide)]
    exact h9
