/-! the class values a habit: steps, atoms, terms, sums *-/
def HC (y : St) (q : Nat) (T R : List Tk) : Prop := zR y 2 = q ∧ (q = 21 ∨ q = 83 ∨ q = 84 ∨ q = 85 ∨ q = 86) ∧ zI y 10 = mI ∧ (∀ k, k < T.length → zB y q k = lN (T.getD k (0, 0)).1) ∧ (q = 21 → ∀ k, k < T.length → zA y 22 k = nI (T.getD k (0, 0)).2) ∧ P22 y ∧ T.length ≤ 201 ∧ ∃ pre, T = pre ++ R ∧ zI y 9 = nI pre.length
def HS (y : St) (q : Nat) (T : List Tk) : Sx → Prop
  | .inl f => zI y 10 ≠ mI ∧ (q = 21 → zI y 10 = nI f) ∧ P22 y
  | .inr R => HC y q T R
def HF (y υ : St) : Prop := FR [] [] [9, 10] [] y υ ∧ zJ υ = zJ y
theorem HF.rf (y : St) : HF y y := ⟨FR.rf _ _ _ _ _, rfl⟩
theorem HF.tr {y υ w : St} (h : HF y υ) (k : HF υ w) : HF y w := ⟨h.1.tr k.1, k.2.trans h.2⟩
theorem len_q {y : St} {q : Nat} (h : q = 21 ∨ q = 83 ∨ q = 84 ∨ q = 85 ∨ q = 86) : lenB y q = 201 := by
  rcases h with e | e | e | e | e <;> rw [e] <;> rfl
theorem HC.at {y : St} {q : Nat} {T R : List Tk} {t : Tk} (h : HC y q T (t :: R)) : ∃ k, k < 201 ∧ zI y 9 = nI k ∧ zB y q k = lN t.1 ∧ (q = 21 → zA y 22 k = nI t.2) ∧ HC (uI y 9 (nI (k + 1))) q T R := by
  obtain ⟨h1, h2, h3, h4, h4b, h5, h6, pre, h7, h8⟩ := h
  have hk : pre.length < T.length := by rw [h7, List.length_append, List.length_cons]; omega
  have hg : T.getD pre.length (0, 0) = t := by
    rw [h7, List.getD_eq_getElem?_getD, List.getElem?_append_right (Nat.le_refl _), Nat.sub_self]
    rfl
  refine ⟨pre.length, by omega, h8, ?_, fun hq => ?_, h1, h2, ?_, h4, h4b, h5, h6, pre ++ [t], ?_, ?_⟩
  · have := h4 pre.length hk
    rwa [hg] at this
  · have := h4b hq pre.length hk
    rwa [hg] at this
  · rw [zI_ne (by decide)]
    exact h3
  · rw [h7, List.append_assoc]
    rfl
  · rw [zI_uI, List.length_append, List.length_singleton]
theorem h_sign {y : St} {q N : Nat} {T : List Tk} {x : Sx} (h : HS y q T x) (hg : gX N x) : fX5_sign_h y = some (nI (sg x)) := by
  cases x with
  | inl p =>
    have h1 := h.1
    unfold fX5_sign_h
    simp (disch := omega) only [l0, l1, l2, l3, l4, l5, l6, l7, l8, l9, l10, l11, l12, l16, l18, l19, l20, l21, l24, l96, l128, l100, l144, l200, l256, l288, l1536, l1728, l1800, bnd, nI_add, pk_mul, pI_sub, pI_m1, pT_le, pF_le, pT_lt, pF_lt, pT_eq, pF_eq, pF_m1, mF_eq, mT_eq, mT_lt, mF_le, lm1, rd_nI, wr_nI, cl_nI, pk_us, un_ne, pk_uLs, uL_ne, zI_uI, zI_uJ, zI_uA, zI_uB, zI_uR, zI_uN, zJ_uI, zJ_uJ, zJ_uA, zJ_uB, zJ_uR, zJ_uN, zA_uI, zA_uJ, zA_uA, zA_uB, zA_uR, zA_uN, zB_uI, zB_uJ, zB_uA, zB_uB, zB_uR, zB_uN, zR_uI, zR_uJ, zR_uA, zR_uB, zR_uR, zR_uN, zN_uI, zN_uJ, zN_uA, zN_uB, zN_uR, zN_uN, zI_ne, zJ_ne, zA_ne, zB_ne, zR_ne, zN_ne, bi_T, bi_F, nz16, ↓reduceIte, not_true_eq_false, not_false_eq_true, Bool.false_eq_true, reduceCtorEq, mI_eq, if_neg h1]
    rfl
  | inr R =>
    have h : HC y q T R := h
    cases R with
    | nil => exact absurd hg.1 (fun h => h)
    | cons t R =>
      obtain ⟨k, hk, h1, h2, h3, h4⟩ := h.at
      have h5 := len_q (y := y) h.2.1
      have ht := hg.2.1 t List.mem_cons_self
      show fX5_sign_h y = some (nI (if t.1 < 1000 then t.1 else 1000))
      unfold fX5_sign_h
      rw [h.1, h5]
      unfold isl
      rw [if_neg (show ¬ 201 = 0 by decide)]
      by_cases hc : t.1 < 1000
      · rw [if_pos hc]
        have hlt : lg_cmp (lN t.1) (lN 1000) < nI 0 := (lg_cmp_lt _ _).mpr (by
          apply Int64.lt_iff_toInt_lt.mpr
          have e1 : (lN t.1).toInt = (t.1 : Nat) := Int64.toInt_ofNat_of_lt (by omega)
          have e2 : (lN 1000).toInt = 1000 := rfl
          omega)
        have h32 := to32 (n := t.1) (by omega)
        simp (disch := omega) only [l0, l1, l2, l3, l4, l5, l6, l7, l8, l9, l10, l11, l12, l16, l18, l19, l20, l21, l24, l96, l128, l100, l144, l200, l256, l288, l1536, l1728, l1800, bnd, nI_add, pk_mul, pI_sub, pI_m1, pT_le, pF_le, pT_lt, pF_lt, pT_eq, pF_eq, pF_m1, mF_eq, mT_eq, mT_lt, mF_le, lm1, rd_nI, wr_nI, cl_nI, pk_us, un_ne, pk_uLs, uL_ne, zI_uI, zI_uJ, zI_uA, zI_uB, zI_uR, zI_uN, zJ_uI, zJ_uJ, zJ_uA, zJ_uB, zJ_uR, zJ_uN, zA_uI, zA_uJ, zA_uA, zA_uB, zA_uR, zA_uN, zB_uI, zB_uJ, zB_uA, zB_uB, zB_uR, zB_uN, zR_uI, zR_uJ, zR_uA, zR_uB, zR_uR, zR_uN, zN_uI, zN_uJ, zN_uA, zN_uB, zN_uR, zN_uN, zI_ne, zJ_ne, zA_ne, zB_ne, zR_ne, zN_ne, bi_T, bi_F, nz16, ↓reduceIte, not_true_eq_false, not_false_eq_true, Bool.false_eq_true, reduceCtorEq, h.2.2.1, mI_eq, h1, oNI, h2, l1000L, if_pos hlt, h32]
      · rw [if_neg hc]
        have hlt : ¬ lg_cmp (lN t.1) (lN 1000) < nI 0 := by
          intro h
          have h := Int64.lt_iff_toInt_lt.mp ((lg_cmp_lt _ _).mp h)
          have e1 : (lN t.1).toInt = (t.1 : Nat) := Int64.toInt_ofNat_of_lt (by omega)
          have e2 : (lN 1000).toInt = 1000 := rfl
          omega
        simp (disch := omega) only [l0, l1, l2, l3, l4, l5, l6, l7, l8, l9, l10, l11, l12, l16, l18, l19, l20, l21, l24, l96, l128, l100, l144, l200, l256, l288, l1536, l1728, l1800, bnd, nI_add, pk_mul, pI_sub, pI_m1, pT_le, pF_le, pT_lt, pF_lt, pT_eq, pF_eq, pF_m1, mF_eq, mT_eq, mT_lt, mF_le, lm1, rd_nI, wr_nI, cl_nI, pk_us, un_ne, pk_uLs, uL_ne, zI_uI, zI_uJ, zI_uA, zI_uB, zI_uR, zI_uN, zJ_uI, zJ_uJ, zJ_uA, zJ_uB, zJ_uR, zJ_uN, zA_uI, zA_uJ, zA_uA, zA_uB, zA_uR, zA_uN, zB_uI, zB_uJ, zB_uA, zB_uB, zB_uR, zB_uN, zR_uI, zR_uJ, zR_uA, zR_uB, zR_uR, zR_uN, zN_uI, zN_uJ, zN_uA, zN_uB, zN_uR, zN_uN, zI_ne, zJ_ne, zA_ne, zB_ne, zR_ne, zN_ne, bi_T, bi_F, nz16, ↓reduceIte, not_true_eq_false, not_false_eq_true, Bool.false_eq_true, reduceCtorEq, h.2.2.1, mI_eq, h1, oNI, h2, l1000L, if_neg hlt, l1000]
theorem h_value {y : St} {q N : Nat} {T : List Tk} {x : Sx} (h : HS y q T x) (hg : gX N x) (hs : sg x = 1000) : fX5_value_h y = some (iL (vl x)) := by
  cases x with
  | inl p => cases hs
  | inr R =>
    have h : HC y q T R := h
    cases R with
    | nil => exact absurd hg.1 (fun h => h)
    | cons t R =>
      obtain ⟨k, hk, h1, h2, h3, h4⟩ := h.at
      have h5 := len_q (y := y) h.2.1
      have ht : 1000 ≤ t.1 := by
        have hs : (if t.1 < 1000 then t.1 else 1000) = 1000 := hs
        split at hs <;> omega
      have e : zB y q k = lN (1000 + (t.1 - 1000)) := by rw [h2, show 1000 + (t.1 - 1000) = t.1 by omega]
      have e2 : lN (t.1 - 1000) = iL (vl (.inr (t :: R))) := by
        show Int64.ofNat (t.1 - 1000) = Int64.ofInt ((t.1 - 1000 : Nat) : Int)
        rw [Int64.ofInt_eq_ofNat]
      unfold fX5_value_h
      rw [h.1, h5]
      unfold isl
      rw [if_neg (show ¬ 201 = 0 by decide)]
      simp (disch := omega) only [l0, l1, l2, l3, l4, l5, l6, l7, l8, l9, l10, l11, l12, l16, l18, l19, l20, l21, l24, l96, l128, l100, l144, l200, l256, l288, l1536, l1728, l1800, bnd, nI_add, pk_mul, pI_sub, pI_m1, pT_le, pF_le, pT_lt, pF_lt, pT_eq, pF_eq, pF_m1, mF_eq, mT_eq, mT_lt, mF_le, lm1, rd_nI, wr_nI, cl_nI, pk_us, un_ne, pk_uLs, uL_ne, zI_uI, zI_uJ, zI_uA, zI_uB, zI_uR, zI_uN, zJ_uI, zJ_uJ, zJ_uA, zJ_uB, zJ_uR, zJ_uN, zA_uI, zA_uJ, zA_uA, zA_uB, zA_uR, zA_uN, zB_uI, zB_uJ, zB_uA, zB_uB, zB_uR, zB_uN, zR_uI, zR_uJ, zR_uA, zR_uB, zR_uR, zR_uN, zN_uI, zN_uJ, zN_uA, zN_uB, zN_uR, zN_uN, zI_ne, zJ_ne, zA_ne, zB_ne, zR_ne, zN_ne, bi_T, bi_F, nz16, ↓reduceIte, not_true_eq_false, not_false_eq_true, Bool.false_eq_true, reduceCtorEq, h1, oNI, e, l1000L, lN_subl]
      rw [e2]
theorem h_step {y : St} {q N : Nat} {T : List Tk} {x : Sx} (h : HS y q T x) (hg : gX N x) (hs : sg x ≠ 257) : ∃ υ, fX5_step_h y = some υ ∧ HS υ q T (tlx x) ∧ HF y υ := by
  cases x with
  | inl p => exact absurd rfl hs
  | inr R =>
    have h : HC y q T R := h
    cases R with
    | nil => exact absurd hg.1 (fun h => h)
    | cons t R =>
      obtain ⟨k, hk, h1, h2, h3, h4⟩ := h.at
      refine ⟨uI y 9 (nI (k + 1)), ?_, h4, FR.uI (FR.rf _ _ _ _ _) (by decide), rfl⟩
      unfold fX5_step_h
      simp (disch := omega) only [l0, l1, l2, l3, l4, l5, l6, l7, l8, l9, l10, l11, l12, l16, l18, l19, l20, l21, l24, l96, l128, l100, l144, l200, l256, l288, l1536, l1728, l1800, bnd, nI_add, pk_mul, pI_sub, pI_m1, pT_le, pF_le, pT_lt, pF_lt, pT_eq, pF_eq, pF_m1, mF_eq, mT_eq, mT_lt, mF_le, lm1, rd_nI, wr_nI, cl_nI, pk_us, un_ne, pk_uLs, uL_ne, zI_uI, zI_uJ, zI_uA, zI_uB, zI_uR, zI_uN, zJ_uI, zJ_uJ, zJ_uA, zJ_uB, zJ_uR, zJ_uN, zA_uI, zA_uJ, zA_uA, zA_uB, zA_uR, zA_uN, zB_uI, zB_uJ, zB_uA, zB_uB, zB_uR, zB_uN, zR_uI, zR_uJ, zR_uA, zR_uB, zR_uR, zR_uN, zN_uI, zN_uJ, zN_uA, zN_uB, zN_uR, zN_uN, zI_ne, zJ_ne, zA_ne, zB_ne, zR_ne, zN_ne, bi_T, bi_F, nz16, ↓reduceIte, not_true_eq_false, not_false_eq_true, Bool.false_eq_true, reduceCtorEq, h1]
theorem h_spoil {y : St} {q N : Nat} {T : List Tk} {x : Sx} (h : HS y q T x) (hg : gX N x) : ∃ υ, fX5_spoil_h y = some υ ∧ HS υ q T (slx x) ∧ HF y υ := by
  cases x with
  | inl p =>
    refine ⟨y, ?_, h, HF.rf y⟩
    have h1 := h.1
    unfold fX5_spoil_h
    simp (disch := omega) only [l0, l1, l2, l3, l4, l5, l6, l7, l8, l9, l10, l11, l12, l16, l18, l19, l20, l21, l24, l96, l128, l100, l144, l200, l256, l288, l1536, l1728, l1800, bnd, nI_add, pk_mul, pI_sub, pI_m1, pT_le, pF_le, pT_lt, pF_lt, pT_eq, pF_eq, pF_m1, mF_eq, mT_eq, mT_lt, mF_le, lm1, rd_nI, wr_nI, cl_nI, pk_us, un_ne, pk_uLs, uL_ne, zI_uI, zI_uJ, zI_uA, zI_uB, zI_uR, zI_uN, zJ_uI, zJ_uJ, zJ_uA, zJ_uB, zJ_uR, zJ_uN, zA_uI, zA_uJ, zA_uA, zA_uB, zA_uR, zA_uN, zB_uI, zB_uJ, zB_uA, zB_uB, zB_uR, zB_uN, zR_uI, zR_uJ, zR_uA, zR_uB, zR_uR, zR_uN, zN_uI, zN_uJ, zN_uA, zN_uB, zN_uR, zN_uN, zI_ne, zJ_ne, zA_ne, zB_ne, zR_ne, zN_ne, bi_T, bi_F, nz16, ↓reduceIte, not_true_eq_false, not_false_eq_true, Bool.false_eq_true, reduceCtorEq, mI_eq, if_neg h1]
  | inr R =>
    have h : HC y q T R := h
    cases R with
    | nil => exact absurd hg.1 (fun h => h)
    | cons t R =>
      obtain ⟨k, hk, h1, h2, h3, h4⟩ := h.at
      have h22 := h.2.2.2.2.2.1
      refine ⟨uI y 10 (zA y 22 k), ?_, ⟨?_, fun hq => ?_, h22⟩, FR.uI (FR.rf _ _ _ _ _) (by decide), rfl⟩
      · unfold fX5_spoil_h
        simp (disch := omega) only [l0, l1, l2, l3, l4, l5, l6, l7, l8, l9, l10, l11, l12, l16, l18, l19, l20, l21, l24, l96, l128, l100, l144, l200, l256, l288, l1536, l1728, l1800, bnd, nI_add, pk_mul, pI_sub, pI_m1, pT_le, pF_le, pT_lt, pF_lt, pT_eq, pF_eq, pF_m1, mF_eq, mT_eq, mT_lt, mF_le, lm1, rd_nI, wr_nI, cl_nI, pk_us, un_ne, pk_uLs, uL_ne, zI_uI, zI_uJ, zI_uA, zI_uB, zI_uR, zI_uN, zJ_uI, zJ_uJ, zJ_uA, zJ_uB, zJ_uR, zJ_uN, zA_uI, zA_uJ, zA_uA, zA_uB, zA_uR, zA_uN, zB_uI, zB_uJ, zB_uA, zB_uB, zB_uR, zB_uN, zR_uI, zR_uJ, zR_uA, zR_uB, zR_uR, zR_uN, zN_uI, zN_uJ, zN_uA, zN_uB, zN_uR, zN_uN, zI_ne, zJ_ne, zA_ne, zB_ne, zR_ne, zN_ne, bi_T, bi_F, nz16, ↓reduceIte, not_true_eq_false, not_false_eq_true, Bool.false_eq_true, reduceCtorEq, h.2.2.1, mI_eq, h1, l201]
      · rw [zI_uI]
        exact h22 k hk
      · rw [zI_uI]
        exact h3 hq
theorem h_needs {y : St} {q N v : Nat} {T : List Tk} {x : Sx} (h : HS y q T x) (hg : gX N x) (hv : v < 256) : ∃ υ, fX5_needs_h y (nI v) = some υ ∧ HS υ q T (nd v x) ∧ HF y υ := by
  have hs := h_sign h hg
  by_cases e : sg x = v
  · obtain ⟨υ, h1, h2, h3⟩ := h_step h hg (by omega)
    have en : nd v x = tlx x := by
      cases x with
      | inl p => have : sg (.inl p) = 257 := rfl; omega
      | inr R =>
        have e : (if (hd R).1 < 1000 then (hd R).1 else 1000) = v := e
        exact if_pos (by split at e <;> omega)
    rw [en]
    refine ⟨υ, ?_, h2, h3⟩
    unfold fX5_step_h at h1
    unfold fX5_needs_h
    simp (disch := omega) only [l0, l1, l2, l3, l4, l5, l6, l7, l8, l9, l10, l11, l12, l16, l18, l19, l20, l21, l24, l96, l128, l100, l144, l200, l256, l288, l1536, l1728, l1800, bnd, nI_add, pk_mul, pI_sub, pI_m1, pT_le, pF_le, pT_lt, pF_lt, pT_eq, pF_eq, pF_m1, mF_eq, mT_eq, mT_lt, mF_le, lm1, rd_nI, wr_nI, cl_nI, pk_us, un_ne, pk_uLs, uL_ne, zI_uI, zI_uJ, zI_uA, zI_uB, zI_uR, zI_uN, zJ_uI, zJ_uJ, zJ_uA, zJ_uB, zJ_uR, zJ_uN, zA_uI, zA_uJ, zA_uA, zA_uB, zA_uR, zA_uN, zB_uI, zB_uJ, zB_uA, zB_uB, zB_uR, zB_uN, zR_uI, zR_uJ, zR_uA, zR_uB, zR_uR, zR_uN, zN_uI, zN_uJ, zN_uA, zN_uB, zN_uR, zN_uN, zI_ne, zJ_ne, zA_ne, zB_ne, zR_ne, zN_ne, bi_T, bi_F, nz16, ↓reduceIte, not_true_eq_false, not_false_eq_true, Bool.false_eq_true, reduceCtorEq, hs, e]
    simp (disch := omega) only [l0, l1, l2, l3, l4, l5, l6, l7, l8, l9, l10, l11, l12, l16, l18, l19, l20, l21, l24, l96, l128, l100, l144, l200, l256, l288, l1536, l1728, l1800, bnd, nI_add, pk_mul, pI_sub, pI_m1, pT_le, pF_le, pT_lt, pF_lt, pT_eq, pF_eq, pF_m1, mF_eq, mT_eq, mT_lt, mF_le, lm1, rd_nI, wr_nI, cl_nI, pk_us, un_ne, pk_uLs, uL_ne, zI_uI, zI_uJ, zI_uA, zI_uB, zI_uR, zI_uN, zJ_uI, zJ_uJ, zJ_uA, zJ_uB, zJ_uR, zJ_uN, zA_uI, zA_uJ, zA_uA, zA_uB, zA_uR, zA_uN, zB_uI, zB_uJ, zB_uA, zB_uB, zB_uR, zB_uN, zR_uI, zR_uJ, zR_uA, zR_uB, zR_uR, zR_uN, zN_uI, zN_uJ, zN_uA, zN_uB, zN_uR, zN_uN, zI_ne, zJ_ne, zA_ne, zB_ne, zR_ne, zN_ne, bi_T, bi_F, nz16, ↓reduceIte, not_true_eq_false, not_false_eq_true, Bool.false_eq_true, reduceCtorEq] at h1
    exact h1
  · obtain ⟨υ, h1, h2, h3⟩ := h_spoil h hg
    have hsl := sg_lt x
    have en : nd v x = slx x := by
      cases x with
      | inl p => rfl
      | inr R =>
        have e : ¬ (if (hd R).1 < 1000 then (hd R).1 else 1000) = v := e
        exact if_neg (fun e2 => e (by rw [if_pos (by omega)]; exact e2))
    rw [en]
    refine ⟨υ, ?_, h2, h3⟩
    unfold fX5_needs_h
    simp (disch := omega) only [l0, l1, l2, l3, l4, l5, l6, l7, l8, l9, l10, l11, l12, l16, l18, l19, l20, l21, l24, l96, l128, l100, l144, l200, l256, l288, l1536, l1728, l1800, bnd, nI_add, pk_mul, pI_sub, pI_m1, pT_le, pF_le, pT_lt, pF_lt, pT_eq, pF_eq, pF_m1, mF_eq, mT_eq, mT_lt, mF_le, lm1, rd_nI, wr_nI, cl_nI, pk_us, un_ne, pk_uLs, uL_ne, zI_uI, zI_uJ, zI_uA, zI_uB, zI_uR, zI_uN, zJ_uI, zJ_uJ, zJ_uA, zJ_uB, zJ_uR, zJ_uN, zA_uI, zA_uJ, zA_uA, zA_uB, zA_uR, zA_uN, zB_uI, zB_uJ, zB_uA, zB_uB, zB_uR, zB_uN, zR_uI, zR_uJ, zR_uA, zR_uB, zR_uR, zR_uN, zN_uI, zN_uJ, zN_uA, zN_uB, zN_uR, zN_uN, zI_ne, zJ_ne, zA_ne, zB_ne, zR_ne, zN_ne, bi_T, bi_F, nz16, ↓reduceIte, not_true_eq_false, not_false_eq_true, Bool.false_eq_true, reduceCtorEq, hs, h1]
theorem h_takes {y : St} {q N v : Nat} {T : List Tk} {x : Sx} (h : HS y q T x) (hg : gX N x) (hv : v < 256) : ∃ υ, fX5_takes_h y (nI v) = some (tb v x, υ) ∧ HS υ q T (if tb v x = true then tlx x else x) ∧ HF y υ := by
  have hs := h_sign h hg
  have hsl := sg_lt x
  by_cases e : sg x = v
  · obtain ⟨υ, h1, h2, h3⟩ := h_step h hg (by omega)
    have et : tb v x = true := by
      cases x with
      | inl p => have : sg (.inl p) = 257 := rfl; omega
      | inr R =>
        have e : (if (hd R).1 < 1000 then (hd R).1 else 1000) = v := e
        exact decide_eq_true (by split at e <;> omega)
    rw [et, if_pos rfl]
    refine ⟨υ, ?_, h2, h3⟩
    unfold fX5_step_h at h1
    simp (disch := omega) only [l0, l1, l2, l3, l4, l5, l6, l7, l8, l9, l10, l11, l12, l16, l18, l19, l20, l21, l24, l96, l128, l100, l144, l200, l256, l288, l1536, l1728, l1800, bnd, nI_add, pk_mul, pI_sub, pI_m1, pT_le, pF_le, pT_lt, pF_lt, pT_eq, pF_eq, pF_m1, mF_eq, mT_eq, mT_lt, mF_le, lm1, rd_nI, wr_nI, cl_nI, pk_us, un_ne, pk_uLs, uL_ne, zI_uI, zI_uJ, zI_uA, zI_uB, zI_uR, zI_uN, zJ_uI, zJ_uJ, zJ_uA, zJ_uB, zJ_uR, zJ_uN, zA_uI, zA_uJ, zA_uA, zA_uB, zA_uR, zA_uN, zB_uI, zB_uJ, zB_uA, zB_uB, zB_uR, zB_uN, zR_uI, zR_uJ, zR_uA, zR_uB, zR_uR, zR_uN, zN_uI, zN_uJ, zN_uA, zN_uB, zN_uR, zN_uN, zI_ne, zJ_ne, zA_ne, zB_ne, zR_ne, zN_ne, bi_T, bi_F, nz16, ↓reduceIte, not_true_eq_false, not_false_eq_true, Bool.false_eq_true, reduceCtorEq] at h1
    have h1 := Option.some.inj h1
    unfold fX5_takes_h
    simp (disch := omega) only [l0, l1, l2, l3, l4, l5, l6, l7, l8, l9, l10, l11, l12, l16, l18, l19, l20, l21, l24, l96, l128, l100, l144, l200, l256, l288, l1536, l1728, l1800, bnd, nI_add, pk_mul, pI_sub, pI_m1, pT_le, pF_le, pT_lt, pF_lt, pT_eq, pF_eq, pF_m1, mF_eq, mT_eq, mT_lt, mF_le, lm1, rd_nI, wr_nI, cl_nI, pk_us, un_ne, pk_uLs, uL_ne, zI_uI, zI_uJ, zI_uA, zI_uB, zI_uR, zI_uN, zJ_uI, zJ_uJ, zJ_uA, zJ_uB, zJ_uR, zJ_uN, zA_uI, zA_uJ, zA_uA, zA_uB, zA_uR, zA_uN, zB_uI, zB_uJ, zB_uA, zB_uB, zB_uR, zB_uN, zR_uI, zR_uJ, zR_uA, zR_uB, zR_uR, zR_uN, zN_uI, zN_uJ, zN_uA, zN_uB, zN_uR, zN_uN, zI_ne, zJ_ne, zA_ne, zB_ne, zR_ne, zN_ne, bi_T, bi_F, nz16, ↓reduceIte, not_true_eq_false, not_false_eq_true, Bool.false_eq_true, reduceCtorEq, hs, e]
    rw [← h1]
  · have et : tb v x = false := by
      cases x with
      | inl p => rfl
      | inr R =>
        have e : ¬ (if (hd R).1 < 1000 then (hd R).1 else 1000) = v := e
        exact decide_eq_false (fun e2 => e (by rw [if_pos (by omega)]; exact e2))
    rw [et, if_neg (by decide)]
    refine ⟨y, ?_, h, HF.rf y⟩
    unfold fX5_takes_h
    simp (disch := omega) only [l0, l1, l2, l3, l4, l5, l6, l7, l8, l9, l10, l11, l12, l16, l18, l19, l20, l21, l24, l96, l128, l100, l144, l200, l256, l288, l1536, l1728, l1800, bnd, nI_add, pk_mul, pI_sub, pI_m1, pT_le, pF_le, pT_lt, pF_lt, pT_eq, pF_eq, pF_m1, mF_eq, mT_eq, mT_lt, mF_le, lm1, rd_nI, wr_nI, cl_nI, pk_us, un_ne, pk_uLs, uL_ne, zI_uI, zI_uJ, zI_uA, zI_uB, zI_uR, zI_uN, zJ_uI, zJ_uJ, zJ_uA, zJ_uB, zJ_uR, zJ_uN, zA_uI, zA_uJ, zA_uA, zA_uB, zA_uR, zA_uN, zB_uI, zB_uJ, zB_uA, zB_uB, zB_uR, zB_uN, zR_uI, zR_uJ, zR_uA, zR_uB, zR_uR, zR_uN, zN_uI, zN_uJ, zN_uA, zN_uB, zN_uR, zN_uN, zI_ne, zJ_ne, zA_ne, zB_ne, zR_ne, zN_ne, bi_T, bi_F, nz16, ↓reduceIte, not_true_eq_false, not_false_eq_true, Bool.false_eq_true, reduceCtorEq, hs]
/-- the values of the five letters -/
def evS (n v f l w : Nat) : En := fun s => if s = 102 then some (f : Int) else if s = 108 then some (l : Int) else if s = 110 then some (n : Int) else if s = 118 then some (v : Int) else if s = 119 then some (w : Int) else none
def EC (y : St) (e : En) : Prop := ∃ n v f l w : Nat, n < 1000 ∧ v < 1000 ∧ f < 1000 ∧ l < 1000 ∧ w < 1000 ∧ zI y 12 = nI n ∧ zI y 13 = nI v ∧ zI y 14 = nI f ∧ zI y 15 = nI w ∧ fX10_letter (zJ y 0) (nI 0) = some (nI l) ∧ e = evS n v f l w
theorem EC.fr {y υ : St} {e : En} (h : EC y e) (f : HF y υ) : EC υ e := by
  unfold EC
  rw [f.1.2.2.1 12 (by decide), f.1.2.2.1 13 (by decide), f.1.2.2.1 14 (by decide), f.1.2.2.1 15 (by decide), f.2]
  exact h
theorem EC.eb {y : St} {e : En} (h : EC y e) : eB e := by
  obtain ⟨n, v, f, l, w, h1, h2, h3, h4, h5, _, _, _, _, _, rfl⟩ := h
  refine ⟨rfl, fun s z hz => ?_⟩
  unfold evS at hz
  unfold bnd6
  split at hz
  · cases hz; omega
  · split at hz
    · cases hz; omega
    · split at hz
      · cases hz; omega
      · split at hz
        · cases hz; omega
        · split at hz
          · cases hz; omega
          · cases hz
theorem c_letterValue {y : St} {e : En} {s : Nat} (h : EC y e) (hs : s ≤ 1000) : fX1_letterValue y (nI s) = some (match e s with | some v => iI v | none => mI) := by
  obtain ⟨n, v, f, l, w, h1, h2, h3, h4, h5, e1, e2, e3, e4, e5, rfl⟩ := h
  unfold fX1_letterValue evS
  rw [show (102 : Int32) = nI 102 from rfl, show (108 : Int32) = nI 108 from rfl, show (110 : Int32) = nI 110 from rfl, show (118 : Int32) = nI 118 from rfl, show (119 : Int32) = nI 119 from rfl]
  by_cases c1 : s = 102
  · rw [if_pos c1, if_pos (by rw [c1]), e3]
    show _ = some (iI (f : Int))
    rw [iI_nat]
  · rw [if_neg c1, if_neg (fun x => c1 ((nI_eq (b := 102) (by omega) (by omega)).mp x))]
    by_cases c2 : s = 108
    · rw [if_pos c2, if_pos (by rw [c2]), l0, e5, bnd]
      show _ = some (iI (l : Int))
      rw [iI_nat]
    · rw [if_neg c2, if_neg (fun x => c2 ((nI_eq (b := 108) (by omega) (by omega)).mp x))]
      by_cases c3 : s = 110
      · rw [if_pos c3, if_pos (by rw [c3]), e1]
        show _ = some (iI (n : Int))
        rw [iI_nat]
      · rw [if_neg c3, if_neg (fun x => c3 ((nI_eq (b := 110) (by omega) (by omega)).mp x))]
        by_cases c4 : s = 118
        · rw [if_pos c4, if_pos (by rw [c4]), e2]
          show _ = some (iI (v : Int))
          rw [iI_nat]
        · rw [if_neg c4, if_neg (fun x => c4 ((nI_eq (b := 118) (by omega) (by omega)).mp x))]
          by_cases c5 : s = 119
          · rw [if_pos c5, if_pos (by rw [c5]), e4]
            show _ = some (iI (w : Int))
            rw [iI_nat]
          · rw [if_neg c5, if_neg (fun x => c5 ((nI_eq (b := 119) (by omega) (by omega)).mp x))]
            rfl
theorem l42 : (42 : Int32) = nI 42 := nrfl rfl
theorem l43 : (43 : Int32) = nI 43 := nrfl rfl
theorem l91 : (91 : Int32) = nI 91 := nrfl rfl
theorem l93 : (93 : Int32) = nI 93 := nrfl rfl
theorem iI_0 : iI 0 = nI 0 := nrfl rfl
theorem iI_m1 : iI (-1) = mI := by decide
theorem iI_nz {v : Int} (h : bnd6 v) (h0 : v ≠ 0) : ¬ iI v = nI 0 := fun e => h0 ((iI_inj h (by constructor <;> decide)).mp (e.trans iI_0.symm))
/-- what evaluating at a place does on the class's side: f is the program's, s the spec's -/
def cOK (q : Nat) (T : List Tk) (e : En) (N : Nat) (f : St → Option (Int32 × St)) (s : Sx → Int × Sx) : Prop := ∀ y x N', N' ≤ N → HS y q T x → gX N' x → EC y e → ∃ υ, f y = some (iI (s x).1, υ) ∧ HS υ q T (s x).2 ∧ HF y υ
def gOK (N : Nat) (s : Sx → Int × Sx) : Prop := ∀ N' x, N' ≤ N → gX N' x → gX N' (s x).2 ∧ bnd6 (s x).1
theorem c_tmS {q N : Nat} {T : List Tk} {e : En} {rec : St → Int32 → Option (Int32 × St)} {p0 : Int32} {s : Sx → Int × Sx} (hr : cOK q T e N (fun y => rec y p0) s) (hg : gOK N s) : cOK q T e N (fun y => fX1_term_B rec y p0) (tmS s) := by
  intro y x N' hN hS hx hE
  obtain ⟨υ0, h1, h2, h3⟩ := hr y x N' hN hS hx hE
  obtain ⟨g1, g2⟩ := hg N' x hN hx
  have hs0 := h_sign h2 g1
  have key := it_for (β := St × Int × Sx × Nat) (body := fun (kb : (St × Int32 × Int32 × Int32) → Option (Int32 × St)) (t : St × Int32 × Int32 × Int32) => fX1_term_L14 rec p0 (fun σ v2 v3 v4 => kb (σ, v2, v3, v4)) t.1 t.2.1 t.2.2.1 t.2.2.2) 200 (by omega) (fun i b => (b.1, iI b.2.1, nI (sg b.2.2.1), nI i)) (fun i b => tmL s 200 (s x).1 (s x).2 = tmL s (200 - i) b.2.1 b.2.2.1 ∧ b.2.2.2 ≤ N ∧ HS b.1 q T b.2.2.1 ∧ gX b.2.2.2 b.2.2.1 ∧ bnd6 b.2.1 ∧ HF y b.1) (fun i b z => ∃ υ, z = some (iI (tmL s 200 (s x).1 (s x).2).1, υ) ∧ HS υ q T (tmL s 200 (s x).1 (s x).2).2 ∧ HF y υ) ?_ 0 (υ0, (s x).1, (s x).2, N') (Nat.zero_le _) ⟨rfl, hN, h2, g1, g2, h3⟩
  · obtain ⟨υ, k1, k2, k3⟩ := key
    refine ⟨υ, ?_, k2, k3⟩
    show fX1_term_B rec y p0 = some (iI (tmS s x).1, υ)
    unfold fX1_term_B
    have h1 : rec y p0 = some (iI (s x).1, υ0) := h1
    rw [h1, bnd]
    show (fX5_sign_h υ0).bind _ = _
    rw [hs0, bnd]
    exact k1
  · rintro i ⟨z, v, w, M⟩ hi ⟨jt, jN, jS, jx, jv, jF⟩ kb hkb
    have ht : tmL s 200 (s x).1 (s x).2 = tmL s (200 - i) v w := jt
    have hM : M ≤ N := jN
    have hSz : HS z q T w := jS
    have hw : gX M w := jx
    have hv : bnd6 v := jv
    have hFz : HF y z := jF
    clear jt jN jS jx jv jF
    have hsl := sg_lt w
    have hE2 := hE.fr hFz
    show ∃ υ, fX1_term_L14 rec p0 (fun σ v2 v3 v4 => kb (σ, v2, v3, v4)) z (iI v) (nI (sg w)) (nI i) = _ ∧ _
    unfold fX1_term_L14
    by_cases hi2 : i = 200
    · rw [hi2, Nat.sub_self] at ht
      refine ⟨z, ?_, by rw [ht]; exact hSz, hFz⟩
      rw [ht]
      simp (disch := omega) only [l0, l1, l2, l3, l4, l5, l6, l7, l8, l9, l10, l11, l12, l16, l18, l19, l20, l21, l24, l96, l128, l100, l144, l200, l256, l288, l1536, l1728, l1800, bnd, nI_add, pk_mul, pI_sub, pI_m1, pT_le, pF_le, pT_lt, pF_lt, pT_eq, pF_eq, pF_m1, mF_eq, mT_eq, mT_lt, mF_le, lm1, rd_nI, wr_nI, cl_nI, pk_us, un_ne, pk_uLs, uL_ne, zI_uI, zI_uJ, zI_uA, zI_uB, zI_uR, zI_uN, zJ_uI, zJ_uJ, zJ_uA, zJ_uB, zJ_uR, zJ_uN, zA_uI, zA_uJ, zA_uA, zA_uB, zA_uR, zA_uN, zB_uI, zB_uJ, zB_uA, zB_uB, zB_uR, zB_uN, zR_uI, zR_uJ, zR_uA, zR_uB, zR_uR, zR_uN, zN_uI, zN_uJ, zN_uA, zN_uB, zN_uR, zN_uN, zI_ne, zJ_ne, zA_ne, zB_ne, zR_ne, zN_ne, bi_T, bi_F, nz16, ↓reduceIte, not_true_eq_false, not_false_eq_true, Bool.false_eq_true, reduceCtorEq, hi2]
      rfl
    · rw [show 200 - i = (200 - (i + 1)) + 1 by omega] at ht
      have ht : tmL s 200 (s x).1 (s x).2 = if sg w = 42 then tmL s (200 - (i + 1)) (cl6 (v * (s (tlx w)).1)) (s (tlx w)).2 else if sg w = 47 then tmL s (200 - (i + 1)) (if (s (tlx w)).1 = 0 then 0 else cl6 (v.tdiv (s (tlx w)).1)) (s (tlx w)).2 else (v, w) := ht
      by_cases h42 : sg w = 42
      · rw [if_pos h42] at ht
        obtain ⟨z1, a1, a2, a3⟩ := h_step hSz hw (by omega)
        have hw1 := gX_tl hw (by omega)
        obtain ⟨z2, b1, b2, b3⟩ := hr z1 (tlx w) (M - 1) (by omega) a2 hw1 (hE2.fr a3)
        obtain ⟨c1, c2⟩ := hg (M - 1) (tlx w) (by omega) hw1
        have b1 : rec z1 p0 = some (iI (s (tlx w)).1, z2) := b1
        have hs2 := h_sign b2 c1
        obtain ⟨υ, k1, k2, k3⟩ := hkb (z2, cl6 (v * (s (tlx w)).1), (s (tlx w)).2, M - 1) (by omega) ⟨ht, by show M - 1 ≤ N; omega, b2, c1, cl6_b _, (hFz.tr a3).tr b3⟩
        refine ⟨υ, ?_, k2, k3⟩
        rw [← k1]
        have hmb := mul_b hv c2
        have hbo := c_bounded (v := v * (s (tlx w)).1) (by omega) (by omega)
        have e1 := iI_64 (v := v) (by have := hv.1; omega) (by have := hv.2; omega)
        have e2 := iI_64 (v := (s (tlx w)).1) (by have := c2.1; omega) (by have := c2.2; omega)
        have e3 := iL_mul hv c2
        unfold fX1_term_J34
        simp (disch := omega) only [l0, l1, l2, l3, l4, l5, l6, l7, l8, l9, l10, l11, l12, l16, l18, l19, l20, l21, l24, l96, l128, l100, l144, l200, l256, l288, l1536, l1728, l1800, bnd, nI_add, pk_mul, pI_sub, pI_m1, pT_le, pF_le, pT_lt, pF_lt, pT_eq, pF_eq, pF_m1, mF_eq, mT_eq, mT_lt, mF_le, lm1, rd_nI, wr_nI, cl_nI, pk_us, un_ne, pk_uLs, uL_ne, zI_uI, zI_uJ, zI_uA, zI_uB, zI_uR, zI_uN, zJ_uI, zJ_uJ, zJ_uA, zJ_uB, zJ_uR, zJ_uN, zA_uI, zA_uJ, zA_uA, zA_uB, zA_uR, zA_uN, zB_uI, zB_uJ, zB_uA, zB_uB, zB_uR, zB_uN, zR_uI, zR_uJ, zR_uA, zR_uB, zR_uR, zR_uN, zN_uI, zN_uJ, zN_uA, zN_uB, zN_uR, zN_uN, zI_ne, zJ_ne, zA_ne, zB_ne, zR_ne, zN_ne, bi_T, bi_F, nz16, ↓reduceIte, not_true_eq_false, not_false_eq_true, Bool.false_eq_true, reduceCtorEq, h42, l42, a1, b1, e1, e2, e3, hbo, hs2]
      · rw [if_neg h42] at ht
        by_cases h47 : sg w = 47
        · rw [if_pos h47] at ht
          obtain ⟨z1, a1, a2, a3⟩ := h_step hSz hw (by omega)
          have hw1 := gX_tl hw (by omega)
          obtain ⟨z2, b1, b2, b3⟩ := hr z1 (tlx w) (M - 1) (by omega) a2 hw1 (hE2.fr a3)
          obtain ⟨c1, c2⟩ := hg (M - 1) (tlx w) (by omega) hw1
          have b1 : rec z1 p0 = some (iI (s (tlx w)).1, z2) := b1
          have hs2 := h_sign b2 c1
          have hF2 := (hFz.tr a3).tr b3
          by_cases h0 : (s (tlx w)).1 = 0
          · rw [if_pos h0] at ht
            obtain ⟨υ, k1, k2, k3⟩ := hkb (z2, 0, (s (tlx w)).2, M - 1) (by omega) ⟨ht, by show M - 1 ≤ N; omega, b2, c1, bnd6_0, hF2⟩
            refine ⟨υ, ?_, k2, k3⟩
            rw [← k1]
            rw [h0, iI_0] at b1
            unfold fX1_term_J34
            simp (disch := omega) only [l0, l1, l2, l3, l4, l5, l6, l7, l8, l9, l10, l11, l12, l16, l18, l19, l20, l21, l24, l96, l128, l100, l144, l200, l256, l288, l1536, l1728, l1800, bnd, nI_add, pk_mul, pI_sub, pI_m1, pT_le, pF_le, pT_lt, pF_lt, pT_eq, pF_eq, pF_m1, mF_eq, mT_eq, mT_lt, mF_le, lm1, rd_nI, wr_nI, cl_nI, pk_us, un_ne, pk_uLs, uL_ne, zI_uI, zI_uJ, zI_uA, zI_uB, zI_uR, zI_uN, zJ_uI, zJ_uJ, zJ_uA, zJ_uB, zJ_uR, zJ_uN, zA_uI, zA_uJ, zA_uA, zA_uB, zA_uR, zA_uN, zB_uI, zB_uJ, zB_uA, zB_uB, zB_uR, zB_uN, zR_uI, zR_uJ, zR_uA, zR_uB, zR_uR, zR_uN, zN_uI, zN_uJ, zN_uA, zN_uB, zN_uR, zN_uN, zI_ne, zJ_ne, zA_ne, zB_ne, zR_ne, zN_ne, bi_T, bi_F, nz16, ↓reduceIte, not_true_eq_false, not_false_eq_true, Bool.false_eq_true, reduceCtorEq, h47, l42, l47, a1, b1, hs2, iI_0]
          · rw [if_neg h0] at ht
            obtain ⟨υ, k1, k2, k3⟩ := hkb (z2, cl6 (v.tdiv (s (tlx w)).1), (s (tlx w)).2, M - 1) (by omega) ⟨ht, by show M - 1 ≤ N; omega, b2, c1, cl6_b _, hF2⟩
            refine ⟨υ, ?_, k2, k3⟩
            rw [← k1]
            have hnz := iI_nz c2 h0
            have hdb := tdiv_b (b := (s (tlx w)).1) hv
            have hbo := c_bounded (v := v.tdiv (s (tlx w)).1) (by have := hdb.1; omega) (by have := hdb.2; omega)
            have e1 := iI_div hv c2
            have e2 := iI_64 (v := v.tdiv (s (tlx w)).1) (by have := hdb.1; omega) (by have := hdb.2; omega)
            have hnz2 : ∀ o : Option (Int32 × St), nz (iI (s (tlx w)).1) o = o := fun o => if_neg hnz
            unfold fX1_term_J34
            simp (disch := omega) only [l0, l1, l2, l3, l4, l5, l6, l7, l8, l9, l10, l11, l12, l16, l18, l19, l20, l21, l24, l96, l128, l100, l144, l200, l256, l288, l1536, l1728, l1800, bnd, nI_add, pk_mul, pI_sub, pI_m1, pT_le, pF_le, pT_lt, pF_lt, pT_eq, pF_eq, pF_m1, mF_eq, mT_eq, mT_lt, mF_le, lm1, rd_nI, wr_nI, cl_nI, pk_us, un_ne, pk_uLs, uL_ne, zI_uI, zI_uJ, zI_uA, zI_uB, zI_uR, zI_uN, zJ_uI, zJ_uJ, zJ_uA, zJ_uB, zJ_uR, zJ_uN, zA_uI, zA_uJ, zA_uA, zA_uB, zA_uR, zA_uN, zB_uI, zB_uJ, zB_uA, zB_uB, zB_uR, zB_uN, zR_uI, zR_uJ, zR_uA, zR_uB, zR_uR, zR_uN, zN_uI, zN_uJ, zN_uA, zN_uB, zN_uR, zN_uN, zI_ne, zJ_ne, zA_ne, zB_ne, zR_ne, zN_ne, bi_T, bi_F, nz16, ↓reduceIte, not_true_eq_false, not_false_eq_true, Bool.false_eq_true, reduceCtorEq, h47, l42, l47, a1, b1, if_neg hnz, hnz2, e1, e2, hbo, hs2]
        · rw [if_neg h47] at ht
          refine ⟨z, ?_, by rw [ht]; exact hSz, hFz⟩
          rw [ht]
          simp (disch := omega) only [l0, l1, l2, l3, l4, l5, l6, l7, l8, l9, l10, l11, l12, l16, l18, l19, l20, l21, l24, l96, l128, l100, l144, l200, l256, l288, l1536, l1728, l1800, bnd, nI_add, pk_mul, pI_sub, pI_m1, pT_le, pF_le, pT_lt, pF_lt, pT_eq, pF_eq, pF_m1, mF_eq, mT_eq, mT_lt, mF_le, lm1, rd_nI, wr_nI, cl_nI, pk_us, un_ne, pk_uLs, uL_ne, zI_uI, zI_uJ, zI_uA, zI_uB, zI_uR, zI_uN, zJ_uI, zJ_uJ, zJ_uA, zJ_uB, zJ_uR, zJ_uN, zA_uI, zA_uJ, zA_uA, zA_uB, zA_uR, zA_uN, zB_uI, zB_uJ, zB_uA, zB_uB, zB_uR, zB_uN, zR_uI, zR_uJ, zR_uA, zR_uB, zR_uR, zR_uN, zN_uI, zN_uJ, zN_uA, zN_uB, zN_uR, zN_uN, zI_ne, zJ_ne, zA_ne, zB_ne, zR_ne, zN_ne, bi_T, bi_F, nz16, ↓reduceIte, not_true_eq_false, not_false_eq_true, Bool.false_eq_true, reduceCtorEq, l42, l47]
theorem c_smS {q N : Nat} {T : List Tk} {e : En} {rec : St → Int32 → Option (Int32 × St)} {p0 : Int32} {s : Sx → Int × Sx} (hr : cOK q T e N (fun y => rec y p0) s) (hg : gOK N s) : cOK q T e N (fun y => fX1_sum_B rec y p0) (smS s) := by
  have hr2 := c_tmS hr hg
  have hg2 : gOK N (tmS s) := fun N' x hN hx => tmS_g hg x N' hN hx
  intro y x N' hN hS hx hE
  obtain ⟨υ0, h1, h2, h3⟩ := hr2 y x N' hN hS hx hE
  obtain ⟨g1, g2⟩ := hg2 N' x hN hx
  have hs0 := h_sign h2 g1
  have key := it_for (β := St × Int × Sx × Nat) (body := fun (kb : (St × Int32 × Int32 × Int32) → Option (Int32 × St)) (t : St × Int32 × Int32 × Int32) => fX1_sum_L14 rec p0 (fun σ v2 v3 v4 => kb (σ, v2, v3, v4)) t.1 t.2.1 t.2.2.1 t.2.2.2) 200 (by omega) (fun i b => (b.1, iI b.2.1, nI (sg b.2.2.1), nI i)) (fun i b => smL (tmS s) 200 (tmS s x).1 (tmS s x).2 = smL (tmS s) (200 - i) b.2.1 b.2.2.1 ∧ b.2.2.2 ≤ N ∧ HS b.1 q T b.2.2.1 ∧ gX b.2.2.2 b.2.2.1 ∧ bnd6 b.2.1 ∧ HF y b.1) (fun i b z => ∃ υ, z = some (iI (smL (tmS s) 200 (tmS s x).1 (tmS s x).2).1, υ) ∧ HS υ q T (smL (tmS s) 200 (tmS s x).1 (tmS s x).2).2 ∧ HF y υ) ?_ 0 (υ0, (tmS s x).1, (tmS s x).2, N') (Nat.zero_le _) ⟨rfl, hN, h2, g1, g2, h3⟩
  · obtain ⟨υ, k1, k2, k3⟩ := key
    refine ⟨υ, ?_, k2, k3⟩
    show fX1_sum_B rec y p0 = some (iI (smS s x).1, υ)
    unfold fX1_sum_B
    have h1 : fX1_term_B rec y p0 = some (iI (tmS s x).1, υ0) := h1
    rw [h1, bnd]
    show (fX5_sign_h υ0).bind _ = _
    rw [hs0, bnd]
    exact k1
  · rintro i ⟨z, v, w, M⟩ hi ⟨jt, jN, jS, jx, jv, jF⟩ kb hkb
    have ht : smL (tmS s) 200 (tmS s x).1 (tmS s x).2 = smL (tmS s) (200 - i) v w := jt
    have hM : M ≤ N := jN
    have hSz : HS z q T w := jS
    have hw : gX M w := jx
    have hv : bnd6 v := jv
    have hFz : HF y z := jF
    clear jt jN jS jx jv jF
    have hsl := sg_lt w
    have hE2 := hE.fr hFz
    show ∃ υ, fX1_sum_L14 rec p0 (fun σ v2 v3 v4 => kb (σ, v2, v3, v4)) z (iI v) (nI (sg w)) (nI i) = _ ∧ _
    unfold fX1_sum_L14
    by_cases hi2 : i = 200
    · rw [hi2, Nat.sub_self] at ht
      refine ⟨z, ?_, by rw [ht]; exact hSz, hFz⟩
      rw [ht]
      simp (disch := omega) only [l0, l1, l2, l3, l4, l5, l6, l7, l8, l9, l10, l11, l12, l16, l18, l19, l20, l21, l24, l96, l128, l100, l144, l200, l256, l288, l1536, l1728, l1800, bnd, nI_add, pk_mul, pI_sub, pI_m1, pT_le, pF_le, pT_lt, pF_lt, pT_eq, pF_eq, pF_m1, mF_eq, mT_eq, mT_lt, mF_le, lm1, rd_nI, wr_nI, cl_nI, pk_us, un_ne, pk_uLs, uL_ne, zI_uI, zI_uJ, zI_uA, zI_uB, zI_uR, zI_uN, zJ_uI, zJ_uJ, zJ_uA, zJ_uB, zJ_uR, zJ_uN, zA_uI, zA_uJ, zA_uA, zA_uB, zA_uR, zA_uN, zB_uI, zB_uJ, zB_uA, zB_uB, zB_uR, zB_uN, zR_uI, zR_uJ, zR_uA, zR_uB, zR_uR, zR_uN, zN_uI, zN_uJ, zN_uA, zN_uB, zN_uR, zN_uN, zI_ne, zJ_ne, zA_ne, zB_ne, zR_ne, zN_ne, bi_T, bi_F, nz16, ↓reduceIte, not_true_eq_false, not_false_eq_true, Bool.false_eq_true, reduceCtorEq, hi2]
      rfl
    · rw [show 200 - i = (200 - (i + 1)) + 1 by omega] at ht
      have ht : smL (tmS s) 200 (tmS s x).1 (tmS s x).2 = if sg w = 43 then smL (tmS s) (200 - (i + 1)) (cl6 (v + (tmS s (tlx w)).1)) (tmS s (tlx w)).2 else if sg w = 45 then smL (tmS s) (200 - (i + 1)) (cl6 (v - (tmS s (tlx w)).1)) (tmS s (tlx w)).2 else (v, w) := ht
      by_cases h42 : sg w = 43
      · rw [if_pos h42] at ht
        obtain ⟨z1, a1, a2, a3⟩ := h_step hSz hw (by omega)
        have hw1 := gX_tl hw (by omega)
        obtain ⟨z2, b1, b2, b3⟩ := hr2 z1 (tlx w) (M - 1) (by omega) a2 hw1 (hE2.fr a3)
        obtain ⟨c1, c2⟩ := hg2 (M - 1) (tlx w) (by omega) hw1
        have b1 : fX1_term_B rec z1 p0 = some (iI (tmS s (tlx w)).1, z2) := b1
        have hs2 := h_sign b2 c1
        obtain ⟨υ, k1, k2, k3⟩ := hkb (z2, cl6 (v + (tmS s (tlx w)).1), (tmS s (tlx w)).2, M - 1) (by omega) ⟨ht, by show M - 1 ≤ N; omega, b2, c1, cl6_b _, (hFz.tr a3).tr b3⟩
        refine ⟨υ, ?_, k2, k3⟩
        rw [← k1]
        have d1 := hv.1
        have d2 := hv.2
        have d3 := c2.1
        have d4 := c2.2
        have hbo := c_bounded (v := v + (tmS s (tlx w)).1) (by omega) (by omega)
        have e1 := iI_add hv c2
        have e2 := iI_64 (v := v + (tmS s (tlx w)).1) (by omega) (by omega)
        simp (disch := omega) only [l0, l1, l2, l3, l4, l5, l6, l7, l8, l9, l10, l11, l12, l16, l18, l19, l20, l21, l24, l96, l128, l100, l144, l200, l256, l288, l1536, l1728, l1800, bnd, nI_add, pk_mul, pI_sub, pI_m1, pT_le, pF_le, pT_lt, pF_lt, pT_eq, pF_eq, pF_m1, mF_eq, mT_eq, mT_lt, mF_le, lm1, rd_nI, wr_nI, cl_nI, pk_us, un_ne, pk_uLs, uL_ne, zI_uI, zI_uJ, zI_uA, zI_uB, zI_uR, zI_uN, zJ_uI, zJ_uJ, zJ_uA, zJ_uB, zJ_uR, zJ_uN, zA_uI, zA_uJ, zA_uA, zA_uB, zA_uR, zA_uN, zB_uI, zB_uJ, zB_uA, zB_uB, zB_uR, zB_uN, zR_uI, zR_uJ, zR_uA, zR_uB, zR_uR, zR_uN, zN_uI, zN_uJ, zN_uA, zN_uB, zN_uR, zN_uN, zI_ne, zJ_ne, zA_ne, zB_ne, zR_ne, zN_ne, bi_T, bi_F, nz16, ↓reduceIte, not_true_eq_false, not_false_eq_true, Bool.false_eq_true, reduceCtorEq, h42, l43, a1, b1, e1, e2, hbo, hs2]
      · rw [if_neg h42] at ht
        by_cases h47 : sg w = 45
        · rw [if_pos h47] at ht
          obtain ⟨z1, a1, a2, a3⟩ := h_step hSz hw (by omega)
          have hw1 := gX_tl hw (by omega)
          obtain ⟨z2, b1, b2, b3⟩ := hr2 z1 (tlx w) (M - 1) (by omega) a2 hw1 (hE2.fr a3)
          obtain ⟨c1, c2⟩ := hg2 (M - 1) (tlx w) (by omega) hw1
          have b1 : fX1_term_B rec z1 p0 = some (iI (tmS s (tlx w)).1, z2) := b1
          have hs2 := h_sign b2 c1
          obtain ⟨υ, k1, k2, k3⟩ := hkb (z2, cl6 (v - (tmS s (tlx w)).1), (tmS s (tlx w)).2, M - 1) (by omega) ⟨ht, by show M - 1 ≤ N; omega, b2, c1, cl6_b _, (hFz.tr a3).tr b3⟩
          refine ⟨υ, ?_, k2, k3⟩
          rw [← k1]
          have d1 := hv.1
          have d2 := hv.2
          have d3 := c2.1
          have d4 := c2.2
          have hbo := c_bounded (v := v - (tmS s (tlx w)).1) (by omega) (by omega)
          have e1 := iI_sub hv c2
          have e2 := iI_64 (v := v - (tmS s (tlx w)).1) (by omega) (by omega)
          simp (disch := omega) only [l0, l1, l2, l3, l4, l5, l6, l7, l8, l9, l10, l11, l12, l16, l18, l19, l20, l21, l24, l96, l128, l100, l144, l200, l256, l288, l1536, l1728, l1800, bnd, nI_add, pk_mul, pI_sub, pI_m1, pT_le, pF_le, pT_lt, pF_lt, pT_eq, pF_eq, pF_m1, mF_eq, mT_eq, mT_lt, mF_le, lm1, rd_nI, wr_nI, cl_nI, pk_us, un_ne, pk_uLs, uL_ne, zI_uI, zI_uJ, zI_uA, zI_uB, zI_uR, zI_uN, zJ_uI, zJ_uJ, zJ_uA, zJ_uB, zJ_uR, zJ_uN, zA_uI, zA_uJ, zA_uA, zA_uB, zA_uR, zA_uN, zB_uI, zB_uJ, zB_uA, zB_uB, zB_uR, zB_uN, zR_uI, zR_uJ, zR_uA, zR_uB, zR_uR, zR_uN, zN_uI, zN_uJ, zN_uA, zN_uB, zN_uR, zN_uN, zI_ne, zJ_ne, zA_ne, zB_ne, zR_ne, zN_ne, bi_T, bi_F, nz16, ↓reduceIte, not_true_eq_false, not_false_eq_true, Bool.false_eq_true, reduceCtorEq, h47, l43, l45, a1, b1, e1, e2, hbo, hs2]
        · rw [if_neg h47] at ht
          refine ⟨z, ?_, by rw [ht]; exact hSz, hFz⟩
          rw [ht]
          simp (disch := omega) only [l0, l1, l2, l3, l4, l5, l6, l7, l8, l9, l10, l11, l12, l16, l18, l19, l20, l21, l24, l96, l128, l100, l144, l200, l256, l288, l1536, l1728, l1800, bnd, nI_add, pk_mul, pI_sub, pI_m1, pT_le, pF_le, pT_lt, pF_lt, pT_eq, pF_eq, pF_m1, mF_eq, mT_eq, mT_lt, mF_le, lm1, rd_nI, wr_nI, cl_nI, pk_us, un_ne, pk_uLs, uL_ne, zI_uI, zI_uJ, zI_uA, zI_uB, zI_uR, zI_uN, zJ_uI, zJ_uJ, zJ_uA, zJ_uB, zJ_uR, zJ_uN, zA_uI, zA_uJ, zA_uA, zA_uB, zA_uR, zA_uN, zB_uI, zB_uJ, zB_uA, zB_uB, zB_uR, zB_uN, zR_uI, zR_uJ, zR_uA, zR_uB, zR_uR, zR_uN, zN_uI, zN_uJ, zN_uA, zN_uB, zN_uR, zN_uN, zI_ne, zJ_ne, zA_ne, zB_ne, zR_ne, zN_ne, bi_T, bi_F, nz16, ↓reduceIte, not_true_eq_false, not_false_eq_true, Bool.false_eq_true, reduceCtorEq, l43, l45]
theorem c_atom {q N : Nat} {T : List Tk} {e : En} : ∀ (k dp : Nat), 7 ≤ k + dp → dp ≤ 6 → cOK q T e N (fun y => fX1_atom k y (nI dp)) (atS e k dp)
  | 0, dp, h1, h2 => by omega
  | k + 1, dp, h1, h2 => by
    intro y x N' hN hS hx hE
    have hs := h_sign hS hx
    have hsl := sg_lt x
    have heb := hE.eb
    show ∃ υ, fX1_atom_B (fX1_atom k) y (nI dp) = some (iI (atB (fun dp x => smS (atS e k dp) x) e dp x).1, υ) ∧ HS υ q T (atB (fun dp x => smS (atS e k dp) x) e dp x).2 ∧ HF y υ
    unfold atB fX1_atom_B
    by_cases c1 : sg x = 91 ∧ dp < 6
    · rw [if_pos c1]
      have hx1 := gX_tl hx (by omega)
      obtain ⟨y1, a1, a2, a3⟩ := h_step hS hx (by omega)
      have hgk : gOK N (atS e k (dp + 1)) := fun N'' x _ hx => atS_g heb k (dp + 1) x N'' hx
      obtain ⟨y2, b1, b2, b3⟩ := c_smS (p0 := nI (dp + 1)) (c_atom (q := q) (N := N) (T := T) (e := e) k (dp + 1) (by omega) (by omega)) hgk y1 (tlx x) (N' - 1) (by omega) a2 hx1 (hE.fr a3)
      have b1 : fX1_sum_B (fX1_atom k) y1 (nI (dp + 1)) = some (iI (smS (atS e k (dp + 1)) (tlx x)).1, y2) := b1
      have hg2 := smS_g hgk (tlx x) (N' - 1) (by omega) hx1
      obtain ⟨y3, d1, d2, d3⟩ := h_needs (v := 93) b2 hg2.1 (by decide)
      refine ⟨y3, ?_, d2, (a3.tr b3).tr d3⟩
      simp (disch := omega) only [l0, l1, l2, l3, l4, l5, l6, l7, l8, l9, l10, l11, l12, l16, l18, l19, l20, l21, l24, l96, l128, l100, l144, l200, l256, l288, l1536, l1728, l1800, bnd, nI_add, pk_mul, pI_sub, pI_m1, pT_le, pF_le, pT_lt, pF_lt, pT_eq, pF_eq, pF_m1, mF_eq, mT_eq, mT_lt, mF_le, lm1, rd_nI, wr_nI, cl_nI, pk_us, un_ne, pk_uLs, uL_ne, zI_uI, zI_uJ, zI_uA, zI_uB, zI_uR, zI_uN, zJ_uI, zJ_uJ, zJ_uA, zJ_uB, zJ_uR, zJ_uN, zA_uI, zA_uJ, zA_uA, zA_uB, zA_uR, zA_uN, zB_uI, zB_uJ, zB_uA, zB_uB, zB_uR, zB_uN, zR_uI, zR_uJ, zR_uA, zR_uB, zR_uR, zR_uN, zN_uI, zN_uJ, zN_uA, zN_uB, zN_uR, zN_uN, zI_ne, zJ_ne, zA_ne, zB_ne, zR_ne, zN_ne, bi_T, bi_F, nz16, ↓reduceIte, not_true_eq_false, not_false_eq_true, Bool.false_eq_true, reduceCtorEq, hs, c1.1, l91, a1, b1, l93, d1]
    · rw [if_neg c1]
      -- no bracket that may open
      have nobr : ∀ (A B : Option (Int32 × St)), (if nI (sg x) = nI 91 then (if nI 6 ≤ nI dp then A else B) else A) = A := by
        intro A B
        by_cases h91 : sg x = 91
        · rw [if_pos (by rw [h91]), if_pos (by rw [pT_le (by omega) (by omega)]; trivial)]
        · rw [if_neg (fun h => h91 ((nI_eq (by omega) (by omega)).mp h))]
      by_cases c2 : sg x = 1000
      · rw [if_pos c2]
        obtain ⟨y1, a1, a2, a3⟩ := h_step hS hx (by omega)
        have hv := h_value hS hx c2
        have hb := vl_b hx
        have e32 := iL_32 (v := vl x) (by have := hb.1; omega) (by have := hb.2; omega)
        have hne : ¬ iI (vl x) = mI := by
          have h0 : 0 ≤ vl x := by
            cases x with
            | inl p => exact Int.le_refl 0
            | inr R => show 0 ≤ (((hd R).1 - 1000 : Nat) : Int); omega
          intro hh
          have := (iI_inj hb (b := -1) (by constructor <;> decide)).mp (hh.trans iI_m1.symm)
          omega
        refine ⟨y1, ?_, a2, a3⟩
        rw [hs, bnd, l91, l6, nobr]
        simp (disch := omega) only [l0, l1, l2, l3, l4, l5, l6, l7, l8, l9, l10, l11, l12, l16, l18, l19, l20, l21, l24, l96, l128, l100, l144, l200, l256, l288, l1536, l1728, l1800, bnd, nI_add, pk_mul, pI_sub, pI_m1, pT_le, pF_le, pT_lt, pF_lt, pT_eq, pF_eq, pF_m1, mF_eq, mT_eq, mT_lt, mF_le, lm1, rd_nI, wr_nI, cl_nI, pk_us, un_ne, pk_uLs, uL_ne, zI_uI, zI_uJ, zI_uA, zI_uB, zI_uR, zI_uN, zJ_uI, zJ_uJ, zJ_uA, zJ_uB, zJ_uR, zJ_uN, zA_uI, zA_uJ, zA_uA, zA_uB, zA_uR, zA_uN, zB_uI, zB_uJ, zB_uA, zB_uB, zB_uR, zB_uN, zR_uI, zR_uJ, zR_uA, zR_uB, zR_uR, zR_uN, zN_uI, zN_uJ, zN_uA, zN_uB, zN_uR, zN_uN, zI_ne, zJ_ne, zA_ne, zB_ne, zR_ne, zN_ne, bi_T, bi_F, nz16, ↓reduceIte, not_true_eq_false, not_false_eq_true, Bool.false_eq_true, reduceCtorEq, c2, l1000, hv, e32, mI_eq, if_neg hne, a1]
      · rw [if_neg c2]
        have hlv := c_letterValue hE hsl
        cases hev : e (sg x) with
        | some v =>
          rw [hev] at hlv
          have hev2 := heb.2 _ _ hev
          have hne : ¬ iI v = mI := by
            have h0 : 0 ≤ v := by
              obtain ⟨n', v', f', l', w', _, _, _, _, _, _, _, _, _, _, rfl⟩ := hE
              unfold evS at hev
              split at hev
              · cases hev; omega
              · split at hev
                · cases hev; omega
                · split at hev
                  · cases hev; omega
                  · split at hev
                    · cases hev; omega
                    · split at hev
                      · cases hev; omega
                      · cases hev
            intro hh
            have := (iI_inj hev2.1 (b := -1) (by constructor <;> decide)).mp (hh.trans iI_m1.symm)
            omega
          obtain ⟨y1, a1, a2, a3⟩ := h_step hS hx (by omega)
          refine ⟨y1, ?_, a2, a3⟩
          rw [hs, bnd, l91, l6, nobr]
          simp (disch := omega) only [l0, l1, l2, l3, l4, l5, l6, l7, l8, l9, l10, l11, l12, l16, l18, l19, l20, l21, l24, l96, l128, l100, l144, l200, l256, l288, l1536, l1728, l1800, bnd, nI_add, pk_mul, pI_sub, pI_m1, pT_le, pF_le, pT_lt, pF_lt, pT_eq, pF_eq, pF_m1, mF_eq, mT_eq, mT_lt, mF_le, lm1, rd_nI, wr_nI, cl_nI, pk_us, un_ne, pk_uLs, uL_ne, zI_uI, zI_uJ, zI_uA, zI_uB, zI_uR, zI_uN, zJ_uI, zJ_uJ, zJ_uA, zJ_uB, zJ_uR, zJ_uN, zA_uI, zA_uJ, zA_uA, zA_uB, zA_uR, zA_uN, zB_uI, zB_uJ, zB_uA, zB_uB, zB_uR, zB_uN, zR_uI, zR_uJ, zR_uA, zR_uB, zR_uR, zR_uN, zN_uI, zN_uJ, zN_uA, zN_uB, zN_uR, zN_uN, zI_ne, zJ_ne, zA_ne, zB_ne, zR_ne, zN_ne, bi_T, bi_F, nz16, ↓reduceIte, not_true_eq_false, not_false_eq_true, Bool.false_eq_true, reduceCtorEq, l1000, hlv, mI_eq, if_neg hne, a1]
        | none =>
          rw [hev] at hlv
          obtain ⟨y1, a1, a2, a3⟩ := h_spoil hS hx
          refine ⟨y1, ?_, a2, a3⟩
          rw [hs, bnd, l91, l6, nobr]
          simp (disch := omega) only [l0, l1, l2, l3, l4, l5, l6, l7, l8, l9, l10, l11, l12, l16, l18, l19, l20, l21, l24, l96, l128, l100, l144, l200, l256, l288, l1536, l1728, l1800, bnd, nI_add, pk_mul, pI_sub, pI_m1, pT_le, pF_le, pT_lt, pF_lt, pT_eq, pF_eq, pF_m1, mF_eq, mT_eq, mT_lt, mF_le, lm1, rd_nI, wr_nI, cl_nI, pk_us, un_ne, pk_uLs, uL_ne, zI_uI, zI_uJ, zI_uA, zI_uB, zI_uR, zI_uN, zJ_uI, zJ_uJ, zJ_uA, zJ_uB, zJ_uR, zJ_uN, zA_uI, zA_uJ, zA_uA, zA_uB, zA_uR, zA_uN, zB_uI, zB_uJ, zB_uA, zB_uB, zB_uR, zB_uN, zR_uI, zR_uJ, zR_uA, zR_uB, zR_uR, zR_uN, zN_uI, zN_uJ, zN_uA, zN_uB, zN_uR, zN_uN, zI_ne, zJ_ne, zA_ne, zB_ne, zR_ne, zN_ne, bi_T, bi_F, nz16, ↓reduceIte, not_true_eq_false, not_false_eq_true, Bool.false_eq_true, reduceCtorEq, l1000, hlv, mI_eq, a1, iI_0]
