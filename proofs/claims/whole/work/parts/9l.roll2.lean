/-! the class takes a roll *-/
theorem pW_len : ∀ (m : Nat) (R : List Tk), (pW m R).1.length ≤ m
  | 0, _ => Nat.le_refl _
  | _ + 1, [] => Nat.zero_le _
  | m + 1, t :: R => by
    show (if 1000 ≤ t.1 then _ else _ : List Nat × List Tk).1.length ≤ m + 1
    split
    · show (pW m R).1.length + 1 ≤ m + 1
      have := pW_len m R
      omega
    · exact Nat.zero_le _
theorem wd_len (m : Nat) (x : Sx) : (wd m x).1.length ≤ m := by
  cases x with
  | inl p => exact Nat.zero_le _
  | inr R =>
    show (if (pW m R).1 = [] then _ else _ : List Nat × Sx).1.length ≤ m
    split
    · exact Nat.zero_le _
    · exact pW_len m R
def pIc (x : Sx) : List Nat × Sx := if tb 45 x = true then ([], tlx x) else wd 2 x
def pIw (x : Sx) : List Nat × Sx := wd 12 (nd 62 (pIc x).2)
def pItems : Nat → Sx → List (List Nat × List Nat) × Sx
  | 0, x => ([], x)
  | n + 1, x => if 0 < n ∧ tb 59 (pIw x).2 = true then (((pIc x).1, (pIw x).1) :: (pItems n (tlx (pIw x).2)).1, (pItems n (tlx (pIw x).2)).2) else ([((pIc x).1, (pIw x).1)], (pIw x).2)
theorem s_takeWords_15 {τ : St} {T : List Tk} {x : Sx} {f m : Nat} (h : Sr τ T x) (hf : f + m ≤ 24) (hm : 0 < m) : ∃ υ, FR [] [15] [3, 4] [] τ υ ∧ (∀ k, k < f → zB υ 15 k = zB τ 15 k) ∧ (∀ k, k < (wd m x).1.length → zB υ 15 (f + k) = lN ((wd m x).1.getD k 0)) ∧ fX6_takeWords_15 τ (nI f) (nI m) = some (nI (wd m x).1.length, υ) ∧ Sr υ T (wd m x).2 := by
  cases x with
  | inl p => exact ⟨τ, FR.rf _ _ _ _ _, fun k _ => rfl, fun k hk => absurd hk (Nat.not_lt_zero _), c_takeWordsF_15 h hf hm, h⟩
  | inr R =>
    obtain ⟨υ, h1, h2, h3, h4, h5⟩ := c_takeWords_15 h.1 h.2 hf hm
    rcases h5 with ⟨e, h5⟩ | ⟨e, h5⟩
    · have ew : wd m (.inr R) = ([], .inl (hd R).2) := if_pos e
      rw [ew]
      rw [e] at h4
      exact ⟨υ, h1, h2, fun k hk => absurd hk (Nat.not_lt_zero _), h4, h5⟩
    · have ew : wd m (.inr R) = ((pW m R).1, .inr (pW m R).2) := if_neg e
      rw [ew]
      exact ⟨υ, h1, h2, h3, h4, h5⟩
theorem s_takeWords_17 {τ : St} {T : List Tk} {x : Sx} {f m : Nat} (h : Sr τ T x) (hf : f + m ≤ 144) (hm : 0 < m) : ∃ υ, FR [] [17] [3, 4] [] τ υ ∧ (∀ k, k < f → zB υ 17 k = zB τ 17 k) ∧ (∀ k, k < (wd m x).1.length → zB υ 17 (f + k) = lN ((wd m x).1.getD k 0)) ∧ fX6_takeWords_17 τ (nI f) (nI m) = some (nI (wd m x).1.length, υ) ∧ Sr υ T (wd m x).2 := by
  cases x with
  | inl p => exact ⟨τ, FR.rf _ _ _ _ _, fun k _ => rfl, fun k hk => absurd hk (Nat.not_lt_zero _), c_takeWordsF_17 h hf hm, h⟩
  | inr R =>
    obtain ⟨υ, h1, h2, h3, h4, h5⟩ := c_takeWords_17 h.1 h.2 hf hm
    rcases h5 with ⟨e, h5⟩ | ⟨e, h5⟩
    · have ew : wd m (.inr R) = ([], .inl (hd R).2) := if_pos e
      rw [ew]
      rw [e] at h4
      exact ⟨υ, h1, h2, fun k hk => absurd hk (Nat.not_lt_zero _), h4, h5⟩
    · have ew : wd m (.inr R) = ((pW m R).1, .inr (pW m R).2) := if_neg e
      rw [ew]
      exact ⟨υ, h1, h2, h3, h4, h5⟩
theorem l62 : (62 : Int32) = nI 62 := nrfl rfl
theorem l59 : (59 : Int32) = nI 59 := nrfl rfl
theorem l45 : (45 : Int32) = nI 45 := nrfl rfl
def ITM (y : St) (l : List (List Nat × List Nat)) : Prop := ∀ k, k < l.length → zA y 14 k = nI (l.getD k ([], [])).1.length ∧ zA y 16 k = nI (l.getD k ([], [])).2.length ∧ (∀ j, j < (l.getD k ([], [])).1.length → zB y 15 (2 * k + j) = lN ((l.getD k ([], [])).1.getD j 0)) ∧ ∀ j, j < (l.getD k ([], [])).2.length → zB y 17 (12 * k + j) = lN ((l.getD k ([], [])).2.getD j 0)
def IL (l : List (List Nat × List Nat)) : Prop := ∀ e, e ∈ l → e.1.length ≤ 2 ∧ e.2.length ≤ 12
theorem c_takeItem {τ : St} {T : List Tk} {x : Sx} {i : Nat} {l : List (List Nat × List Nat)} (kb : St → Int32 → Int32 → Option St) (h : Sr τ T x) (hi : i < 12) (hl : l.length = i) (hL : IL l) (hI : ITM τ l) (h5 : zI τ 5 = nI i) : ∃ υ, FR [14, 16] [15, 17] [3, 4, 5] [] τ υ ∧ ITM υ (l ++ [((pIc x).1, (pIw x).1)]) ∧ zI υ 5 = nI (i + 1) ∧ Sr υ T (if i + 1 < 12 ∧ tb 59 (pIw x).2 = true then tlx (pIw x).2 else (pIw x).2) ∧ fX6_takeAll_L9 kb τ (nI 1) (nI i) = kb υ (if i + 1 < 12 ∧ tb 59 (pIw x).2 = true then nI 1 else nI 0) (nI (i + 1)) := by
  -- behind the cue
  have beh : ∀ (τ1 : St), FR [] [15] [3, 4] [] τ τ1 → Sr τ1 T (pIc x).2 → (∀ k, k < 2 * i → zB τ1 15 k = zB τ 15 k) → (∀ k, k < (pIc x).1.length → zB τ1 15 (2 * i + k) = lN ((pIc x).1.getD k 0)) → ∃ υ, FR [14, 16] [15, 17] [3, 4, 5] [] τ υ ∧ ITM υ (l ++ [((pIc x).1, (pIw x).1)]) ∧ zI υ 5 = nI (i + 1) ∧ Sr υ T (if i + 1 < 12 ∧ tb 59 (pIw x).2 = true then tlx (pIw x).2 else (pIw x).2) ∧ fX6_takeAll_J49 kb τ1 (nI i) (nI (pIc x).1.length) (nI i) = kb υ (if i + 1 < 12 ∧ tb 59 (pIw x).2 = true then nI 1 else nI 0) (nI (i + 1)) := by
    intro τ1 hF1 hS1 hb1 hb2
    have hS2 : Sr (uA τ1 14 (upd (zA τ1 14) i (nI (pIc x).1.length))) T (pIc x).2 := hS1.fr (FR.uA (FR.rf [14] [] [] [] _) (by decide)) (by decide) (by decide) (by decide)
    obtain ⟨τ3, h1, h2, h3⟩ := s_needs_r (v := 62) hS2 (by decide)
    obtain ⟨τ4, h4, h6, h7, h8, h9⟩ := s_takeWords_17 (f := 12 * i) (m := 12) h2 (by omega) (by decide)
    have hw : wd 12 (nd 62 (pIc x).2) = pIw x := rfl
    rw [hw] at h7 h8 h9
    have hwl : (pIw x).1.length ≤ 12 := wd_len 12 _
    have hF4 : FR [14, 16] [15, 17] [3, 4, 5] [] τ τ4 := ((FR.uA (hF1.mono (by decide) (by decide) (by decide) (by decide)) (by decide)).tr (h3.mono (by decide) (by decide) (by decide) (by decide))).tr (h4.mono (by decide) (by decide) (by decide) (by decide))
    have hz5 : zI τ4 5 = nI i := by
      rw [h4.2.2.1 5 (by decide), h3.2.2.1 5 (by decide), zI_uA, hF1.2.2.1 5 (by decide)]
      exact h5
    obtain ⟨τ5, hτ5⟩ : ∃ τ5, τ5 = uI (uA τ4 16 (upd (zA τ4 16) i (nI (pIw x).1.length))) 5 (nI (i + 1)) := ⟨_, rfl⟩
    have hF5 : FR [16] [] [5] [] τ4 τ5 := by
      rw [hτ5]
      exact FR.uI (FR.uA (FR.rf _ _ _ _ _) (by decide)) (by decide)
    have hS5 : Sr τ5 T (pIw x).2 := h9.fr hF5 (by decide) (by decide) (by decide)
    have e14 : zA τ5 14 = upd (zA τ1 14) i (nI (pIc x).1.length) := by
      rw [hF5.1 14 (by decide), h4.1 14 (by decide), h3.1 14 (by decide), zA_uA]
    have e16 : zA τ5 16 = upd (zA τ 16) i (nI (pIw x).1.length) := by
      rw [hτ5, zA_uI, zA_uA, h4.1 16 (by decide), h3.1 16 (by decide), zA_ne (by decide), hF1.1 16 (by decide)]
    have e15 : zB τ5 15 = zB τ1 15 := by
      rw [hF5.2.1 15 (by decide), h4.2.1 15 (by decide), h3.2.1 15 (by decide), zB_uA]
    have e17 : zB τ5 17 = zB τ4 17 := hF5.2.1 17 (by decide)
    have e17b : ∀ k, k < 12 * i → zB τ4 17 k = zB τ 17 k := fun k hk => by
      rw [h6 k hk, h3.2.1 17 (by decide), zB_uA, hF1.2.1 17 (by decide)]
    have e14b : zA τ1 14 = zA τ 14 := hF1.1 14 (by decide)
    have hI5 : ITM τ5 (l ++ [((pIc x).1, (pIw x).1)]) := by
      intro k hk
      rw [List.length_append, List.length_singleton, hl] at hk
      rw [e14, e16, e15, e17]
      by_cases e : k = i
      · have eg : (l ++ [((pIc x).1, (pIw x).1)]).getD k ([], []) = ((pIc x).1, (pIw x).1) := by rw [e, ← hl, getD_snoc_eq']
        rw [eg, e, pk_us, pk_us]
        exact ⟨rfl, rfl, hb2, h7⟩
      · have eg : (l ++ [((pIc x).1, (pIw x).1)]).getD k ([], []) = l.getD k ([], []) := getD_snoc_lt' (by omega)
        have hLk := hL (l.getD k ([], [])) (getD_mem (by omega))
        obtain ⟨h10, h11, h12, h13⟩ := hI k (by omega)
        rw [eg, un_ne e, un_ne e, e14b]
        refine ⟨h10, h11, fun j hj => ?_, fun j hj => ?_⟩
        · rw [hb1 _ (by omega)]
          exact h12 j hj
        · rw [e17b _ (by omega)]
          exact h13 j hj
    have hz : zI τ5 5 = nI (i + 1) := by rw [hτ5, zI_uI]
    unfold fX6_takeAll_J49
    by_cases hie : i + 1 < 12
    · obtain ⟨τ6, h14, h15, h16⟩ := s_takes_r (v := 59) hS5 (by decide)
      have hI6 : ITM τ6 (l ++ [((pIc x).1, (pIw x).1)]) := by
        unfold ITM
        rw [h16.1 14 (by decide), h16.1 16 (by decide), h16.2.1 15 (by decide), h16.2.1 17 (by decide)]
        exact hI5
      refine ⟨τ6, (hF4.tr (hF5.mono (by decide) (by decide) (by decide) (by decide))).tr (h16.mono (by decide) (by decide) (by decide) (by decide)), hI6, (h16.2.2.1 5 (by decide)).trans hz, ?_, ?_⟩
      · by_cases hb : tb 59 (pIw x).2 = true
        · rw [if_pos hb] at h15
          rw [if_pos ⟨hie, hb⟩]
          exact h15
        · rw [if_neg hb] at h15
          rw [if_neg (fun h => hb h.2)]
          exact h15
      · rw [hτ5] at h14
        cases hb : tb 59 (pIw x).2 with
        | true =>
          rw [hb] at h14
          rw [if_pos (⟨hie, rfl⟩ : i + 1 < 12 ∧ true = true)]
          simp (disch := omega) only [l0, l1, l2, l3, l4, l5, l6, l7, l8, l9, l10, l11, l12, l16, l18, l19, l20, l21, l24, l96, l128, l100, l144, l200, l256, l288, l1536, l1728, l1800, bnd, nI_add, pk_mul, pI_sub, pI_m1, pT_le, pF_le, pT_lt, pF_lt, pT_eq, pF_eq, pF_m1, mF_eq, mT_eq, mT_lt, mF_le, lm1, rd_nI, wr_nI, cl_nI, pk_us, un_ne, pk_uLs, uL_ne, zI_uI, zI_uJ, zI_uA, zI_uB, zI_uR, zI_uN, zJ_uI, zJ_uJ, zJ_uA, zJ_uB, zJ_uR, zJ_uN, zA_uI, zA_uJ, zA_uA, zA_uB, zA_uR, zA_uN, zB_uI, zB_uJ, zB_uA, zB_uB, zB_uR, zB_uN, zR_uI, zR_uJ, zR_uA, zR_uB, zR_uR, zR_uN, zN_uI, zN_uJ, zN_uA, zN_uB, zN_uR, zN_uN, zI_ne, zJ_ne, zA_ne, zB_ne, zR_ne, zN_ne, bi_T, bi_F, nz16, ↓reduceIte, not_true_eq_false, not_false_eq_true, Bool.false_eq_true, reduceCtorEq, l62, l59, h1, h8, hz5, h14]
        | false =>
          rw [hb] at h14
          rw [if_neg (show ¬ (i + 1 < 12 ∧ false = true) from fun h => by cases h.2)]
          simp (disch := omega) only [l0, l1, l2, l3, l4, l5, l6, l7, l8, l9, l10, l11, l12, l16, l18, l19, l20, l21, l24, l96, l128, l100, l144, l200, l256, l288, l1536, l1728, l1800, bnd, nI_add, pk_mul, pI_sub, pI_m1, pT_le, pF_le, pT_lt, pF_lt, pT_eq, pF_eq, pF_m1, mF_eq, mT_eq, mT_lt, mF_le, lm1, rd_nI, wr_nI, cl_nI, pk_us, un_ne, pk_uLs, uL_ne, zI_uI, zI_uJ, zI_uA, zI_uB, zI_uR, zI_uN, zJ_uI, zJ_uJ, zJ_uA, zJ_uB, zJ_uR, zJ_uN, zA_uI, zA_uJ, zA_uA, zA_uB, zA_uR, zA_uN, zB_uI, zB_uJ, zB_uA, zB_uB, zB_uR, zB_uN, zR_uI, zR_uJ, zR_uA, zR_uB, zR_uR, zR_uN, zN_uI, zN_uJ, zN_uA, zN_uB, zN_uR, zN_uN, zI_ne, zJ_ne, zA_ne, zB_ne, zR_ne, zN_ne, bi_T, bi_F, nz16, ↓reduceIte, not_true_eq_false, not_false_eq_true, Bool.false_eq_true, reduceCtorEq, l62, l59, h1, h8, hz5, h14]
    · refine ⟨τ5, hF4.tr (hF5.mono (by decide) (by decide) (by decide) (by decide)), hI5, hz, ?_, ?_⟩
      · rw [if_neg (fun h => hie h.1)]
        exact hS5
      · rw [if_neg (show ¬ (i + 1 < 12 ∧ tb 59 (pIw x).2 = true) from fun h => hie h.1), hτ5]
        simp (disch := omega) only [l0, l1, l2, l3, l4, l5, l6, l7, l8, l9, l10, l11, l12, l16, l18, l19, l20, l21, l24, l96, l128, l100, l144, l200, l256, l288, l1536, l1728, l1800, bnd, nI_add, pk_mul, pI_sub, pI_m1, pT_le, pF_le, pT_lt, pF_lt, pT_eq, pF_eq, pF_m1, mF_eq, mT_eq, mT_lt, mF_le, lm1, rd_nI, wr_nI, cl_nI, pk_us, un_ne, pk_uLs, uL_ne, zI_uI, zI_uJ, zI_uA, zI_uB, zI_uR, zI_uN, zJ_uI, zJ_uJ, zJ_uA, zJ_uB, zJ_uR, zJ_uN, zA_uI, zA_uJ, zA_uA, zA_uB, zA_uR, zA_uN, zB_uI, zB_uJ, zB_uA, zB_uB, zB_uR, zB_uN, zR_uI, zR_uJ, zR_uA, zR_uB, zR_uR, zR_uN, zN_uI, zN_uJ, zN_uA, zN_uB, zN_uR, zN_uN, zI_ne, zJ_ne, zA_ne, zB_ne, zR_ne, zN_ne, bi_T, bi_F, nz16, ↓reduceIte, not_true_eq_false, not_false_eq_true, Bool.false_eq_true, reduceCtorEq, l62, l59, h1, h8, hz5]
  unfold fX6_takeAll_L9
  obtain ⟨τ1, h1, h2, h3⟩ := s_takes_r (v := 45) h (by decide)
  cases hb : tb 45 x with
  | true =>
    have ec : pIc x = ([], tlx x) := if_pos hb
    rw [hb] at h1
    rw [if_pos hb] at h2
    rw [ec] at beh
    obtain ⟨υ, h4, h6, h7, h8, h9⟩ := beh τ1 (h3.mono (by decide) (by decide) (by decide) (by decide)) h2 (fun k _ => by rw [h3.2.1 15 (by decide)]) (fun k hk => absurd hk (Nat.not_lt_zero _))
    have h9 : fX6_takeAll_J49 kb τ1 (nI i) (nI 0) (nI i) = _ := h9
    rw [ec]
    refine ⟨υ, h4, h6, h7, h8, ?_⟩
    rw [← h9]
    simp (disch := omega) only [l0, l1, l2, l3, l4, l5, l6, l7, l8, l9, l10, l11, l12, l16, l18, l19, l20, l21, l24, l96, l128, l100, l144, l200, l256, l288, l1536, l1728, l1800, bnd, nI_add, pk_mul, pI_sub, pI_m1, pT_le, pF_le, pT_lt, pF_lt, pT_eq, pF_eq, pF_m1, mF_eq, mT_eq, mT_lt, mF_le, lm1, rd_nI, wr_nI, cl_nI, pk_us, un_ne, pk_uLs, uL_ne, zI_uI, zI_uJ, zI_uA, zI_uB, zI_uR, zI_uN, zJ_uI, zJ_uJ, zJ_uA, zJ_uB, zJ_uR, zJ_uN, zA_uI, zA_uJ, zA_uA, zA_uB, zA_uR, zA_uN, zB_uI, zB_uJ, zB_uA, zB_uB, zB_uR, zB_uN, zR_uI, zR_uJ, zR_uA, zR_uB, zR_uR, zR_uN, zN_uI, zN_uJ, zN_uA, zN_uB, zN_uR, zN_uN, zI_ne, zJ_ne, zA_ne, zB_ne, zR_ne, zN_ne, bi_T, bi_F, nz16, ↓reduceIte, not_true_eq_false, not_false_eq_true, Bool.false_eq_true, reduceCtorEq, l45, h1]
  | false =>
    have ec : pIc x = wd 2 x := if_neg (by rw [hb]; decide)
    rw [hb] at h1
    rw [if_neg (show ¬ tb 45 x = true by rw [hb]; decide)] at h2
    obtain ⟨τ2, h4, h6, h7, h8, h9⟩ := s_takeWords_15 (f := 2 * i) (m := 2) h2 (by omega) (by decide)
    rw [ec] at beh
    obtain ⟨υ, h10, h11, h12, h13, h14⟩ := beh τ2 ((h3.mono (by decide) (by decide) (by decide) (by decide)).tr (h4.mono (by decide) (by decide) (by decide) (by decide))) h9 (fun k hk => by rw [h6 k hk, h3.2.1 15 (by decide)]) h7
    rw [ec]
    refine ⟨υ, h10, h11, h12, h13, ?_⟩
    rw [← h14]
    simp (disch := omega) only [l0, l1, l2, l3, l4, l5, l6, l7, l8, l9, l10, l11, l12, l16, l18, l19, l20, l21, l24, l96, l128, l100, l144, l200, l256, l288, l1536, l1728, l1800, bnd, nI_add, pk_mul, pI_sub, pI_m1, pT_le, pF_le, pT_lt, pF_lt, pT_eq, pF_eq, pF_m1, mF_eq, mT_eq, mT_lt, mF_le, lm1, rd_nI, wr_nI, cl_nI, pk_us, un_ne, pk_uLs, uL_ne, zI_uI, zI_uJ, zI_uA, zI_uB, zI_uR, zI_uN, zJ_uI, zJ_uJ, zJ_uA, zJ_uB, zJ_uR, zJ_uN, zA_uI, zA_uJ, zA_uA, zA_uB, zA_uR, zA_uN, zB_uI, zB_uJ, zB_uA, zB_uB, zB_uR, zB_uN, zR_uI, zR_uJ, zR_uA, zR_uB, zR_uR, zR_uN, zN_uI, zN_uJ, zN_uA, zN_uB, zN_uR, zN_uN, zI_ne, zJ_ne, zA_ne, zB_ne, zR_ne, zN_ne, bi_T, bi_F, nz16, ↓reduceIte, not_true_eq_false, not_false_eq_true, Bool.false_eq_true, reduceCtorEq, l45, h1, h8]
theorem IL_snoc {l : List (List Nat × List Nat)} {x : Sx} (h : IL l) : IL (l ++ [((pIc x).1, (pIw x).1)]) := by
  intro e he
  rw [List.mem_append, List.mem_singleton] at he
  rcases he with he | he
  · exact h e he
  · rw [he]
    refine ⟨?_, wd_len 12 _⟩
    show (pIc x).1.length ≤ 2
    unfold pIc
    split
    · exact Nat.zero_le _
    · exact wd_len 2 _
theorem c_takeAll_r {τ : St} {T : List Tk} {x : Sx} (h : Sr τ T x) : ∃ υ, FR [14, 16] [15, 17] [3, 4, 5] [] τ υ ∧ ITM υ (pItems 12 x).1 ∧ zI υ 5 = nI (pItems 12 x).1.length ∧ Sr υ T (pItems 12 x).2 ∧ fX6_takeAll τ = some υ := by
  have key := it_for (β := St × Bool × Sx × List (List Nat × List Nat)) (body := fun (kb : (St × Int32 × Int32) → Option St) (t : St × Int32 × Int32) => fX6_takeAll_L9 (fun σ v1 v2 => kb (σ, v1, v2)) t.1 t.2.1 t.2.2) 12 (by omega) (fun i b => (b.1, (if b.2.1 = true then nI 1 else nI 0), nI i)) (fun i b => b.2.2.2.length = i ∧ IL b.2.2.2 ∧ FR [14, 16] [15, 17] [3, 4, 5] [] τ b.1 ∧ ITM b.1 b.2.2.2 ∧ zI b.1 5 = nI i ∧ Sr b.1 T b.2.2.1 ∧ (b.2.1 = true → i < 12 ∧ pItems 12 x = (b.2.2.2 ++ (pItems (12 - i) b.2.2.1).1, (pItems (12 - i) b.2.2.1).2)) ∧ (b.2.1 = false → pItems 12 x = (b.2.2.2, b.2.2.1))) (fun i b z => ∃ υ, FR [14, 16] [15, 17] [3, 4, 5] [] τ υ ∧ ITM υ (pItems 12 x).1 ∧ zI υ 5 = nI (pItems 12 x).1.length ∧ Sr υ T (pItems 12 x).2 ∧ z = some υ) ?_ 0 (uI τ 5 (nI 0), true, x, []) (Nat.zero_le _) ⟨rfl, (fun e he => nomatch he), FR.uI (FR.rf _ _ _ _ _) (by decide), (fun k hk => absurd hk (Nat.not_lt_zero _)), by rw [zI_uI], h.fr (FR.uI (FR.rf [] [] [5] [] _) (by decide)) (by decide) (by decide) (by decide), fun _ => ⟨by decide, rfl⟩, fun e => by cases e⟩
  · exact key
  · rintro i ⟨y, more, z, l⟩ hi ⟨jl, jL, jF, jI, j5, jS, jt, jf⟩ kb hkb
    have hl : l.length = i := jl
    have hL : IL l := jL
    have hF : FR [14, 16] [15, 17] [3, 4, 5] [] τ y := jF
    have hI : ITM y l := jI
    have h5 : zI y 5 = nI i := j5
    have hS : Sr y T z := jS
    have ht : more = true → i < 12 ∧ pItems 12 x = (l ++ (pItems (12 - i) z).1, (pItems (12 - i) z).2) := jt
    have hf : more = false → pItems 12 x = (l, z) := jf
    clear jl jL jF jI j5 jS jt jf
    show ∃ υ, _ ∧ _ ∧ _ ∧ _ ∧ fX6_takeAll_L9 (fun σ v1 v2 => kb (σ, v1, v2)) y (if more = true then nI 1 else nI 0) (nI i) = some υ
    cases hm : more with
    | true =>
      obtain ⟨hi2, hp⟩ := ht hm
      obtain ⟨υ, h1, h2, h3, h4, h6⟩ := c_takeItem (fun σ v1 v2 => kb (σ, v1, v2)) hS hi2 hl hL hI h5
      have hms : 12 - i = (12 - (i + 1)) + 1 := by omega
      rw [hms] at hp
      by_cases hb : i + 1 < 12 ∧ tb 59 (pIw z).2 = true
      · rw [if_pos hb] at h4 h6
        have ep : pItems (12 - (i + 1) + 1) z = (((pIc z).1, (pIw z).1) :: (pItems (12 - (i + 1)) (tlx (pIw z).2)).1, (pItems (12 - (i + 1)) (tlx (pIw z).2)).2) := if_pos ⟨by omega, hb.2⟩
        rw [ep] at hp
        obtain ⟨w, h7, h8, h9, h10, h11⟩ := hkb (υ, true, tlx (pIw z).2, l ++ [((pIc z).1, (pIw z).1)]) hi2 ⟨by show (l ++ [_]).length = i + 1; rw [List.length_append, List.length_singleton, hl], IL_snoc hL, hF.tr h1, h2, h3, h4, fun _ => ⟨hb.1, by
          rw [hp]
          show _ = ((l ++ [_]) ++ _, _)
          rw [List.append_assoc]
          rfl⟩, fun e => by cases e⟩
        exact ⟨w, h7, h8, h9, h10, h6.trans h11⟩
      · rw [if_neg hb] at h4 h6
        have ep : pItems (12 - (i + 1) + 1) z = ([((pIc z).1, (pIw z).1)], (pIw z).2) := if_neg (fun h => hb ⟨by omega, h.2⟩)
        rw [ep] at hp
        obtain ⟨w, h7, h8, h9, h10, h11⟩ := hkb (υ, false, (pIw z).2, l ++ [((pIc z).1, (pIw z).1)]) hi2 ⟨by show (l ++ [_]).length = i + 1; rw [List.length_append, List.length_singleton, hl], IL_snoc hL, hF.tr h1, h2, h3, h4, (fun e => by cases e), fun _ => hp⟩
        exact ⟨w, h7, h8, h9, h10, h6.trans h11⟩
    | false =>
      have hp := hf hm
      refine ⟨y, hF, ?_, ?_, ?_, ?_⟩
      · rw [hp]; exact hI
      · rw [hp]; show zI y 5 = nI l.length; rw [hl]; exact h5
      · rw [hp]; exact hS
      · rw [if_neg (by decide)]
        unfold fX6_takeAll_L9
        by_cases h12 : i = 12
        · simp (disch := omega) only [l0, l1, l2, l3, l4, l5, l6, l7, l8, l9, l10, l11, l12, l16, l18, l19, l20, l21, l24, l96, l128, l100, l144, l200, l256, l288, l1536, l1728, l1800, bnd, nI_add, pk_mul, pI_sub, pI_m1, pT_le, pF_le, pT_lt, pF_lt, pT_eq, pF_eq, pF_m1, mF_eq, mT_eq, mT_lt, mF_le, lm1, rd_nI, wr_nI, cl_nI, pk_us, un_ne, pk_uLs, uL_ne, zI_uI, zI_uJ, zI_uA, zI_uB, zI_uR, zI_uN, zJ_uI, zJ_uJ, zJ_uA, zJ_uB, zJ_uR, zJ_uN, zA_uI, zA_uJ, zA_uA, zA_uB, zA_uR, zA_uN, zB_uI, zB_uJ, zB_uA, zB_uB, zB_uR, zB_uN, zR_uI, zR_uJ, zR_uA, zR_uB, zR_uR, zR_uN, zN_uI, zN_uJ, zN_uA, zN_uB, zN_uR, zN_uN, zI_ne, zJ_ne, zA_ne, zB_ne, zR_ne, zN_ne, bi_T, bi_F, nz16, ↓reduceIte, not_true_eq_false, not_false_eq_true, Bool.false_eq_true, reduceCtorEq, h12]
        · simp (disch := omega) only [l0, l1, l2, l3, l4, l5, l6, l7, l8, l9, l10, l11, l12, l16, l18, l19, l20, l21, l24, l96, l128, l100, l144, l200, l256, l288, l1536, l1728, l1800, bnd, nI_add, pk_mul, pI_sub, pI_m1, pT_le, pF_le, pT_lt, pF_lt, pT_eq, pF_eq, pF_m1, mF_eq, mT_eq, mT_lt, mF_le, lm1, rd_nI, wr_nI, cl_nI, pk_us, un_ne, pk_uLs, uL_ne, zI_uI, zI_uJ, zI_uA, zI_uB, zI_uR, zI_uN, zJ_uI, zJ_uJ, zJ_uA, zJ_uB, zJ_uR, zJ_uN, zA_uI, zA_uJ, zA_uA, zA_uB, zA_uR, zA_uN, zB_uI, zB_uJ, zB_uA, zB_uB, zB_uR, zB_uN, zR_uI, zR_uJ, zR_uA, zR_uB, zR_uR, zR_uN, zN_uI, zN_uJ, zN_uA, zN_uB, zN_uR, zN_uN, zI_ne, zJ_ne, zA_ne, zB_ne, zR_ne, zN_ne, bi_T, bi_F, nz16, ↓reduceIte, not_true_eq_false, not_false_eq_true, Bool.false_eq_true, reduceCtorEq]
/-- how a text reads as a roll -/
def pRoll (bs : List Nat) : List (List Nat × List Nat) × Sx := pItems 12 (.inr (tkF Jr 8 gr bs))
theorem c_faultOf_r {σ : St} {bs : List Nat} (h2 : zI σ 2 = nI bs.length) (h11 : hB (zA σ 11) bs) (hl : bs.length ≤ 200) (hb : ∀ b, b ∈ bs → 1 ≤ b ∧ b < 256) : ∃ υ, FR [13, 14, 16] [12, 15, 17] [3, 4, 5] [] (uR σ 0 12) υ ∧ fX5_faultOf_r σ = some (fx (pRoll bs).2, υ) ∧ ITM υ (pRoll bs).1 ∧ zI υ 5 = nI (pRoll bs).1.length := by
  obtain ⟨s1, h3, h4, h5, h6⟩ := c_cutUp_r h2 h11 hl hb
  obtain ⟨s2, hs2⟩ : ∃ s2, s2 = uI (uI (uR s1 0 12) 3 (nI 0)) 4 mI := ⟨_, rfl⟩
  have hF2 : FR [13] [12] [3, 4] [] (uR σ 0 12) s2 := by
    rw [hs2]
    exact FR.uI (FR.uI ((h3.mono (by decide) (by decide) (by decide) (by decide)).uR2) (by decide)) (by decide)
  have hS2 : Sr s2 (tkF Jr 8 gr bs) (.inr (tkF Jr 8 gr bs)) := by
    refine ⟨⟨?_, ?_, ?_, h5, [], rfl, ?_⟩, gT_r hl hb⟩
    · rw [hs2, zR_uI, zR_uI, zR_uR]
    · rw [hs2, zI_uI]
    · rw [hs2]; exact h4
    · rw [hs2, zI_ne (by decide), zI_uI]; rfl
  obtain ⟨s3, h7, h8, h9, h10, h11'⟩ := c_takeAll_r hS2
  obtain ⟨s4, h12, h13⟩ := s_end_r h10
  refine ⟨s4, ((hF2.mono (by decide) (by decide) (by decide) (by decide)).tr (h7.mono (by decide) (by decide) (by decide) (by decide))).tr (h13.mono (by decide) (by decide) (by decide) (by decide)), ?_, ?_, ?_⟩
  · have e1 : fX5_begin_r_12 s1 = some s2 := by rw [hs2]; rfl
    unfold fX5_faultOf_r
    rw [h6, bnd, e1, bnd, h11', bnd]
    exact h12
  · unfold ITM
    rw [h13.1 14 (by decide), h13.1 16 (by decide), h13.2.1 15 (by decide), h13.2.1 17 (by decide)]
    exact h8
  · rw [h13.2.2.1 5 (by decide)]
    exact h9
