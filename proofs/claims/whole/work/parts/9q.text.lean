/-! a roll more: the ghost, the class's add *-/
def gadd (g : Gh) (gi : List It) : Gh := (gN g + 1, fun r => if r = gN g then gi.length else gS g r, fun s => if s / 16 = gN g then (gi.getD (s % 16) ([], [])).1 else gC g s, fun s => if s / 16 = gN g then (gi.getD (s % 16) ([], [])).2 else gW g s)
theorem gadd_vd {g : Gh} {gi : List It} {s : Nat} : vd (gadd g gi) s = (vd g s || decide (s / 16 = gN g ∧ s % 16 < gi.length)) := by
  unfold vd
  have e1 : gN (gadd g gi) = gN g + 1 := rfl
  have e2 : gS (gadd g gi) (s / 16) = if s / 16 = gN g then gi.length else gS g (s / 16) := rfl
  rw [e1, e2]
  by_cases h : s / 16 = gN g
  · rw [if_pos h, decide_eq_false (show ¬ (s / 16 < gN g ∧ s % 16 < gS g (s / 16)) from fun x => by omega), Bool.false_or]
    exact dec_iff ⟨fun x => ⟨h, x.2⟩, fun x => ⟨by omega, x.2⟩⟩
  · rw [if_neg h, decide_eq_false (show ¬ (s / 16 = gN g ∧ s % 16 < gi.length) from fun x => h x.1), Bool.or_false]
    exact dec_iff ⟨fun x => ⟨by omega, x.2⟩, fun x => ⟨by omega, x.2⟩⟩
theorem gadd_old {g : Gh} {gi : List It} {s : Nat} (h : s / 16 ≠ gN g) : vd (gadd g gi) s = vd g s ∧ gC (gadd g gi) s = gC g s ∧ gW (gadd g gi) s = gW g s := by
  refine ⟨?_, if_neg h, if_neg h⟩
  rw [gadd_vd, decide_eq_false (fun x => h x.1), Bool.or_false]
theorem gadd_new {g : Gh} {gi : List It} {s : Nat} (h : s / 16 = gN g) : (vd (gadd g gi) s = true ↔ s % 16 < gi.length) ∧ gC (gadd g gi) s = (gi.getD (s % 16) ([], [])).1 ∧ gW (gadd g gi) s = (gi.getD (s % 16) ([], [])).2 := by
  refine ⟨?_, if_pos h, if_pos h⟩
  rw [gadd_vd]
  have e : vd g s = false := decide_eq_false (fun x => by omega)
  rw [e, Bool.false_or]
  exact ⟨fun x => (of_decide_eq_true x).2, fun x => decide_eq_true ⟨h, x⟩⟩
theorem gadd_ok {g : Gh} {gi : List It} (hg : okG g) (h8 : gN g < 8) (h1 : 1 ≤ gi.length) (h2 : gi.length ≤ 12) (hi : ∀ e, e ∈ gi → okIt e) : okG (gadd g gi) := by
  refine ⟨h8, fun r hr => ?_, fun s hs => ?_⟩
  · show 1 ≤ (if r = gN g then gi.length else gS g r) ∧ (if r = gN g then gi.length else gS g r) ≤ 12
    by_cases e : r = gN g
    · rw [if_pos e]; exact ⟨h1, h2⟩
    · rw [if_neg e]
      have hr : r < gN g + 1 := hr
      exact hg.2.1 r (by omega)
  · by_cases e : s / 16 = gN g
    · obtain ⟨e1, e2, e3⟩ := gadd_new (gi := gi) e
      rw [e2, e3]
      exact hi _ (getD_mem (e1.mp hs))
    · obtain ⟨e1, e2, e3⟩ := gadd_old (gi := gi) e
      rw [e2, e3]
      rw [e1] at hs
      exact hg.2.2 s hs
theorem range_lt : ∀ (n m : Nat), m ≤ n → (List.range n).filter (fun i => decide (i < m)) = List.range m
  | 0, m, h => by
    have : m = 0 := by omega
    rw [this]
    rfl
  | n + 1, m, h => by
    rw [List.range_succ, List.filter_append]
    by_cases e : m = n + 1
    · rw [e, List.filter_eq_self.mpr (fun i hi => decide_eq_true (by have := List.mem_range.mp hi; omega)), List.range_succ]
      congr 1
      rw [List.filter_cons, if_pos (by exact decide_eq_true (by omega))]
      rfl
    · rw [range_lt n m (by omega), List.filter_cons, if_neg (by rw [decide_eq_false (by omega)]; decide), List.filter_nil, List.append_nil]
theorem sp_gadd {g : Gh} {gi : List It} (hg : okG g) (h8 : gN g < 8) (h2 : gi.length ≤ 12) : sp (gadd g gi) = sp g ++ (List.range gi.length).map (fun i => 16 * gN g + i) := by
  have hr : List.range 128 = List.range (16 * gN g) ++ ((List.range 16).map (fun i => 16 * gN g + i) ++ (List.range (128 - 16 * gN g - 16)).map (fun i => 16 * gN g + 16 + i)) := by
    have e1 : 128 = 16 * gN g + (16 + (128 - 16 * gN g - 16)) := by omega
    conv => lhs; rw [e1]
    rw [List.range_add, List.range_add, List.map_append, List.map_map]
    congr 2
    apply List.map_congr_left
    intro i _
    show 16 * gN g + (16 + i) = _
    omega
  have hA : (List.range (16 * gN g)).filter (vd (gadd g gi)) = (List.range (16 * gN g)).filter (vd g) := by
    apply List.filter_congr
    intro s hs
    have := List.mem_range.mp hs
    exact (gadd_old (by omega)).1
  have hB : ((List.range 16).map (fun i => 16 * gN g + i)).filter (vd (gadd g gi)) = (List.range gi.length).map (fun i => 16 * gN g + i) := by
    rw [List.filter_map]
    congr 1
    rw [← range_lt 16 gi.length (by omega)]
    apply List.filter_congr
    intro i hi
    have hi := List.mem_range.mp hi
    show vd (gadd g gi) (16 * gN g + i) = decide (i < gi.length)
    have h3 := (gadd_new (g := g) (gi := gi) (s := 16 * gN g + i) (by omega)).1
    rw [show (16 * gN g + i) % 16 = i by omega] at h3
    by_cases e : i < gi.length
    · rw [h3.mpr e, decide_eq_true e]
    · rw [decide_eq_false e]
      exact Bool.eq_false_iff.mpr (fun x => e (h3.mp x))
  have hC : ∀ (g2 : Gh), gN g2 ≤ gN g + 1 → ((List.range (128 - 16 * gN g - 16)).map (fun i => 16 * gN g + 16 + i)).filter (vd g2) = [] := by
    intro g2 hg2
    rw [List.filter_eq_nil_iff]
    intro s hs hv
    obtain ⟨i, _, rfl⟩ := List.mem_map.mp hs
    have := (vd_iff.mp hv).1
    omega
  have hD : ((List.range 16).map (fun i => 16 * gN g + i)).filter (vd g) = [] := by
    rw [List.filter_eq_nil_iff]
    intro s hs hv
    obtain ⟨i, _, rfl⟩ := List.mem_map.mp hs
    have := (vd_iff.mp hv).1
    omega
  unfold sp
  rw [hr, List.filter_append, List.filter_append, List.filter_append, List.filter_append, hA, hB, hC _ (Nat.le_refl _), hC g (by omega), hD, List.append_nil, List.append_nil, List.append_nil]
theorem c_fill {σ : St} {s i : Nat} (hs : s < 128) (hi : i < 12) : ∃ υ, FR [25, 27] [26, 28] [] [] σ υ ∧ zA υ 25 = upd (zA σ 25) s (zA σ 14 i) ∧ zA υ 27 = upd (zA σ 27) s (zA σ 16 i) ∧ (∀ j, j / 2 ≠ s → zB υ 26 j = zB σ 26 j) ∧ (∀ k, k < 2 → zB υ 26 (2 * s + k) = zB σ 15 (2 * i + k)) ∧ (∀ j, j / 12 ≠ s → zB υ 28 j = zB σ 28 j) ∧ (∀ k, k < 12 → zB υ 28 (12 * s + k) = zB σ 17 (12 * i + k)) ∧ fX7_fill σ (nI s) (nI i) = some υ := by
  -- the words
  have wds : ∀ τ : St, FR [25, 27] [26] [] [] σ τ → zA τ 25 = upd (zA σ 25) s (zA σ 14 i) → zA τ 27 = upd (zA σ 27) s (zA σ 16 i) → (∀ j, j / 2 ≠ s → zB τ 26 j = zB σ 26 j) → (∀ k, k < 2 → zB τ 26 (2 * s + k) = zB σ 15 (2 * i + k)) → ∃ υ, FR [25, 27] [26, 28] [] [] σ υ ∧ zA υ 25 = upd (zA σ 25) s (zA σ 14 i) ∧ zA υ 27 = upd (zA σ 27) s (zA σ 16 i) ∧ (∀ j, j / 2 ≠ s → zB υ 26 j = zB σ 26 j) ∧ (∀ k, k < 2 → zB υ 26 (2 * s + k) = zB σ 15 (2 * i + k)) ∧ (∀ j, j / 12 ≠ s → zB υ 28 j = zB σ 28 j) ∧ (∀ k, k < 12 → zB υ 28 (12 * s + k) = zB σ 17 (12 * i + k)) ∧ fX7_fill_P70 (nI s) (nI i) τ (nI 0) = some υ := by
    intro τ hF h25 h27 h26 h26b
    have key := it_for (β := St) (body := fun (kb : (St × Int32) → Option St) (t : St × Int32) => fX7_fill_L70 (nI s) (nI i) (fun σ v4 => kb (σ, v4)) t.1 t.2) 12 (by omega) (fun k y => (y, nI k)) (fun k y => FR [] [28] [] [] τ y ∧ (∀ j, j / 12 ≠ s → zB y 28 j = zB σ 28 j) ∧ ∀ m, m < k → zB y 28 (12 * s + m) = zB σ 17 (12 * i + m)) (fun k y z => ∃ υ, FR [] [28] [] [] τ υ ∧ (∀ j, j / 12 ≠ s → zB υ 28 j = zB σ 28 j) ∧ (∀ m, m < 12 → zB υ 28 (12 * s + m) = zB σ 17 (12 * i + m)) ∧ z = some υ) ?_ 0 τ (Nat.zero_le _) ⟨FR.rf _ _ _ _ _, fun j _ => by rw [hF.2.1 28 (by decide)], fun m hm => absurd hm (Nat.not_lt_zero _)⟩
    · obtain ⟨υ, h1, h2, h3, h4⟩ := key
      refine ⟨υ, (hF.mono (by decide) (by decide) (by decide) (by decide)).tr (h1.mono (by decide) (by decide) (by decide) (by decide)), by rw [h1.1 25 (by decide)]; exact h25, by rw [h1.1 27 (by decide)]; exact h27, fun j hj => by rw [h1.2.1 26 (by decide)]; exact h26 j hj, fun k hk => by rw [h1.2.1 26 (by decide)]; exact h26b k hk, h2, h3, h4⟩
    · rintro k y hk ⟨hY, hy1, hy2⟩ kb hkb
      show ∃ υ, _ ∧ _ ∧ _ ∧ fX7_fill_L70 (nI s) (nI i) (fun σ v4 => kb (σ, v4)) y (nI k) = some υ
      unfold fX7_fill_L70
      by_cases hk12 : k = 12
      · rw [hk12] at hy2
        exact ⟨y, hY, hy1, hy2, by simp (disch := omega) only [l0, l1, l2, l3, l4, l5, l6, l7, l8, l9, l10, l11, l12, l16, l18, l19, l20, l21, l24, l96, l128, l100, l144, l200, l256, l288, l1536, l1728, l1800, bnd, nI_add, pk_mul, pI_sub, pI_m1, pT_le, pF_le, pT_lt, pF_lt, pT_eq, pF_eq, pF_m1, mF_eq, mT_eq, mT_lt, mF_le, lm1, rd_nI, wr_nI, cl_nI, pk_us, un_ne, pk_uLs, uL_ne, zI_uI, zI_uJ, zI_uA, zI_uB, zI_uR, zI_uN, zJ_uI, zJ_uJ, zJ_uA, zJ_uB, zJ_uR, zJ_uN, zA_uI, zA_uJ, zA_uA, zA_uB, zA_uR, zA_uN, zB_uI, zB_uJ, zB_uA, zB_uB, zB_uR, zB_uN, zR_uI, zR_uJ, zR_uA, zR_uB, zR_uR, zR_uN, zN_uI, zN_uJ, zN_uA, zN_uB, zN_uR, zN_uN, zI_ne, zJ_ne, zA_ne, zB_ne, zR_ne, zN_ne, bi_T, bi_F, nz16, ↓reduceIte, not_true_eq_false, not_false_eq_true, Bool.false_eq_true, reduceCtorEq, hk12]⟩
      · have hwd : fX6_word y (nI i) (nI k) = some (zB σ 17 (12 * i + k)) := by
          unfold fX6_word
          rw [hY.2.1 17 (by decide), hF.2.1 17 (by decide)]
          simp (disch := omega) only [l0, l1, l2, l3, l4, l5, l6, l7, l8, l9, l10, l11, l12, l16, l18, l19, l20, l21, l24, l96, l128, l100, l144, l200, l256, l288, l1536, l1728, l1800, bnd, nI_add, pk_mul, pI_sub, pI_m1, pT_le, pF_le, pT_lt, pF_lt, pT_eq, pF_eq, pF_m1, mF_eq, mT_eq, mT_lt, mF_le, lm1, rd_nI, wr_nI, cl_nI, pk_us, un_ne, pk_uLs, uL_ne, zI_uI, zI_uJ, zI_uA, zI_uB, zI_uR, zI_uN, zJ_uI, zJ_uJ, zJ_uA, zJ_uB, zJ_uR, zJ_uN, zA_uI, zA_uJ, zA_uA, zA_uB, zA_uR, zA_uN, zB_uI, zB_uJ, zB_uA, zB_uB, zB_uR, zB_uN, zR_uI, zR_uJ, zR_uA, zR_uB, zR_uR, zR_uN, zN_uI, zN_uJ, zN_uA, zN_uB, zN_uR, zN_uN, zI_ne, zJ_ne, zA_ne, zB_ne, zR_ne, zN_ne, bi_T, bi_F, nz16, ↓reduceIte, not_true_eq_false, not_false_eq_true, Bool.false_eq_true, reduceCtorEq]
        obtain ⟨υ, h1, h2, h3, h4⟩ := hkb (uB y 28 (vp_updL (zB y 28) (12 * s + k) (zB σ 17 (12 * i + k)))) (by omega) ⟨FR.uB hY (by decide), fun j hj => by
          rw [zB_uB, uL_ne (by omega)]
          exact hy1 j hj, fun m hm => by
          rw [zB_uB]
          by_cases e : m = k
          · rw [e, pk_uLs]
          · rw [uL_ne (by omega)]
            exact hy2 m (by omega)⟩
        refine ⟨υ, h1, h2, h3, ?_⟩
        rw [← h4]
        simp (disch := omega) only [l0, l1, l2, l3, l4, l5, l6, l7, l8, l9, l10, l11, l12, l16, l18, l19, l20, l21, l24, l96, l128, l100, l144, l200, l256, l288, l1536, l1728, l1800, bnd, nI_add, pk_mul, pI_sub, pI_m1, pT_le, pF_le, pT_lt, pF_lt, pT_eq, pF_eq, pF_m1, mF_eq, mT_eq, mT_lt, mF_le, lm1, rd_nI, wr_nI, cl_nI, pk_us, un_ne, pk_uLs, uL_ne, zI_uI, zI_uJ, zI_uA, zI_uB, zI_uR, zI_uN, zJ_uI, zJ_uJ, zJ_uA, zJ_uB, zJ_uR, zJ_uN, zA_uI, zA_uJ, zA_uA, zA_uB, zA_uR, zA_uN, zB_uI, zB_uJ, zB_uA, zB_uB, zB_uR, zB_uN, zR_uI, zR_uJ, zR_uA, zR_uB, zR_uR, zR_uN, zN_uI, zN_uJ, zN_uA, zN_uB, zN_uR, zN_uN, zI_ne, zJ_ne, zA_ne, zB_ne, zR_ne, zN_ne, bi_T, bi_F, nz16, ↓reduceIte, not_true_eq_false, not_false_eq_true, Bool.false_eq_true, reduceCtorEq, hwd]
  -- the cue
  obtain ⟨σ1, hσ1⟩ : ∃ σ1, σ1 = uA σ 25 (upd (zA σ 25) s (zA σ 14 i)) := ⟨_, rfl⟩
  have hF1 : FR [25] [] [] [] σ σ1 := by rw [hσ1]; exact FR.uA (FR.rf _ _ _ _ _) (by decide)
  have cwo : ∀ y : St, zA y 14 = zA σ 14 → fX6_cueWordsOf y (nI i) = some (zA σ 14 i) := fun y h => by
    unfold fX6_cueWordsOf
    rw [h]
    simp (disch := omega) only [l0, l1, l2, l3, l4, l5, l6, l7, l8, l9, l10, l11, l12, l16, l18, l19, l20, l21, l24, l96, l128, l100, l144, l200, l256, l288, l1536, l1728, l1800, bnd, nI_add, pk_mul, pI_sub, pI_m1, pT_le, pF_le, pT_lt, pF_lt, pT_eq, pF_eq, pF_m1, mF_eq, mT_eq, mT_lt, mF_le, lm1, rd_nI, wr_nI, cl_nI, pk_us, un_ne, pk_uLs, uL_ne, zI_uI, zI_uJ, zI_uA, zI_uB, zI_uR, zI_uN, zJ_uI, zJ_uJ, zJ_uA, zJ_uB, zJ_uR, zJ_uN, zA_uI, zA_uJ, zA_uA, zA_uB, zA_uR, zA_uN, zB_uI, zB_uJ, zB_uA, zB_uB, zB_uR, zB_uN, zR_uI, zR_uJ, zR_uA, zR_uB, zR_uR, zR_uN, zN_uI, zN_uJ, zN_uA, zN_uB, zN_uR, zN_uN, zI_ne, zJ_ne, zA_ne, zB_ne, zR_ne, zN_ne, bi_T, bi_F, nz16, ↓reduceIte, not_true_eq_false, not_false_eq_true, Bool.false_eq_true, reduceCtorEq]
  have wo : ∀ y : St, zA y 16 = zA σ 16 → fX6_wordsOf y (nI i) = some (zA σ 16 i) := fun y h => by
    unfold fX6_wordsOf
    rw [h]
    simp (disch := omega) only [l0, l1, l2, l3, l4, l5, l6, l7, l8, l9, l10, l11, l12, l16, l18, l19, l20, l21, l24, l96, l128, l100, l144, l200, l256, l288, l1536, l1728, l1800, bnd, nI_add, pk_mul, pI_sub, pI_m1, pT_le, pF_le, pT_lt, pF_lt, pT_eq, pF_eq, pF_m1, mF_eq, mT_eq, mT_lt, mF_le, lm1, rd_nI, wr_nI, cl_nI, pk_us, un_ne, pk_uLs, uL_ne, zI_uI, zI_uJ, zI_uA, zI_uB, zI_uR, zI_uN, zJ_uI, zJ_uJ, zJ_uA, zJ_uB, zJ_uR, zJ_uN, zA_uI, zA_uJ, zA_uA, zA_uB, zA_uR, zA_uN, zB_uI, zB_uJ, zB_uA, zB_uB, zB_uR, zB_uN, zR_uI, zR_uJ, zR_uA, zR_uB, zR_uR, zR_uN, zN_uI, zN_uJ, zN_uA, zN_uB, zN_uR, zN_uN, zI_ne, zJ_ne, zA_ne, zB_ne, zR_ne, zN_ne, bi_T, bi_F, nz16, ↓reduceIte, not_true_eq_false, not_false_eq_true, Bool.false_eq_true, reduceCtorEq]
  have key := it_for (β := St) (body := fun (kb : (St × Int32) → Option St) (t : St × Int32) => fX7_fill_L26 (nI s) (nI i) (fun s5 => (fX6_wordsOf s5 (nI i)).bind fun x6 => wr 128 (nI s) ((some (uA s5 27 (upd (zA s5 27) (Int32.toNatClampNeg (nI s)) x6))).bind fun s7 => fX7_fill_P70 (nI s) (nI i) s7 (nI 0))) (fun σ v4 => kb (σ, v4)) t.1 t.2) 2 (by omega) (fun k y => (y, nI k)) (fun k y => FR [] [26] [] [] σ1 y ∧ (∀ j, j / 2 ≠ s → zB y 26 j = zB σ 26 j) ∧ ∀ m, m < k → zB y 26 (2 * s + m) = zB σ 15 (2 * i + m)) (fun k y z => ∃ υ, FR [25, 27] [26, 28] [] [] σ υ ∧ zA υ 25 = upd (zA σ 25) s (zA σ 14 i) ∧ zA υ 27 = upd (zA σ 27) s (zA σ 16 i) ∧ (∀ j, j / 2 ≠ s → zB υ 26 j = zB σ 26 j) ∧ (∀ k, k < 2 → zB υ 26 (2 * s + k) = zB σ 15 (2 * i + k)) ∧ (∀ j, j / 12 ≠ s → zB υ 28 j = zB σ 28 j) ∧ (∀ k, k < 12 → zB υ 28 (12 * s + k) = zB σ 17 (12 * i + k)) ∧ z = some υ) ?_ 0 σ1 (Nat.zero_le _) ⟨FR.rf _ _ _ _ _, fun j _ => by rw [hF1.2.1 26 (by decide)], fun m hm => absurd hm (Nat.not_lt_zero _)⟩
  · obtain ⟨υ, h1, h2, h3, h4, h5, h6, h7, h8⟩ := key
    refine ⟨υ, h1, h2, h3, h4, h5, h6, h7, ?_⟩
    rw [← h8, hσ1]
    have hc := cwo σ rfl
    unfold fX7_fill
    simp (disch := omega) only [l0, l1, l2, l3, l4, l5, l6, l7, l8, l9, l10, l11, l12, l16, l18, l19, l20, l21, l24, l96, l128, l100, l144, l200, l256, l288, l1536, l1728, l1800, bnd, nI_add, pk_mul, pI_sub, pI_m1, pT_le, pF_le, pT_lt, pF_lt, pT_eq, pF_eq, pF_m1, mF_eq, mT_eq, mT_lt, mF_le, lm1, rd_nI, wr_nI, cl_nI, pk_us, un_ne, pk_uLs, uL_ne, zI_uI, zI_uJ, zI_uA, zI_uB, zI_uR, zI_uN, zJ_uI, zJ_uJ, zJ_uA, zJ_uB, zJ_uR, zJ_uN, zA_uI, zA_uJ, zA_uA, zA_uB, zA_uR, zA_uN, zB_uI, zB_uJ, zB_uA, zB_uB, zB_uR, zB_uN, zR_uI, zR_uJ, zR_uA, zR_uB, zR_uR, zR_uN, zN_uI, zN_uJ, zN_uA, zN_uB, zN_uR, zN_uN, zI_ne, zJ_ne, zA_ne, zB_ne, zR_ne, zN_ne, bi_T, bi_F, nz16, ↓reduceIte, not_true_eq_false, not_false_eq_true, Bool.false_eq_true, reduceCtorEq, hc]
    rfl
  · rintro k y hk ⟨hY, hy1, hy2⟩ kb hkb
    show ∃ υ, _ ∧ _ ∧ _ ∧ _ ∧ _ ∧ _ ∧ _ ∧ fX7_fill_L26 (nI s) (nI i) _ (fun σ v4 => kb (σ, v4)) y (nI k) = some υ
    unfold fX7_fill_L26
    by_cases hk2 : k = 2
    · rw [hk2] at hy2
      have hF2 : FR [25, 27] [26] [] [] σ (uA y 27 (upd (zA y 27) s (zA σ 16 i))) := FR.uA ((hF1.mono (by decide) (by decide) (by decide) (by decide)).tr (hY.mono (by decide) (by decide) (by decide) (by decide))) (by decide)
      obtain ⟨υ, h1, h2, h3, h4, h5, h6, h7, h8⟩ := wds _ hF2 (by rw [zA_ne (by decide), hY.1 25 (by decide), hσ1, zA_uA]) (by rw [zA_uA, hY.1 27 (by decide), hF1.1 27 (by decide)]) (fun j hj => by rw [zB_uA]; exact hy1 j hj) (fun m hm => by rw [zB_uA]; exact hy2 m hm)
      refine ⟨υ, h1, h2, h3, h4, h5, h6, h7, ?_⟩
      rw [← h8]
      have hw := wo y (by rw [hY.1 16 (by decide), hF1.1 16 (by decide)])
      simp (disch := omega) only [l0, l1, l2, l3, l4, l5, l6, l7, l8, l9, l10, l11, l12, l16, l18, l19, l20, l21, l24, l96, l128, l100, l144, l200, l256, l288, l1536, l1728, l1800, bnd, nI_add, pk_mul, pI_sub, pI_m1, pT_le, pF_le, pT_lt, pF_lt, pT_eq, pF_eq, pF_m1, mF_eq, mT_eq, mT_lt, mF_le, lm1, rd_nI, wr_nI, cl_nI, pk_us, un_ne, pk_uLs, uL_ne, zI_uI, zI_uJ, zI_uA, zI_uB, zI_uR, zI_uN, zJ_uI, zJ_uJ, zJ_uA, zJ_uB, zJ_uR, zJ_uN, zA_uI, zA_uJ, zA_uA, zA_uB, zA_uR, zA_uN, zB_uI, zB_uJ, zB_uA, zB_uB, zB_uR, zB_uN, zR_uI, zR_uJ, zR_uA, zR_uB, zR_uR, zR_uN, zN_uI, zN_uJ, zN_uA, zN_uB, zN_uR, zN_uN, zI_ne, zJ_ne, zA_ne, zB_ne, zR_ne, zN_ne, bi_T, bi_F, nz16, ↓reduceIte, not_true_eq_false, not_false_eq_true, Bool.false_eq_true, reduceCtorEq, hk2, hw]
    · have hwd : fX6_cueWord y (nI i) (nI k) = some (zB σ 15 (2 * i + k)) := by
        unfold fX6_cueWord
        rw [hY.2.1 15 (by decide), hF1.2.1 15 (by decide)]
        simp (disch := omega) only [l0, l1, l2, l3, l4, l5, l6, l7, l8, l9, l10, l11, l12, l16, l18, l19, l20, l21, l24, l96, l128, l100, l144, l200, l256, l288, l1536, l1728, l1800, bnd, nI_add, pk_mul, pI_sub, pI_m1, pT_le, pF_le, pT_lt, pF_lt, pT_eq, pF_eq, pF_m1, mF_eq, mT_eq, mT_lt, mF_le, lm1, rd_nI, wr_nI, cl_nI, pk_us, un_ne, pk_uLs, uL_ne, zI_uI, zI_uJ, zI_uA, zI_uB, zI_uR, zI_uN, zJ_uI, zJ_uJ, zJ_uA, zJ_uB, zJ_uR, zJ_uN, zA_uI, zA_uJ, zA_uA, zA_uB, zA_uR, zA_uN, zB_uI, zB_uJ, zB_uA, zB_uB, zB_uR, zB_uN, zR_uI, zR_uJ, zR_uA, zR_uB, zR_uR, zR_uN, zN_uI, zN_uJ, zN_uA, zN_uB, zN_uR, zN_uN, zI_ne, zJ_ne, zA_ne, zB_ne, zR_ne, zN_ne, bi_T, bi_F, nz16, ↓reduceIte, not_true_eq_false, not_false_eq_true, Bool.false_eq_true, reduceCtorEq]
      obtain ⟨υ, h1, h2, h3, h4, h5, h6, h7, h8⟩ := hkb (uB y 26 (vp_updL (zB y 26) (2 * s + k) (zB σ 15 (2 * i + k)))) (by omega) ⟨FR.uB hY (by decide), fun j hj => by
        rw [zB_uB, uL_ne (by omega)]
        exact hy1 j hj, fun m hm => by
        rw [zB_uB]
        by_cases e : m = k
        · rw [e, pk_uLs]
        · rw [uL_ne (by omega)]
          exact hy2 m (by omega)⟩
      refine ⟨υ, h1, h2, h3, h4, h5, h6, h7, ?_⟩
      rw [← h8]
      simp (disch := omega) only [l0, l1, l2, l3, l4, l5, l6, l7, l8, l9, l10, l11, l12, l16, l18, l19, l20, l21, l24, l96, l128, l100, l144, l200, l256, l288, l1536, l1728, l1800, bnd, nI_add, pk_mul, pI_sub, pI_m1, pT_le, pF_le, pT_lt, pF_lt, pT_eq, pF_eq, pF_m1, mF_eq, mT_eq, mT_lt, mF_le, lm1, rd_nI, wr_nI, cl_nI, pk_us, un_ne, pk_uLs, uL_ne, zI_uI, zI_uJ, zI_uA, zI_uB, zI_uR, zI_uN, zJ_uI, zJ_uJ, zJ_uA, zJ_uB, zJ_uR, zJ_uN, zA_uI, zA_uJ, zA_uA, zA_uB, zA_uR, zA_uN, zB_uI, zB_uJ, zB_uA, zB_uB, zB_uR, zB_uN, zR_uI, zR_uJ, zR_uA, zR_uB, zR_uR, zR_uN, zN_uI, zN_uJ, zN_uA, zN_uB, zN_uR, zN_uN, zI_ne, zJ_ne, zA_ne, zB_ne, zR_ne, zN_ne, bi_T, bi_F, nz16, ↓reduceIte, not_true_eq_false, not_false_eq_true, Bool.false_eq_true, reduceCtorEq, hwd]
