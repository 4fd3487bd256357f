/-! the rehearsal, both sides -/
theorem al_vd {g : Gh} (hg : okG g) {t r : Nat} (h : al g t = true) (hr : t.testBit r = true) : r < gN g ∧ vd g (16 * r) = true := by
  have h1 := al_bit h hr
  have h2 := hg.2.1 r h1
  refine ⟨h1, ?_⟩
  rw [vd_iff, show 16 * r / 16 = r by omega, show 16 * r % 16 = 0 by omega]
  exact ⟨h1, by omega⟩
theorem rbF_T {C : Nat → Bool} {a o : Nat} (h : C o = true) : rbF C a o = a ||| 2 ^ o := if_pos h
theorem rbF_F {C : Nat → Bool} {a o : Nat} (h : C o = false) : rbF C a o = a := if_neg (by rw [h]; decide)
def R0 (g : Gh) (t : Nat) : Nat := rb (fun r => t.testBit r && decide ((gC g (16 * r)).length = 0))
theorem R0_bit {g : Gh} {t r : Nat} (hr : r < 8) : (R0 g t).testBit r = (t.testBit r && decide ((gC g (16 * r)).length = 0)) := rb_bit _ hr
theorem c_reh0 {σ : St} {g : Gh} (hg : okG g) (hj : JC σ g) {t : Nat} (hal : al g t = true) (k1 : St → Int32 → Option St) : ∃ f, fX8_rehearseAll_P4 (nI t) k1 σ (nI 0) (nI 0) = k1 (uA σ 49 f) (nI (R0 g t)) ∧ ∀ j, j < 8 → f j = nI 0 := by
  have ht := al_lt hg hal
  have key := it_for (β := (Nat → Int32) × Nat) (body := fun (kb : (St × Int32 × Int32) → Option St) (x : St × Int32 × Int32) => fX8_rehearseAll_L4 (nI t) k1 (fun σ v2 v3 => kb (σ, v2, v3)) x.1 x.2.1 x.2.2) 8 (by omega) (fun k b => (uA σ 49 b.1, nI b.2, nI k)) (fun k b => (∀ j, j < k → b.1 j = nI 0) ∧ ((List.range 8).drop k).foldl (rbF (fun r => t.testBit r && decide ((gC g (16 * r)).length = 0))) b.2 = R0 g t) (fun k b z => ∃ f, z = k1 (uA σ 49 f) (nI (R0 g t)) ∧ ∀ j, j < 8 → f j = nI 0) ?_ 0 (zA σ 49, 0) (Nat.zero_le _) ⟨fun j h => absurd h (Nat.not_lt_zero _), rfl⟩
  · have e1 : uA σ 49 (zA σ 49) = σ := uA_self σ 49
    simp only [e1] at key
    exact key
  · rintro k ⟨f, R⟩ hk ⟨hf, hR⟩ kb hkb
    have hf : ∀ j, j < k → f j = nI 0 := hf
    have hR : ((List.range 8).drop k).foldl (rbF (fun r => t.testBit r && decide ((gC g (16 * r)).length = 0))) R = R0 g t := hR
    show ∃ f', fX8_rehearseAll_L4 _ _ _ (uA σ 49 f) (nI R) (nI k) = _ ∧ _
    unfold fX8_rehearseAll_L4
    by_cases hk8 : k = 8
    · have e1 : (List.range 8).drop k = [] := List.drop_of_length_le (by rw [List.length_range]; omega)
      rw [e1] at hR
      refine ⟨f, ?_, fun j hj => hf j (by omega)⟩
      rw [← hR]
      simp (disch := omega) only [l0, l1, l2, l3, l4, l5, l6, l7, l8, l9, l10, l11, l12, l16, l18, l19, l20, l21, l24, l96, l128, l100, l144, l200, l256, l288, l1536, l1728, l1800, bnd, nI_add, pk_mul, pI_sub, pI_m1, pT_le, pF_le, pT_lt, pF_lt, pT_eq, pF_eq, pF_m1, mF_eq, mT_eq, mT_lt, mF_le, lm1, rd_nI, wr_nI, cl_nI, pk_us, un_ne, pk_uLs, uL_ne, zI_uI, zI_uJ, zI_uA, zI_uB, zI_uR, zI_uN, zJ_uI, zJ_uJ, zJ_uA, zJ_uB, zJ_uR, zJ_uN, zA_uI, zA_uJ, zA_uA, zA_uB, zA_uR, zA_uN, zB_uI, zB_uJ, zB_uA, zB_uB, zB_uR, zB_uN, zR_uI, zR_uJ, zR_uA, zR_uB, zR_uR, zR_uN, zN_uI, zN_uJ, zN_uA, zN_uB, zN_uR, zN_uN, zI_ne, zJ_ne, zA_ne, zB_ne, zR_ne, zN_ne, bi_T, bi_F, nz16, ↓reduceIte, not_true_eq_false, not_false_eq_true, Bool.false_eq_true, reduceCtorEq, hk8]
      rfl
    · rw [rng_drop (by omega), List.foldl_cons] at hR
      have hf2 : ∀ j, j < k + 1 → upd f k (nI 0) j = nI 0 := by
        intro j hj
        by_cases e : j = k
        · rw [e, pk_us]
        · rw [pk_un e]; exact hf j (by omega)
      have hin := c_isIn (t := t) (r := k) (by omega) (by omega)
      rw [decide_eq_true (show k < 8 by omega), Bool.true_and] at hin
      cases hb : t.testBit k with
      | false =>
        rw [hb] at hin
        have e2 : rbF (fun r => t.testBit r && decide ((gC g (16 * r)).length = 0)) R k = R := rbF_F (show (t.testBit k && decide ((gC g (16 * k)).length = 0)) = false by rw [hb, Bool.false_and])
        rw [e2] at hR
        have nx := hkb (upd f k (nI 0), R) (by omega) ⟨hf2, hR⟩
        simp (disch := omega) only [l0, l1, l2, l3, l4, l5, l6, l7, l8, l9, l10, l11, l12, l16, l18, l19, l20, l21, l24, l96, l128, l100, l144, l200, l256, l288, l1536, l1728, l1800, bnd, nI_add, pk_mul, pI_sub, pI_m1, pT_le, pF_le, pT_lt, pF_lt, pT_eq, pF_eq, pF_m1, mF_eq, mT_eq, mT_lt, mF_le, lm1, rd_nI, wr_nI, cl_nI, pk_us, un_ne, pk_uLs, uL_ne, zI_uI, zI_uJ, zI_uA, zI_uB, zI_uR, zI_uN, zJ_uI, zJ_uJ, zJ_uA, zJ_uB, zJ_uR, zJ_uN, zA_uI, zA_uJ, zA_uA, zA_uB, zA_uR, zA_uN, zB_uI, zB_uJ, zB_uA, zB_uB, zB_uR, zB_uN, zR_uI, zR_uJ, zR_uA, zR_uB, zR_uR, zR_uN, zN_uI, zN_uJ, zN_uA, zN_uB, zN_uR, zN_uN, zI_ne, zJ_ne, zA_ne, zB_ne, zR_ne, zN_ne, bi_T, bi_F, nz16, ↓reduceIte, not_true_eq_false, not_false_eq_true, Bool.false_eq_true, reduceCtorEq, hin, uA_uA]
        exact nx
      | true =>
        rw [hb] at hin
        have hv := (al_vd hg hal hb).2
        have hc := c_hasCue hg (hj.se (SE.uA (q := 49) (f := upd f k (nI 0)) (by decide))) (s := 16 * k) (by omega)
        rw [hv, Bool.true_and] at hc
        by_cases h0 : (gC g (16 * k)).length = 0
        · rw [decide_eq_false (fun x => x h0)] at hc
          have e2 : rbF (fun r => t.testBit r && decide ((gC g (16 * r)).length = 0)) R k = R ||| 2 ^ k := rbF_T (show (t.testBit k && decide ((gC g (16 * k)).length = 0)) = true by rw [hb, decide_eq_true h0]; rfl)
          rw [e2] at hR
          have nx := hkb (upd f k (nI 0), R ||| 2 ^ k) (by omega) ⟨hf2, hR⟩
          simp (disch := omega) only [l0, l1, l2, l3, l4, l5, l6, l7, l8, l9, l10, l11, l12, l16, l18, l19, l20, l21, l24, l96, l128, l100, l144, l200, l256, l288, l1536, l1728, l1800, bnd, nI_add, pk_mul, pI_sub, pI_m1, pT_le, pF_le, pT_lt, pF_lt, pT_eq, pF_eq, pF_m1, mF_eq, mT_eq, mT_lt, mF_le, lm1, rd_nI, wr_nI, cl_nI, pk_us, un_ne, pk_uLs, uL_ne, zI_uI, zI_uJ, zI_uA, zI_uB, zI_uR, zI_uN, zJ_uI, zJ_uJ, zJ_uA, zJ_uB, zJ_uR, zJ_uN, zA_uI, zA_uJ, zA_uA, zA_uB, zA_uR, zA_uN, zB_uI, zB_uJ, zB_uA, zB_uB, zB_uR, zB_uN, zR_uI, zR_uJ, zR_uA, zR_uB, zR_uR, zR_uN, zN_uI, zN_uJ, zN_uA, zN_uB, zN_uR, zN_uN, zI_ne, zJ_ne, zA_ne, zB_ne, zR_ne, zN_ne, bi_T, bi_F, nz16, ↓reduceIte, not_true_eq_false, not_false_eq_true, Bool.false_eq_true, reduceCtorEq, hin, uA_uA, hc, or_I]
          exact nx
        · rw [decide_eq_true h0] at hc
          have e2 : rbF (fun r => t.testBit r && decide ((gC g (16 * r)).length = 0)) R k = R := rbF_F (show (t.testBit k && decide ((gC g (16 * k)).length = 0)) = false by rw [decide_eq_false h0, Bool.and_false])
          rw [e2] at hR
          have nx := hkb (upd f k (nI 0), R) (by omega) ⟨hf2, hR⟩
          simp (disch := omega) only [l0, l1, l2, l3, l4, l5, l6, l7, l8, l9, l10, l11, l12, l16, l18, l19, l20, l21, l24, l96, l128, l100, l144, l200, l256, l288, l1536, l1728, l1800, bnd, nI_add, pk_mul, pI_sub, pI_m1, pT_le, pF_le, pT_lt, pF_lt, pT_eq, pF_eq, pF_m1, mF_eq, mT_eq, mT_lt, mF_le, lm1, rd_nI, wr_nI, cl_nI, pk_us, un_ne, pk_uLs, uL_ne, zI_uI, zI_uJ, zI_uA, zI_uB, zI_uR, zI_uN, zJ_uI, zJ_uJ, zJ_uA, zJ_uB, zJ_uR, zJ_uN, zA_uI, zA_uJ, zA_uA, zA_uB, zA_uR, zA_uN, zB_uI, zB_uJ, zB_uA, zB_uB, zB_uR, zB_uN, zR_uI, zR_uJ, zR_uA, zR_uB, zR_uR, zR_uN, zN_uI, zN_uJ, zN_uA, zN_uB, zN_uR, zN_uN, zI_ne, zJ_ne, zA_ne, zB_ne, zR_ne, zN_ne, bi_T, bi_F, nz16, ↓reduceIte, not_true_eq_false, not_false_eq_true, Bool.false_eq_true, reduceCtorEq, hin, uA_uA, hc]
          exact nx
theorem c_behind {σ : St} {g : Gh} (hg : okG g) (hj : JC σ g) {t r s : Nat} {w : Nat → Nat} (hal : al g t = true) (hr : r < 8) (hs : vd g s = true) (h49 : ∀ j, j < 8 → zA σ 49 j = nI (w j)) (hw : ∀ j, j < 8 → w j ≤ 12) : fX8_readyBehind σ (nI s) (nI (oth t r)) = some (nI (rb (rbC g t w r s))) := by
  have ht := al_lt hg hal
  unfold fX8_readyBehind
  have key := it_for (β := Nat) (body := fun (kb : (Int32 × Int32) → Option Int32) (x : Int32 × Int32) => fX8_readyBehind_L5 (nI s) (nI (oth t r)) (fun v3 v4 => kb (v3, v4)) σ x.1 x.2) 8 (by omega) (fun k b => (nI b, nI k)) (fun k b => ((List.range 8).drop k).foldl (rbF (rbC g t w r s)) b = rb (rbC g t w r s)) (fun k b z => z = some (nI (rb (rbC g t w r s)))) ?_ 0 0 (Nat.zero_le _) rfl
  · exact key
  · intro k a hk hR kb hkb
    show fX8_readyBehind_L5 _ _ _ _ (nI a) (nI k) = _
    unfold fX8_readyBehind_L5
    by_cases hk8 : k = 8
    · have e1 : (List.range 8).drop k = [] := List.drop_of_length_le (by rw [List.length_range]; omega)
      rw [e1] at hR
      rw [← hR]
      simp (disch := omega) only [l0, l1, l2, l3, l4, l5, l6, l7, l8, l9, l10, l11, l12, l16, l18, l19, l20, l21, l24, l96, l128, l100, l144, l200, l256, l288, l1536, l1728, l1800, bnd, nI_add, pk_mul, pI_sub, pI_m1, pT_le, pF_le, pT_lt, pF_lt, pT_eq, pF_eq, pF_m1, mF_eq, mT_eq, mT_lt, mF_le, lm1, rd_nI, wr_nI, cl_nI, pk_us, un_ne, pk_uLs, uL_ne, zI_uI, zI_uJ, zI_uA, zI_uB, zI_uR, zI_uN, zJ_uI, zJ_uJ, zJ_uA, zJ_uB, zJ_uR, zJ_uN, zA_uI, zA_uJ, zA_uA, zA_uB, zA_uR, zA_uN, zB_uI, zB_uJ, zB_uA, zB_uB, zB_uR, zB_uN, zR_uI, zR_uJ, zR_uA, zR_uB, zR_uR, zR_uN, zN_uI, zN_uJ, zN_uA, zN_uB, zN_uR, zN_uN, zI_ne, zJ_ne, zA_ne, zB_ne, zR_ne, zN_ne, bi_T, bi_F, nz16, ↓reduceIte, not_true_eq_false, not_false_eq_true, Bool.false_eq_true, reduceCtorEq, hk8]
      rfl
    · rw [rng_drop (by omega), List.foldl_cons] at hR
      have h9 := h49 k (by omega)
      have hwk := hw k (by omega)
      have hin := c_isIn (t := oth t r) (r := k) (by have := oth_lt (r := r) ht; omega) (by omega)
      rw [decide_eq_true (show k < 8 by omega), Bool.true_and, oth_bit t hr (by omega)] at hin
      have hC : rbC g t w r s k = ((decide (k ≠ r) && t.testBit k) && (decide (w k < gS g k) && eg g (16 * k + w k) s)) := rfl
      have no : rbC g t w r s k = false → kb (nI a, nI (k + 1)) = some (nI (rb (rbC g t w r s))) := by
        intro hc
        have e2 : rbF (rbC g t w r s) a k = a := rbF_F hc
        rw [e2] at hR
        exact hkb a (by omega) hR
      cases hb : t.testBit k with
      | false =>
        rw [hb, Bool.false_and] at hin
        rw [hb, Bool.and_false, Bool.false_and] at hC
        simp (disch := omega) only [l0, l1, l2, l3, l4, l5, l6, l7, l8, l9, l10, l11, l12, l16, l18, l19, l20, l21, l24, l96, l128, l100, l144, l200, l256, l288, l1536, l1728, l1800, bnd, nI_add, pk_mul, pI_sub, pI_m1, pT_le, pF_le, pT_lt, pF_lt, pT_eq, pF_eq, pF_m1, mF_eq, mT_eq, mT_lt, mF_le, lm1, rd_nI, wr_nI, cl_nI, pk_us, un_ne, pk_uLs, uL_ne, zI_uI, zI_uJ, zI_uA, zI_uB, zI_uR, zI_uN, zJ_uI, zJ_uJ, zJ_uA, zJ_uB, zJ_uR, zJ_uN, zA_uI, zA_uJ, zA_uA, zA_uB, zA_uR, zA_uN, zB_uI, zB_uJ, zB_uA, zB_uB, zB_uR, zB_uN, zR_uI, zR_uJ, zR_uA, zR_uB, zR_uR, zR_uN, zN_uI, zN_uJ, zN_uA, zN_uB, zN_uR, zN_uN, zI_ne, zJ_ne, zA_ne, zB_ne, zR_ne, zN_ne, bi_T, bi_F, nz16, ↓reduceIte, not_true_eq_false, not_false_eq_true, Bool.false_eq_true, reduceCtorEq, h9, hin]
        exact no hC
      | true =>
        by_cases hkr : k = r
        · rw [decide_eq_false (fun x => x hkr), Bool.and_false] at hin
          rw [decide_eq_false (fun x => x hkr), Bool.false_and, Bool.false_and] at hC
          simp (disch := omega) only [l0, l1, l2, l3, l4, l5, l6, l7, l8, l9, l10, l11, l12, l16, l18, l19, l20, l21, l24, l96, l128, l100, l144, l200, l256, l288, l1536, l1728, l1800, bnd, nI_add, pk_mul, pI_sub, pI_m1, pT_le, pF_le, pT_lt, pF_lt, pT_eq, pF_eq, pF_m1, mF_eq, mT_eq, mT_lt, mF_le, lm1, rd_nI, wr_nI, cl_nI, pk_us, un_ne, pk_uLs, uL_ne, zI_uI, zI_uJ, zI_uA, zI_uB, zI_uR, zI_uN, zJ_uI, zJ_uJ, zJ_uA, zJ_uB, zJ_uR, zJ_uN, zA_uI, zA_uJ, zA_uA, zA_uB, zA_uR, zA_uN, zB_uI, zB_uJ, zB_uA, zB_uB, zB_uR, zB_uN, zR_uI, zR_uJ, zR_uA, zR_uB, zR_uR, zR_uN, zN_uI, zN_uJ, zN_uA, zN_uB, zN_uR, zN_uN, zI_ne, zJ_ne, zA_ne, zB_ne, zR_ne, zN_ne, bi_T, bi_F, nz16, ↓reduceIte, not_true_eq_false, not_false_eq_true, Bool.false_eq_true, reduceCtorEq, h9, hin]
          exact no hC
        · rw [decide_eq_true hkr, hb, Bool.and_true] at hin
          rw [decide_eq_true hkr, hb, Bool.true_and, Bool.true_and] at hC
          have hkN := al_bit hal hb
          have hsz := c_sizeOf hg hj hkN
          have h12 := (hg.2.1 k hkN).2
          by_cases hlt : w k < gS g k
          · have hv : vd g (16 * k + w k) = true := by
              rw [vd_iff, show (16 * k + w k) / 16 = k by omega, show (16 * k + w k) % 16 = w k by omega]
              exact ⟨hkN, hlt⟩
            have hcl := c_closes hg hj hv hs
            rw [decide_eq_true hlt, Bool.true_and] at hC
            cases he : eg g (16 * k + w k) s with
            | false =>
              rw [he] at hcl hC
              simp (disch := omega) only [l0, l1, l2, l3, l4, l5, l6, l7, l8, l9, l10, l11, l12, l16, l18, l19, l20, l21, l24, l96, l128, l100, l144, l200, l256, l288, l1536, l1728, l1800, bnd, nI_add, pk_mul, pI_sub, pI_m1, pT_le, pF_le, pT_lt, pF_lt, pT_eq, pF_eq, pF_m1, mF_eq, mT_eq, mT_lt, mF_le, lm1, rd_nI, wr_nI, cl_nI, pk_us, un_ne, pk_uLs, uL_ne, zI_uI, zI_uJ, zI_uA, zI_uB, zI_uR, zI_uN, zJ_uI, zJ_uJ, zJ_uA, zJ_uB, zJ_uR, zJ_uN, zA_uI, zA_uJ, zA_uA, zA_uB, zA_uR, zA_uN, zB_uI, zB_uJ, zB_uA, zB_uB, zB_uR, zB_uN, zR_uI, zR_uJ, zR_uA, zR_uB, zR_uR, zR_uN, zN_uI, zN_uJ, zN_uA, zN_uB, zN_uR, zN_uN, zI_ne, zJ_ne, zA_ne, zB_ne, zR_ne, zN_ne, bi_T, bi_F, nz16, ↓reduceIte, not_true_eq_false, not_false_eq_true, Bool.false_eq_true, reduceCtorEq, h9, hin, hsz, hcl]
              exact no hC
            | true =>
              rw [he] at hcl hC
              have e2 : rbF (rbC g t w r s) a k = a ||| 2 ^ k := rbF_T hC
              rw [e2] at hR
              have nx := hkb (a ||| 2 ^ k) (by omega) hR
              simp (disch := omega) only [l0, l1, l2, l3, l4, l5, l6, l7, l8, l9, l10, l11, l12, l16, l18, l19, l20, l21, l24, l96, l128, l100, l144, l200, l256, l288, l1536, l1728, l1800, bnd, nI_add, pk_mul, pI_sub, pI_m1, pT_le, pF_le, pT_lt, pF_lt, pT_eq, pF_eq, pF_m1, mF_eq, mT_eq, mT_lt, mF_le, lm1, rd_nI, wr_nI, cl_nI, pk_us, un_ne, pk_uLs, uL_ne, zI_uI, zI_uJ, zI_uA, zI_uB, zI_uR, zI_uN, zJ_uI, zJ_uJ, zJ_uA, zJ_uB, zJ_uR, zJ_uN, zA_uI, zA_uJ, zA_uA, zA_uB, zA_uR, zA_uN, zB_uI, zB_uJ, zB_uA, zB_uB, zB_uR, zB_uN, zR_uI, zR_uJ, zR_uA, zR_uB, zR_uR, zR_uN, zN_uI, zN_uJ, zN_uA, zN_uB, zN_uR, zN_uN, zI_ne, zJ_ne, zA_ne, zB_ne, zR_ne, zN_ne, bi_T, bi_F, nz16, ↓reduceIte, not_true_eq_false, not_false_eq_true, Bool.false_eq_true, reduceCtorEq, h9, hin, hsz, hcl, or_I]
              exact nx
          · rw [decide_eq_false hlt, Bool.false_and] at hC
            simp (disch := omega) only [l0, l1, l2, l3, l4, l5, l6, l7, l8, l9, l10, l11, l12, l16, l18, l19, l20, l21, l24, l96, l128, l100, l144, l200, l256, l288, l1536, l1728, l1800, bnd, nI_add, pk_mul, pI_sub, pI_m1, pT_le, pF_le, pT_lt, pF_lt, pT_eq, pF_eq, pF_m1, mF_eq, mT_eq, mT_lt, mF_le, lm1, rd_nI, wr_nI, cl_nI, pk_us, un_ne, pk_uLs, uL_ne, zI_uI, zI_uJ, zI_uA, zI_uB, zI_uR, zI_uN, zJ_uI, zJ_uJ, zJ_uA, zJ_uB, zJ_uR, zJ_uN, zA_uI, zA_uJ, zA_uA, zA_uB, zA_uR, zA_uN, zB_uI, zB_uJ, zB_uA, zB_uB, zB_uR, zB_uN, zR_uI, zR_uJ, zR_uA, zR_uB, zR_uR, zR_uN, zN_uI, zN_uJ, zN_uA, zN_uB, zN_uR, zN_uN, zI_ne, zJ_ne, zA_ne, zB_ne, zR_ne, zN_ne, bi_T, bi_F, nz16, ↓reduceIte, not_true_eq_false, not_false_eq_true, Bool.false_eq_true, reduceCtorEq, h9, hin, hsz]
            exact no hC
/-- what holds of those who wait -/
def wOk (g : Gh) (w : Nat → Nat) (R : Nat) : Prop := R < 256 ∧ (∀ j, w j ≤ 12) ∧ (∀ r, r < gN g → w r ≤ gS g r) ∧ ∀ r, R.testBit r = true → r < gN g ∧ w r < gS g r
theorem wOk_step {g : Gh} (hg : okG g) {t r : Nat} {w : Nat → Nat} {R : Nat} (hal : al g t = true) (h : wOk g w R) (hr : low R = some r) : vd g (16 * r + w r) = true ∧ wOk g (up w r (w r + 1)) (oth R r ||| rb (rbC g t (up w r (w r + 1)) r (16 * r + w r))) := by
  have h8 := low_some hr
  have h1 := h.2.2.2 r h8.2
  have h12 := (hg.2.1 r h1.1).2
  have hup : ∀ j, j ≠ r → up w r (w r + 1) j = w j := fun j hj => if_neg hj
  have hur : up w r (w r + 1) r = w r + 1 := if_pos rfl
  refine ⟨?_, ?_, ?_, ?_, ?_⟩
  · rw [vd_iff, show (16 * r + w r) / 16 = r by omega, show (16 * r + w r) % 16 = w r by omega]
    exact h1
  · exact Nat.or_lt_two_pow (n := 8) (oth_lt h.1) (rb_lt _)
  · intro j
    by_cases e : j = r
    · rw [e, hur]; omega
    · rw [hup j e]; exact h.2.1 j
  · intro j hj
    by_cases e : j = r
    · rw [e, hur]; omega
    · rw [hup j e]; exact h.2.2.1 j hj
  · intro q hq
    have hq8 : q < 8 := by
      by_cases hc : q < 8
      · exact hc
      · have hlt : oth R r ||| rb (rbC g t (up w r (w r + 1)) r (16 * r + w r)) < 256 := Nat.or_lt_two_pow (n := 8) (oth_lt h.1) (rb_lt _)
        rw [Nat.testBit_lt_two_pow (Nat.lt_of_lt_of_le hlt (show 2 ^ 8 ≤ 2 ^ q from Nat.pow_le_pow_right (by decide) (by omega)))] at hq
        cases hq
    rw [Nat.testBit_or, oth_bit R h8.1 hq8, rb_bit _ hq8, Bool.or_eq_true] at hq
    rcases hq with hq | hq
    · rw [Bool.and_eq_true] at hq
      have hne : q ≠ r := of_decide_eq_true hq.2
      rw [hup q hne]
      exact h.2.2.2 q hq.1
    · unfold rbC at hq
      rw [Bool.and_eq_true, Bool.and_eq_true, Bool.and_eq_true] at hq
      exact ⟨al_bit hal hq.1.2, of_decide_eq_true hq.2.1⟩
theorem wOk_0 {g : Gh} (hg : okG g) {t : Nat} (hal : al g t = true) : wOk g (fun _ => 0) (R0 g t) := by
  refine ⟨rb_lt _, fun _ => Nat.zero_le _, fun _ _ => Nat.zero_le _, fun r hr => ?_⟩
  have hr8 : r < 8 := by
    by_cases hc : r < 8
    · exact hc
    · have hlt : R0 g t < 256 := rb_lt _
      rw [Nat.testBit_lt_two_pow (Nat.lt_of_lt_of_le hlt (show 2 ^ 8 ≤ 2 ^ r from Nat.pow_le_pow_right (by decide) (by omega)))] at hr
      cases hr
  rw [R0_bit hr8, Bool.and_eq_true] at hr
  have h1 := al_bit hal hr.1
  exact ⟨h1, (hg.2.1 r h1).1⟩
/-- all that is said -/
def RES (g : Gh) (t : Nat) : List Nat := run g t 96 (fun _ => 0) (R0 g t)
theorem run_len (g : Gh) (t : Nat) : ∀ n w R, (run g t n w R).length ≤ n := by
  intro n
  induction n with
  | zero => intro w R; exact Nat.le_refl 0
  | succ n ih =>
    intro w R
    cases h : low R with
    | none => rw [run_n _ h]; exact Nat.zero_le _
    | some r => rw [run_s h, List.length_cons]; have := ih (up w r (w r + 1)) (oth R r ||| rb (rbC g t (up w r (w r + 1)) r (16 * r + w r))); omega
theorem c_rehearse {σ : St} {g : Gh} {lim : Nat} (h : RI σ g lim) {t : Nat} (hal : al g t = true) : ∃ τ, fX8_rehearseAll σ (nI t) = some τ ∧ SE σ τ ∧ zI τ 27 = nI (RES g t).length ∧ ∀ k, k < (RES g t).length → zA τ 48 k = nI ((RES g t).getD k 0) := by
  have hg := h.1
  have ht := al_lt hg hal
  have hR96 := run_len g t 96 (fun _ => 0) (R0 g t)
  obtain ⟨f0, e0, hf0⟩ := c_reh0 hg h.2.1 hal (fun s5 x6 => fX8_rehearseAll_P61 (nI t) (uI s5 27 (nI 0)) x6 (nI 0))
  have key := it_for (β := St × (Nat → Nat) × Nat × List Nat) (body := fun (kb : (St × Int32 × Int32) → Option St) (x : St × Int32 × Int32) => fX8_rehearseAll_L61 (nI t) (fun σ v2 v3 => kb (σ, v2, v3)) x.1 x.2.1 x.2.2) 96 (by omega) (fun i b => (b.1, nI b.2.2.1, nI i)) (fun i b => SE σ b.1 ∧ zI b.1 27 = nI i ∧ (∀ j, j < 8 → zA b.1 49 j = nI (b.2.1 j)) ∧ (∀ k, k < i → zA b.1 48 k = nI (b.2.2.2.getD k 0)) ∧ b.2.2.2.length = i ∧ wOk g b.2.1 b.2.2.1 ∧ b.2.2.2 ++ run g t (96 - i) b.2.1 b.2.2.1 = RES g t) (fun i b z => ∃ τ, z = some τ ∧ SE σ τ ∧ zI τ 27 = nI (RES g t).length ∧ ∀ k, k < (RES g t).length → zA τ 48 k = nI ((RES g t).getD k 0)) ?_ 0 (uI (uA σ 49 f0) 27 (nI 0), fun _ => 0, R0 g t, []) (Nat.zero_le _) ⟨(SE.uA (by decide)).tr (SE.uI (by decide)), rfl, fun j hj => hf0 j hj, fun k hk => absurd hk (Nat.not_lt_zero _), rfl, wOk_0 hg hal, rfl⟩
  · obtain ⟨τ, k1, k2⟩ := key
    refine ⟨τ, ?_, k2⟩
    unfold fX8_rehearseAll
    simp (disch := omega) only [l0, l1, l2, l3, l4, l5, l6, l7, l8, l9, l10, l11, l12, l16, l18, l19, l20, l21, l24, l96, l128, l100, l144, l200, l256, l288, l1536, l1728, l1800, bnd, nI_add, pk_mul, pI_sub, pI_m1, pT_le, pF_le, pT_lt, pF_lt, pT_eq, pF_eq, pF_m1, mF_eq, mT_eq, mT_lt, mF_le, lm1, rd_nI, wr_nI, cl_nI, pk_us, un_ne, pk_uLs, uL_ne, zI_uI, zI_uJ, zI_uA, zI_uB, zI_uR, zI_uN, zJ_uI, zJ_uJ, zJ_uA, zJ_uB, zJ_uR, zJ_uN, zA_uI, zA_uJ, zA_uA, zA_uB, zA_uR, zA_uN, zB_uI, zB_uJ, zB_uA, zB_uB, zB_uR, zB_uN, zR_uI, zR_uJ, zR_uA, zR_uB, zR_uR, zR_uN, zN_uI, zN_uJ, zN_uA, zN_uB, zN_uR, zN_uN, zI_ne, zJ_ne, zA_ne, zB_ne, zR_ne, zN_ne, bi_T, bi_F, nz16, ↓reduceIte, not_true_eq_false, not_false_eq_true, Bool.false_eq_true, reduceCtorEq]
    rw [e0]
    exact k1
  · rintro i ⟨τ, w, R, acc⟩ hi ⟨se, h27, h49, h48, hacc, hok, hres⟩ kb hkb
    have se : SE σ τ := se
    have h27 : zI τ 27 = nI i := h27
    have h49 : ∀ j, j < 8 → zA τ 49 j = nI (w j) := h49
    have h48 : ∀ k, k < i → zA τ 48 k = nI (acc.getD k 0) := h48
    have hacc : acc.length = i := hacc
    have hok : wOk g w R := hok
    have hres : acc ++ run g t (96 - i) w R = RES g t := hres
    have done : run g t (96 - i) w R = [] → ∃ υ, some τ = some υ ∧ SE σ υ ∧ zI υ 27 = nI (RES g t).length ∧ ∀ k, k < (RES g t).length → zA υ 48 k = nI ((RES g t).getD k 0) := by
      intro hn
      rw [hn, List.append_nil] at hres
      rw [← hres]
      exact ⟨τ, rfl, se, by rw [h27, hacc], fun k hk => h48 k (by omega)⟩
    show ∃ υ, fX8_rehearseAll_L61 _ _ τ (nI R) (nI i) = _ ∧ _
    unfold fX8_rehearseAll_L61
    by_cases hi96 : i = 96
    · obtain ⟨υ, d1, d2⟩ := done (by rw [hi96]; rfl)
      refine ⟨υ, ?_, d2⟩
      rw [← d1]
      simp (disch := omega) only [l0, l1, l2, l3, l4, l5, l6, l7, l8, l9, l10, l11, l12, l16, l18, l19, l20, l21, l24, l96, l128, l100, l144, l200, l256, l288, l1536, l1728, l1800, bnd, nI_add, pk_mul, pI_sub, pI_m1, pT_le, pF_le, pT_lt, pF_lt, pT_eq, pF_eq, pF_m1, mF_eq, mT_eq, mT_lt, mF_le, lm1, rd_nI, wr_nI, cl_nI, pk_us, un_ne, pk_uLs, uL_ne, zI_uI, zI_uJ, zI_uA, zI_uB, zI_uR, zI_uN, zJ_uI, zJ_uJ, zJ_uA, zJ_uB, zJ_uR, zJ_uN, zA_uI, zA_uJ, zA_uA, zA_uB, zA_uR, zA_uN, zB_uI, zB_uJ, zB_uA, zB_uB, zB_uR, zB_uN, zR_uI, zR_uJ, zR_uA, zR_uB, zR_uR, zR_uN, zN_uI, zN_uJ, zN_uA, zN_uB, zN_uR, zN_uN, zI_ne, zJ_ne, zA_ne, zB_ne, zR_ne, zN_ne, bi_T, bi_F, nz16, ↓reduceIte, not_true_eq_false, not_false_eq_true, Bool.false_eq_true, reduceCtorEq, hi96]
    · have hRlt := hok.1
      by_cases hR0 : R = 0
      · obtain ⟨υ, d1, d2⟩ := done (run_n _ ((low_none hok.1).mpr hR0))
        refine ⟨υ, ?_, d2⟩
        rw [← d1]
        simp (disch := omega) only [l0, l1, l2, l3, l4, l5, l6, l7, l8, l9, l10, l11, l12, l16, l18, l19, l20, l21, l24, l96, l128, l100, l144, l200, l256, l288, l1536, l1728, l1800, bnd, nI_add, pk_mul, pI_sub, pI_m1, pT_le, pF_le, pT_lt, pF_lt, pT_eq, pF_eq, pF_m1, mF_eq, mT_eq, mT_lt, mF_le, lm1, rd_nI, wr_nI, cl_nI, pk_us, un_ne, pk_uLs, uL_ne, zI_uI, zI_uJ, zI_uA, zI_uB, zI_uR, zI_uN, zJ_uI, zJ_uJ, zJ_uA, zJ_uB, zJ_uR, zJ_uN, zA_uI, zA_uJ, zA_uA, zA_uB, zA_uR, zA_uN, zB_uI, zB_uJ, zB_uA, zB_uB, zB_uR, zB_uN, zR_uI, zR_uJ, zR_uA, zR_uB, zR_uR, zR_uN, zN_uI, zN_uJ, zN_uA, zN_uB, zN_uR, zN_uN, zI_ne, zJ_ne, zA_ne, zB_ne, zR_ne, zN_ne, bi_T, bi_F, nz16, ↓reduceIte, not_true_eq_false, not_false_eq_true, Bool.false_eq_true, reduceCtorEq, hR0]
      · obtain ⟨r, hlow, hl2⟩ := c_low hok.1 hR0
        have h8 := (low_some hlow).1
        obtain ⟨hv, hok2⟩ := wOk_step hg hal hok hlow
        have hvl := vd_lt hg hv
        have hwr := hok.2.1 r
        have hr49 := h49 r h8
        obtain ⟨n, hn⟩ : ∃ n, 96 - i = n + 1 := ⟨96 - i - 1, by omega⟩
        rw [hn, run_s hlow] at hres
        -- the store behind this speech
        obtain ⟨τ2, hτ2⟩ : ∃ τ2, τ2 = uA (uI (uA τ 48 (upd (zA τ 48) i (nI (16 * r + w r)))) 27 (nI (i + 1))) 49 (upd (zA τ 49) r (nI (w r + 1))) := ⟨_, rfl⟩
        have se2 : SE σ τ2 := by
          rw [hτ2]
          exact se.tr (((SE.uA (by decide)).tr (SE.uI (by decide))).tr (SE.uA (by decide)))
        have a49 : ∀ j, j < 8 → zA τ2 49 j = nI (up w r (w r + 1) j) := by
          intro j hj
          rw [hτ2, zA_uA]
          by_cases e : j = r
          · rw [e, pk_us]
            unfold up
            rw [if_pos rfl]
          · rw [pk_un e, h49 j hj]
            unfold up
            rw [if_neg e]
        have a48 : zA τ2 48 = upd (zA τ 48) i (nI (16 * r + w r)) := by rw [hτ2]; rfl
        have a27 : zI τ2 27 = nI (i + 1) := by rw [hτ2]; rfl
        have k2 := h.se se2
        have hbe := c_behind hg k2.2.1 (w := up w r (w r + 1)) hal h8 hv a49 (fun j _ => hok2.2.1 j)
        have nx := hkb (τ2, up w r (w r + 1), oth R r ||| rb (rbC g t (up w r (w r + 1)) r (16 * r + w r)), acc ++ [16 * r + w r]) (by omega) ⟨se2, a27, a49, by
          intro k hk
          show zA τ2 48 k = nI ((acc ++ [16 * r + w r]).getD k 0)
          rw [a48]
          by_cases e : k = i
          · rw [e, pk_us, ← hacc, getD_snoc_eq]
          · rw [pk_un e, getD_snoc_lt (by omega)]
            exact h48 k (by omega), by
          show (acc ++ [16 * r + w r]).length = i + 1
          rw [List.length_append, List.length_singleton, hacc], hok2, by
          show (acc ++ [16 * r + w r]) ++ run g t (96 - (i + 1)) _ _ = RES g t
          rw [List.append_assoc, List.singleton_append, show 96 - (i + 1) = n by omega]
          exact hres⟩
        have e48 : zA τ2 48 i = nI (16 * r + w r) := by rw [a48, pk_us]
        have oR := oth_I R h8 hok.1
        have oT := oth_I t h8 ht
        simp (disch := omega) only [l0, l1, l2, l3, l4, l5, l6, l7, l8, l9, l10, l11, l12, l16, l18, l19, l20, l21, l24, l96, l128, l100, l144, l200, l256, l288, l1536, l1728, l1800, bnd, nI_add, pk_mul, pI_sub, pI_m1, pT_le, pF_le, pT_lt, pF_lt, pT_eq, pF_eq, pF_m1, mF_eq, mT_eq, mT_lt, mF_le, lm1, rd_nI, wr_nI, cl_nI, pk_us, un_ne, pk_uLs, uL_ne, zI_uI, zI_uJ, zI_uA, zI_uB, zI_uR, zI_uN, zJ_uI, zJ_uJ, zJ_uA, zJ_uB, zJ_uR, zJ_uN, zA_uI, zA_uJ, zA_uA, zA_uB, zA_uR, zA_uN, zB_uI, zB_uJ, zB_uA, zB_uB, zB_uR, zB_uN, zR_uI, zR_uJ, zR_uA, zR_uB, zR_uR, zR_uN, zN_uI, zN_uJ, zN_uA, zN_uB, zN_uR, zN_uN, zI_ne, zJ_ne, zA_ne, zB_ne, zR_ne, zN_ne, bi_T, bi_F, nz16, ↓reduceIte, not_true_eq_false, not_false_eq_true, Bool.false_eq_true, reduceCtorEq, hl2, hr49, h27]
        rw [← hτ2]
        simp (disch := omega) only [l0, l1, l2, l3, l4, l5, l6, l7, l8, l9, l10, l11, l12, l16, l18, l19, l20, l21, l24, l96, l128, l100, l144, l200, l256, l288, l1536, l1728, l1800, bnd, nI_add, pk_mul, pI_sub, pI_m1, pT_le, pF_le, pT_lt, pF_lt, pT_eq, pF_eq, pF_m1, mF_eq, mT_eq, mT_lt, mF_le, lm1, rd_nI, wr_nI, cl_nI, pk_us, un_ne, pk_uLs, uL_ne, zI_uI, zI_uJ, zI_uA, zI_uB, zI_uR, zI_uN, zJ_uI, zJ_uJ, zJ_uA, zJ_uB, zJ_uR, zJ_uN, zA_uI, zA_uJ, zA_uA, zA_uB, zA_uR, zA_uN, zB_uI, zB_uJ, zB_uA, zB_uB, zB_uR, zB_uN, zR_uI, zR_uJ, zR_uA, zR_uB, zR_uR, zR_uN, zN_uI, zN_uJ, zN_uA, zN_uB, zN_uR, zN_uN, zI_ne, zJ_ne, zA_ne, zB_ne, zR_ne, zN_ne, bi_T, bi_F, nz16, ↓reduceIte, not_true_eq_false, not_false_eq_true, Bool.false_eq_true, reduceCtorEq, e48, oT, hbe, oR, fa_or]
        exact nx
