/-! the rehearsal in the model; rehearse, soon -/
theorem m_low {σ : St} {g : Gh} (hg : okG g) (hj : JM σ g) {R : Nat} (hR : R < 256) (hN : ∀ r, R.testBit r = true → r < gN g) (h81 : ∀ r, r < gN g → zA σ 81 r = bi (R.testBit r)) : fX12_lowestReady σ = some (oI (low R)) := by
  have h32 := hj.1
  have hN8 := hg.1
  unfold fX12_lowestReady low
  have key := it_for (β := Unit) (body := fun (kb : Int32 → Option Int32) (x : Int32) => fX12_lowestReady_L2 (fun v1 => kb v1) σ x) (gN g) (by omega) (fun k _ => nI k) (fun _ _ => True) (fun k _ z => z = some (oI (((List.range 8).drop k).find? (fun r => R.testBit r)))) ?_ 0 () (Nat.zero_le _) trivial
  · exact key
  · intro k _ hk _ kb hkb
    show fX12_lowestReady_L2 _ _ (nI k) = _
    unfold fX12_lowestReady_L2
    by_cases hkn : k = gN g
    · have e1 : ((List.range 8).drop k).find? (fun r => R.testBit r) = none := by
        rw [List.find?_eq_none]
        intro r hr hb
        have h1 := hN r hb
        obtain ⟨i, hi, he⟩ := List.getElem_of_mem hr
        rw [List.getElem_drop, List.getElem_range] at he
        omega
      rw [e1]
      simp (disch := omega) only [l0, l1, l2, l3, l4, l5, l6, l7, l8, l9, l10, l11, l12, l16, l18, l19, l20, l21, l24, l96, l128, l100, l144, l200, l256, l288, l1536, l1728, l1800, bnd, nI_add, pk_mul, pI_sub, pI_m1, pT_le, pF_le, pT_lt, pF_lt, pT_eq, pF_eq, pF_m1, mF_eq, mT_eq, mT_lt, mF_le, lm1, rd_nI, wr_nI, cl_nI, pk_us, un_ne, pk_uLs, uL_ne, zI_uI, zI_uJ, zI_uA, zI_uB, zI_uR, zI_uN, zJ_uI, zJ_uJ, zJ_uA, zJ_uB, zJ_uR, zJ_uN, zA_uI, zA_uJ, zA_uA, zA_uB, zA_uR, zA_uN, zB_uI, zB_uJ, zB_uA, zB_uB, zB_uR, zB_uN, zR_uI, zR_uJ, zR_uA, zR_uB, zR_uR, zR_uN, zN_uI, zN_uJ, zN_uA, zN_uB, zN_uR, zN_uN, zI_ne, zJ_ne, zA_ne, zB_ne, zR_ne, zN_ne, bi_T, bi_F, nz16, ↓reduceIte, not_true_eq_false, not_false_eq_true, Bool.false_eq_true, reduceCtorEq, h32]
      rfl
    · have h8 := h81 k (by omega)
      rw [rng_drop (by omega)]
      cases hb : R.testBit k with
      | true =>
        rw [hb] at h8
        rw [List.find?_cons_of_pos (by rw [hb])]
        simp (disch := omega) only [l0, l1, l2, l3, l4, l5, l6, l7, l8, l9, l10, l11, l12, l16, l18, l19, l20, l21, l24, l96, l128, l100, l144, l200, l256, l288, l1536, l1728, l1800, bnd, nI_add, pk_mul, pI_sub, pI_m1, pT_le, pF_le, pT_lt, pF_lt, pT_eq, pF_eq, pF_m1, mF_eq, mT_eq, mT_lt, mF_le, lm1, rd_nI, wr_nI, cl_nI, pk_us, un_ne, pk_uLs, uL_ne, zI_uI, zI_uJ, zI_uA, zI_uB, zI_uR, zI_uN, zJ_uI, zJ_uJ, zJ_uA, zJ_uB, zJ_uR, zJ_uN, zA_uI, zA_uJ, zA_uA, zA_uB, zA_uR, zA_uN, zB_uI, zB_uJ, zB_uA, zB_uB, zB_uR, zB_uN, zR_uI, zR_uJ, zR_uA, zR_uB, zR_uR, zR_uN, zN_uI, zN_uJ, zN_uA, zN_uB, zN_uR, zN_uN, zI_ne, zJ_ne, zA_ne, zB_ne, zR_ne, zN_ne, bi_T, bi_F, nz16, ↓reduceIte, not_true_eq_false, not_false_eq_true, Bool.false_eq_true, reduceCtorEq, h32, h8]
        rfl
      | false =>
        rw [hb] at h8
        rw [List.find?_cons_of_neg (by rw [hb]; decide)]
        simp (disch := omega) only [l0, l1, l2, l3, l4, l5, l6, l7, l8, l9, l10, l11, l12, l16, l18, l19, l20, l21, l24, l96, l128, l100, l144, l200, l256, l288, l1536, l1728, l1800, bnd, nI_add, pk_mul, pI_sub, pI_m1, pT_le, pF_le, pT_lt, pF_lt, pT_eq, pF_eq, pF_m1, mF_eq, mT_eq, mT_lt, mF_le, lm1, rd_nI, wr_nI, cl_nI, pk_us, un_ne, pk_uLs, uL_ne, zI_uI, zI_uJ, zI_uA, zI_uB, zI_uR, zI_uN, zJ_uI, zJ_uJ, zJ_uA, zJ_uB, zJ_uR, zJ_uN, zA_uI, zA_uJ, zA_uA, zA_uB, zA_uR, zA_uN, zB_uI, zB_uJ, zB_uA, zB_uB, zB_uR, zB_uN, zR_uI, zR_uJ, zR_uA, zR_uB, zR_uR, zR_uN, zN_uI, zN_uJ, zN_uA, zN_uB, zN_uR, zN_uN, zI_ne, zJ_ne, zA_ne, zB_ne, zR_ne, zN_ne, bi_T, bi_F, nz16, ↓reduceIte, not_true_eq_false, not_false_eq_true, Bool.false_eq_true, reduceCtorEq, h32, h8]
        exact hkb () (by omega) trivial
theorem m_reh0 {σ : St} {g : Gh} (hg : okG g) (hj : JM σ g) {t : Nat} (hal : al g t = true) (k1 : St → Option St) : ∃ f f', fX12_goRehearsal_P7 (nI t) k1 σ (nI 0) = k1 (uA (uA σ 80 f) 81 f') ∧ (∀ j, j < gN g → f j = nI 0) ∧ ∀ j, j < gN g → f' j = bi ((R0 g t).testBit j) := by
  have ht := al_lt hg hal
  have h32 := hj.1
  have hN := hg.1
  have key := it_for (β := (Nat → Int32) × (Nat → Int32)) (body := fun (kb : (St × Int32) → Option St) (x : St × Int32) => fX12_goRehearsal_L7 (nI t) k1 (fun σ v2 => kb (σ, v2)) x.1 x.2) (gN g) (by omega) (fun k b => (uA (uA σ 80 b.1) 81 b.2, nI k)) (fun k b => (∀ j, j < k → b.1 j = nI 0) ∧ ∀ j, j < k → b.2 j = bi ((R0 g t).testBit j)) (fun k b z => ∃ f f', z = k1 (uA (uA σ 80 f) 81 f') ∧ (∀ j, j < gN g → f j = nI 0) ∧ ∀ j, j < gN g → f' j = bi ((R0 g t).testBit j)) ?_ 0 (zA σ 80, zA σ 81) (Nat.zero_le _) ⟨fun j h => absurd h (Nat.not_lt_zero _), fun j h => absurd h (Nat.not_lt_zero _)⟩
  · have e1 : uA (uA σ 80 (zA σ 80)) 81 (zA σ 81) = σ := by rw [uA_self, uA_self]
    simp only [e1] at key
    exact key
  · rintro k ⟨f, f'⟩ hk ⟨hf, hf'⟩ kb hkb
    have hf : ∀ j, j < k → f j = nI 0 := hf
    have hf' : ∀ j, j < k → f' j = bi ((R0 g t).testBit j) := hf'
    show ∃ f2 f2', fX12_goRehearsal_L7 _ _ _ (uA (uA σ 80 f) 81 f') (nI k) = _ ∧ _
    unfold fX12_goRehearsal_L7
    by_cases hkn : k = gN g
    · refine ⟨f, f', ?_, fun j hj => hf j (by omega), fun j hj => hf' j (by omega)⟩
      simp (disch := omega) only [l0, l1, l2, l3, l4, l5, l6, l7, l8, l9, l10, l11, l12, l16, l18, l19, l20, l21, l24, l96, l128, l100, l144, l200, l256, l288, l1536, l1728, l1800, bnd, nI_add, pk_mul, pI_sub, pI_m1, pT_le, pF_le, pT_lt, pF_lt, pT_eq, pF_eq, pF_m1, mF_eq, mT_eq, mT_lt, mF_le, lm1, rd_nI, wr_nI, cl_nI, pk_us, un_ne, pk_uLs, uL_ne, zI_uI, zI_uJ, zI_uA, zI_uB, zI_uR, zI_uN, zJ_uI, zJ_uJ, zJ_uA, zJ_uB, zJ_uR, zJ_uN, zA_uI, zA_uJ, zA_uA, zA_uB, zA_uR, zA_uN, zB_uI, zB_uJ, zB_uA, zB_uB, zB_uR, zB_uN, zR_uI, zR_uJ, zR_uA, zR_uB, zR_uR, zR_uN, zN_uI, zN_uJ, zN_uA, zN_uB, zN_uR, zN_uN, zI_ne, zJ_ne, zA_ne, zB_ne, zR_ne, zN_ne, bi_T, bi_F, nz16, ↓reduceIte, not_true_eq_false, not_false_eq_true, Bool.false_eq_true, reduceCtorEq, h32]
    · have comm : ∀ (x y : Nat → Int32), uA (uA (uA σ 80 f) 81 f') 80 x = uA (uA σ 80 x) 81 f' := by
        intro x y
        unfold uA
        congr 3
        funext q
        unfold va_up
        by_cases e80 : q = 80
        · subst e80; simp
        · by_cases e81 : q = 81
          · subst e81; simp
          · simp [e80, e81]
      have fin : ∀ b : Bool, (R0 g t).testBit k = b → ∃ f2 f2', kb (uA (uA σ 80 (upd f k (nI 0))) 81 (upd f' k (bi b)), nI (k + 1)) = k1 (uA (uA σ 80 f2) 81 f2') ∧ (∀ j, j < gN g → f2 j = nI 0) ∧ ∀ j, j < gN g → f2' j = bi ((R0 g t).testBit j) := by
        intro b hb
        refine hkb (upd f k (nI 0), upd f' k (bi b)) (by omega) ⟨fun j hj => ?_, fun j hj => ?_⟩
        · show upd f k (nI 0) j = nI 0
          by_cases e : j = k
          · rw [e, pk_us]
          · rw [pk_un e]; exact hf j (by omega)
        · show upd f' k (bi b) j = _
          by_cases e : j = k
          · rw [e, pk_us, hb]
          · rw [pk_un e]; exact hf' j (by omega)
      have hh := m_has (t := t) (r := k) (by omega) (by omega)
      have hbit := R0_bit (g := g) (t := t) (r := k) (by omega)
      have v0 : vp_nar .boolean (nI 0) = nI 0 := vnb0
      have v1 : vp_nar .boolean (nI 1) = nI 1 := vnb1
      cases hb : t.testBit k with
      | false =>
        rw [hb] at hh
        rw [hb, Bool.false_and] at hbit
        have nx := fin false hbit
        rw [bi_F] at nx
        simp (disch := omega) only [l0, l1, l2, l3, l4, l5, l6, l7, l8, l9, l10, l11, l12, l16, l18, l19, l20, l21, l24, l96, l128, l100, l144, l200, l256, l288, l1536, l1728, l1800, bnd, nI_add, pk_mul, pI_sub, pI_m1, pT_le, pF_le, pT_lt, pF_lt, pT_eq, pF_eq, pF_m1, mF_eq, mT_eq, mT_lt, mF_le, lm1, rd_nI, wr_nI, cl_nI, pk_us, un_ne, pk_uLs, uL_ne, zI_uI, zI_uJ, zI_uA, zI_uB, zI_uR, zI_uN, zJ_uI, zJ_uJ, zJ_uA, zJ_uB, zJ_uR, zJ_uN, zA_uI, zA_uJ, zA_uA, zA_uB, zA_uR, zA_uN, zB_uI, zB_uJ, zB_uA, zB_uB, zB_uR, zB_uN, zR_uI, zR_uJ, zR_uA, zR_uB, zR_uR, zR_uN, zN_uI, zN_uJ, zN_uA, zN_uB, zN_uR, zN_uN, zI_ne, zJ_ne, zA_ne, zB_ne, zR_ne, zN_ne, bi_T, bi_F, nz16, ↓reduceIte, not_true_eq_false, not_false_eq_true, Bool.false_eq_true, reduceCtorEq, h32, hh, v0]
        rw [comm (upd f k (nI 0)) f', uA_uA]
        exact nx
      | true =>
        rw [hb] at hh
        rw [hb, Bool.true_and] at hbit
        have hv := (al_vd hg hal hb).2
        have h61 := (hj.2.2 _ hv).1
        have hc2 := (vd_ok hg hv).1
        by_cases h0 : (gC g (16 * k)).length = 0
        · rw [decide_eq_true h0] at hbit
          have nx := fin true hbit
          rw [bi_T] at nx
          simp (disch := omega) only [l0, l1, l2, l3, l4, l5, l6, l7, l8, l9, l10, l11, l12, l16, l18, l19, l20, l21, l24, l96, l128, l100, l144, l200, l256, l288, l1536, l1728, l1800, bnd, nI_add, pk_mul, pI_sub, pI_m1, pT_le, pF_le, pT_lt, pF_lt, pT_eq, pF_eq, pF_m1, mF_eq, mT_eq, mT_lt, mF_le, lm1, rd_nI, wr_nI, cl_nI, pk_us, un_ne, pk_uLs, uL_ne, zI_uI, zI_uJ, zI_uA, zI_uB, zI_uR, zI_uN, zJ_uI, zJ_uJ, zJ_uA, zJ_uB, zJ_uR, zJ_uN, zA_uI, zA_uJ, zA_uA, zA_uB, zA_uR, zA_uN, zB_uI, zB_uJ, zB_uA, zB_uB, zB_uR, zB_uN, zR_uI, zR_uJ, zR_uA, zR_uB, zR_uR, zR_uN, zN_uI, zN_uJ, zN_uA, zN_uB, zN_uR, zN_uN, zI_ne, zJ_ne, zA_ne, zB_ne, zR_ne, zN_ne, bi_T, bi_F, nz16, ↓reduceIte, not_true_eq_false, not_false_eq_true, Bool.false_eq_true, reduceCtorEq, h32, hh, h61, h0, v1]
          rw [comm (upd f k (nI 0)) f', uA_uA]
          exact nx
        · rw [decide_eq_false h0] at hbit
          have nx := fin false hbit
          rw [bi_F] at nx
          simp (disch := omega) only [l0, l1, l2, l3, l4, l5, l6, l7, l8, l9, l10, l11, l12, l16, l18, l19, l20, l21, l24, l96, l128, l100, l144, l200, l256, l288, l1536, l1728, l1800, bnd, nI_add, pk_mul, pI_sub, pI_m1, pT_le, pF_le, pT_lt, pF_lt, pT_eq, pF_eq, pF_m1, mF_eq, mT_eq, mT_lt, mF_le, lm1, rd_nI, wr_nI, cl_nI, pk_us, un_ne, pk_uLs, uL_ne, zI_uI, zI_uJ, zI_uA, zI_uB, zI_uR, zI_uN, zJ_uI, zJ_uJ, zJ_uA, zJ_uB, zJ_uR, zJ_uN, zA_uI, zA_uJ, zA_uA, zA_uB, zA_uR, zA_uN, zB_uI, zB_uJ, zB_uA, zB_uB, zB_uR, zB_uN, zR_uI, zR_uJ, zR_uA, zR_uB, zR_uR, zR_uN, zN_uI, zN_uJ, zN_uA, zN_uB, zN_uR, zN_uN, zI_ne, zJ_ne, zA_ne, zB_ne, zR_ne, zN_ne, bi_T, bi_F, nz16, ↓reduceIte, not_true_eq_false, not_false_eq_true, Bool.false_eq_true, reduceCtorEq, h32, hh, h61, v0]
          rw [comm (upd f k (nI 0)) f', uA_uA]
          exact nx
/-- those behind a speech get ready -/
theorem m_ready {σ : St} {g : Gh} (hg : okG g) (hj : JM σ g) {t r s R1 : Nat} {w : Nat → Nat} (hal : al g t = true) (hr : r < 8) (hs : vd g s = true) (h80 : ∀ j, j < gN g → zA σ 80 j = nI (w j)) (hw : ∀ j, w j ≤ 12) (h81 : ∀ j, j < gN g → zA σ 81 j = bi (R1.testBit j)) (k1 : St → Option St) : ∃ f, fX12_goRehearsal_P121 (nI t) (nI r) (nI s) k1 σ (nI 0) = k1 (uA σ 81 f) ∧ ∀ j, j < gN g → f j = bi ((R1 ||| rb (rbC g t w r s)).testBit j) := by
  have ht := al_lt hg hal
  have h32 := hj.1
  have hN := hg.1
  have key := it_for (β := Nat → Int32) (body := fun (kb : (St × Int32) → Option St) (x : St × Int32) => fX12_goRehearsal_L121 (nI t) (nI r) (nI s) k1 (fun σ v4 => kb (σ, v4)) x.1 x.2) (gN g) (by omega) (fun k f => (uA σ 81 f, nI k)) (fun k f => (∀ j, j < k → f j = bi ((R1 ||| rb (rbC g t w r s)).testBit j)) ∧ ∀ j, k ≤ j → j < gN g → f j = bi (R1.testBit j)) (fun k b z => ∃ f, z = k1 (uA σ 81 f) ∧ ∀ j, j < gN g → f j = bi ((R1 ||| rb (rbC g t w r s)).testBit j)) ?_ 0 (zA σ 81) (Nat.zero_le _) ⟨fun j h => absurd h (Nat.not_lt_zero _), fun j _ h => h81 j h⟩
  · have e1 : uA σ 81 (zA σ 81) = σ := uA_self σ 81
    simp only [e1] at key
    exact key
  · intro k f hk hf kb hkb
    show ∃ f2, fX12_goRehearsal_L121 _ _ _ _ _ (uA σ 81 f) (nI k) = _ ∧ _
    unfold fX12_goRehearsal_L121
    by_cases hkn : k = gN g
    · refine ⟨f, ?_, fun j hj => hf.1 j (by omega)⟩
      simp (disch := omega) only [l0, l1, l2, l3, l4, l5, l6, l7, l8, l9, l10, l11, l12, l16, l18, l19, l20, l21, l24, l96, l128, l100, l144, l200, l256, l288, l1536, l1728, l1800, bnd, nI_add, pk_mul, pI_sub, pI_m1, pT_le, pF_le, pT_lt, pF_lt, pT_eq, pF_eq, pF_m1, mF_eq, mT_eq, mT_lt, mF_le, lm1, rd_nI, wr_nI, cl_nI, pk_us, un_ne, pk_uLs, uL_ne, zI_uI, zI_uJ, zI_uA, zI_uB, zI_uR, zI_uN, zJ_uI, zJ_uJ, zJ_uA, zJ_uB, zJ_uR, zJ_uN, zA_uI, zA_uJ, zA_uA, zA_uB, zA_uR, zA_uN, zB_uI, zB_uJ, zB_uA, zB_uB, zB_uR, zB_uN, zR_uI, zR_uJ, zR_uA, zR_uB, zR_uR, zR_uN, zN_uI, zN_uJ, zN_uA, zN_uB, zN_uR, zN_uN, zI_ne, zJ_ne, zA_ne, zB_ne, zR_ne, zN_ne, bi_T, bi_F, nz16, ↓reduceIte, not_true_eq_false, not_false_eq_true, Bool.false_eq_true, reduceCtorEq, h32]
    · have hb9 : (R1 ||| rb (rbC g t w r s)).testBit k = (R1.testBit k || rbC g t w r s k) := by rw [Nat.testBit_or, rb_bit _ (by omega)]
      have hC : rbC g t w r s k = ((decide (k ≠ r) && t.testBit k) && (decide (w k < gS g k) && eg g (16 * k + w k) s)) := rfl
      have hfk := hf.2 k (Nat.le_refl _) (by omega)
      have no : rbC g t w r s k = false → ∃ f2, kb (uA σ 81 f, nI (k + 1)) = k1 (uA σ 81 f2) ∧ ∀ j, j < gN g → f2 j = bi ((R1 ||| rb (rbC g t w r s)).testBit j) := by
        intro hc
        refine hkb f (by omega) ⟨fun j hj => ?_, fun j h1 h2 => hf.2 j (by omega) h2⟩
        by_cases e : j = k
        · rw [e, hb9, hc, Bool.or_false]; exact hfk
        · exact hf.1 j (by omega)
      have yes : rbC g t w r s k = true → ∃ f2, kb (uA σ 81 (upd f k (nI 1)), nI (k + 1)) = k1 (uA σ 81 f2) ∧ ∀ j, j < gN g → f2 j = bi ((R1 ||| rb (rbC g t w r s)).testBit j) := by
        intro hc
        refine hkb _ (by omega) ⟨fun j hj => ?_, fun j h1 h2 => ?_⟩
        · by_cases e : j = k
          · rw [e, pk_us, hb9, hc, Bool.or_true]; rfl
          · rw [pk_un e]; exact hf.1 j (by omega)
        · rw [pk_un (by omega)]; exact hf.2 j (by omega) h2
      have h9 := h80 k (by omega)
      have hwk := hw k
      have hh := m_has (t := t) (r := k) (by omega) (by omega)
      by_cases hkr : k = r
      · rw [decide_eq_false (fun x => x hkr), Bool.false_and, Bool.false_and] at hC
        have he : (nI k = nI r) = True := eq_true (by rw [hkr])
        simp (disch := omega) only [l0, l1, l2, l3, l4, l5, l6, l7, l8, l9, l10, l11, l12, l16, l18, l19, l20, l21, l24, l96, l128, l100, l144, l200, l256, l288, l1536, l1728, l1800, bnd, nI_add, pk_mul, pI_sub, pI_m1, pT_le, pF_le, pT_lt, pF_lt, pT_eq, pF_eq, pF_m1, mF_eq, mT_eq, mT_lt, mF_le, lm1, rd_nI, wr_nI, cl_nI, pk_us, un_ne, pk_uLs, uL_ne, zI_uI, zI_uJ, zI_uA, zI_uB, zI_uR, zI_uN, zJ_uI, zJ_uJ, zJ_uA, zJ_uB, zJ_uR, zJ_uN, zA_uI, zA_uJ, zA_uA, zA_uB, zA_uR, zA_uN, zB_uI, zB_uJ, zB_uA, zB_uB, zB_uR, zB_uN, zR_uI, zR_uJ, zR_uA, zR_uB, zR_uR, zR_uN, zN_uI, zN_uJ, zN_uA, zN_uB, zN_uR, zN_uN, zI_ne, zJ_ne, zA_ne, zB_ne, zR_ne, zN_ne, bi_T, bi_F, nz16, ↓reduceIte, not_true_eq_false, not_false_eq_true, Bool.false_eq_true, reduceCtorEq, h32, he]
        exact no hC
      · rw [decide_eq_true hkr, Bool.true_and] at hC
        cases hb : t.testBit k with
        | false =>
          rw [hb] at hh
          rw [hb, Bool.false_and] at hC
          simp (disch := omega) only [l0, l1, l2, l3, l4, l5, l6, l7, l8, l9, l10, l11, l12, l16, l18, l19, l20, l21, l24, l96, l128, l100, l144, l200, l256, l288, l1536, l1728, l1800, bnd, nI_add, pk_mul, pI_sub, pI_m1, pT_le, pF_le, pT_lt, pF_lt, pT_eq, pF_eq, pF_m1, mF_eq, mT_eq, mT_lt, mF_le, lm1, rd_nI, wr_nI, cl_nI, pk_us, un_ne, pk_uLs, uL_ne, zI_uI, zI_uJ, zI_uA, zI_uB, zI_uR, zI_uN, zJ_uI, zJ_uJ, zJ_uA, zJ_uB, zJ_uR, zJ_uN, zA_uI, zA_uJ, zA_uA, zA_uB, zA_uR, zA_uN, zB_uI, zB_uJ, zB_uA, zB_uB, zB_uR, zB_uN, zR_uI, zR_uJ, zR_uA, zR_uB, zR_uR, zR_uN, zN_uI, zN_uJ, zN_uA, zN_uB, zN_uR, zN_uN, zI_ne, zJ_ne, zA_ne, zB_ne, zR_ne, zN_ne, bi_T, bi_F, nz16, ↓reduceIte, not_true_eq_false, not_false_eq_true, Bool.false_eq_true, reduceCtorEq, h32, hh]
          exact no hC
        | true =>
          rw [hb] at hh
          rw [hb, Bool.true_and] at hC
          have hkN := al_bit hal hb
          have h60 := hj.2.1 k hkN
          have h12 := (hg.2.1 k hkN).2
          by_cases hlt : w k < gS g k
          · have hv : vd g (16 * k + w k) = true := by
              rw [vd_iff, show (16 * k + w k) / 16 = k by omega, show (16 * k + w k) % 16 = w k by omega]
              exact ⟨hkN, hlt⟩
            have hcl := m_endsIt hg (hj.se (SE.uA (q := 81) (f := f) (by decide))) hv hs
            rw [decide_eq_true hlt, Bool.true_and] at hC
            cases he : eg g (16 * k + w k) s with
            | false =>
              rw [he] at hcl hC
              simp (disch := omega) only [l0, l1, l2, l3, l4, l5, l6, l7, l8, l9, l10, l11, l12, l16, l18, l19, l20, l21, l24, l96, l128, l100, l144, l200, l256, l288, l1536, l1728, l1800, bnd, nI_add, pk_mul, pI_sub, pI_m1, pT_le, pF_le, pT_lt, pF_lt, pT_eq, pF_eq, pF_m1, mF_eq, mT_eq, mT_lt, mF_le, lm1, rd_nI, wr_nI, cl_nI, pk_us, un_ne, pk_uLs, uL_ne, zI_uI, zI_uJ, zI_uA, zI_uB, zI_uR, zI_uN, zJ_uI, zJ_uJ, zJ_uA, zJ_uB, zJ_uR, zJ_uN, zA_uI, zA_uJ, zA_uA, zA_uB, zA_uR, zA_uN, zB_uI, zB_uJ, zB_uA, zB_uB, zB_uR, zB_uN, zR_uI, zR_uJ, zR_uA, zR_uB, zR_uR, zR_uN, zN_uI, zN_uJ, zN_uA, zN_uB, zN_uR, zN_uN, zI_ne, zJ_ne, zA_ne, zB_ne, zR_ne, zN_ne, bi_T, bi_F, nz16, ↓reduceIte, not_true_eq_false, not_false_eq_true, Bool.false_eq_true, reduceCtorEq, h32, hh, h9, h60, hcl]
              exact no hC
            | true =>
              rw [he] at hcl hC
              simp (disch := omega) only [l0, l1, l2, l3, l4, l5, l6, l7, l8, l9, l10, l11, l12, l16, l18, l19, l20, l21, l24, l96, l128, l100, l144, l200, l256, l288, l1536, l1728, l1800, bnd, nI_add, pk_mul, pI_sub, pI_m1, pT_le, pF_le, pT_lt, pF_lt, pT_eq, pF_eq, pF_m1, mF_eq, mT_eq, mT_lt, mF_le, lm1, rd_nI, wr_nI, cl_nI, pk_us, un_ne, pk_uLs, uL_ne, zI_uI, zI_uJ, zI_uA, zI_uB, zI_uR, zI_uN, zJ_uI, zJ_uJ, zJ_uA, zJ_uB, zJ_uR, zJ_uN, zA_uI, zA_uJ, zA_uA, zA_uB, zA_uR, zA_uN, zB_uI, zB_uJ, zB_uA, zB_uB, zB_uR, zB_uN, zR_uI, zR_uJ, zR_uA, zR_uB, zR_uR, zR_uN, zN_uI, zN_uJ, zN_uA, zN_uB, zN_uR, zN_uN, zI_ne, zJ_ne, zA_ne, zB_ne, zR_ne, zN_ne, bi_T, bi_F, nz16, ↓reduceIte, not_true_eq_false, not_false_eq_true, Bool.false_eq_true, reduceCtorEq, h32, hh, h9, h60, hcl, vnb1, uA_uA]
              exact yes hC
          · rw [decide_eq_false hlt, Bool.false_and] at hC
            simp (disch := omega) only [l0, l1, l2, l3, l4, l5, l6, l7, l8, l9, l10, l11, l12, l16, l18, l19, l20, l21, l24, l96, l128, l100, l144, l200, l256, l288, l1536, l1728, l1800, bnd, nI_add, pk_mul, pI_sub, pI_m1, pT_le, pF_le, pT_lt, pF_lt, pT_eq, pF_eq, pF_m1, mF_eq, mT_eq, mT_lt, mF_le, lm1, rd_nI, wr_nI, cl_nI, pk_us, un_ne, pk_uLs, uL_ne, zI_uI, zI_uJ, zI_uA, zI_uB, zI_uR, zI_uN, zJ_uI, zJ_uJ, zJ_uA, zJ_uB, zJ_uR, zJ_uN, zA_uI, zA_uJ, zA_uA, zA_uB, zA_uR, zA_uN, zB_uI, zB_uJ, zB_uA, zB_uB, zB_uR, zB_uN, zR_uI, zR_uJ, zR_uA, zR_uB, zR_uR, zR_uN, zN_uI, zN_uJ, zN_uA, zN_uB, zN_uR, zN_uN, zI_ne, zJ_ne, zA_ne, zB_ne, zR_ne, zN_ne, bi_T, bi_F, nz16, ↓reduceIte, not_true_eq_false, not_false_eq_true, Bool.false_eq_true, reduceCtorEq, h32, hh, h9, h60]
            exact no hC
def Mw (g : Gh) (w : Nat → Nat) : Nat := fb_sm (fun r => gS g r - w r) (gN g)
theorem Mw_step {g : Gh} {w : Nat → Nat} {r : Nat} (hr : r < gN g) (hw : w r < gS g r) : Mw g (up w r (w r + 1)) + 1 = Mw g w := by
  have h := fb_sm_upd (fun k => gS g k - w k) (gS g r - (w r + 1)) hr
  have e : fb_sm (fun k => gS g k - up w r (w r + 1) k) (gN g) = fb_sm (fun k => if k = r then gS g r - (w r + 1) else gS g k - w k) (gN g) := by
    apply fb_sm_cong
    intro k _
    unfold up
    by_cases hk : k = r
    · rw [if_pos hk, if_pos hk, hk]
    · rw [if_neg hk, if_neg hk]
  unfold Mw
  rw [e]
  omega
theorem Mw_pos {g : Gh} {w : Nat → Nat} {r : Nat} (hr : r < gN g) (hw : w r < gS g r) : 1 ≤ Mw g w := by
  have := Mw_step hr hw
  omega
theorem Mw_0 {g : Gh} (hg : okG g) : Mw g (fun _ => 0) ≤ 96 := by
  have h := fb_sm_bound (f := fun r => gS g r - 0) (c := 12) (n := gN g) (fun k hk => by have := (hg.2.1 k hk).2; omega)
  have h2 := hg.1
  have h3 : gN g * 12 ≤ 8 * 12 := Nat.mul_le_mul_right _ h2
  show fb_sm (fun r => gS g r - 0) (gN g) ≤ 96
  omega
theorem m_rehearse {σ : St} {g : Gh} {lim : Nat} (h : RI σ g lim) {t : Nat} (hal : al g t = true) : ∃ τ, fX12_goRehearsal σ (nI t) = some τ ∧ SE σ τ ∧ zI τ 49 = nI (RES g t).length ∧ ∀ k, k < (RES g t).length → zA τ 79 k = nI ((RES g t).getD k 0) := by
  have hg := h.1
  have ht := al_lt hg hal
  have hN := hg.1
  have hR96 := run_len g t 96 (fun _ => 0) (R0 g t)
  have hj1 : JM (uI σ 49 (nI 0)) g := h.2.2.1.se (SE.uI (by decide))
  obtain ⟨f0, f1, e0, hf0, hf1⟩ := m_reh0 hg hj1 hal (fun s8 => (fX12_lowestReady s8).bind fun x9 => fX12_goRehearsal_P64 (nI t) s8 x9)
  have seS : SE σ (uA (uA (uI σ 49 (nI 0)) 80 f0) 81 f1) := ((SE.uI (by decide)).tr (SE.uA (by decide))).tr (SE.uA (by decide))
  have hok0 := wOk_0 hg hal
  have hl0 := m_low hg (h.2.2.1.se seS) hok0.1 (fun r hr => (hok0.2.2.2 r hr).1) (fun r hr => hf1 r hr)
  have key := it_for (β := St × (Nat → Nat) × Nat × List Nat) (body := fun (kb : (St × Int32) → Option St) (x : St × Int32) => fX12_goRehearsal_L64 (nI t) (fun σ v2 => kb (σ, v2)) x.1 x.2) 96 (by omega) (fun i b => (b.1, oI (low b.2.2.1))) (fun i b => SE σ b.1 ∧ zI b.1 49 = nI i ∧ (∀ j, j < gN g → zA b.1 80 j = nI (b.2.1 j)) ∧ (∀ j, j < gN g → zA b.1 81 j = bi (b.2.2.1.testBit j)) ∧ (∀ k, k < i → zA b.1 79 k = nI (b.2.2.2.getD k 0)) ∧ b.2.2.2.length = i ∧ wOk g b.2.1 b.2.2.1 ∧ b.2.2.2 ++ run g t (96 - i) b.2.1 b.2.2.1 = RES g t ∧ Mw g b.2.1 ≤ 96 - i) (fun i b z => ∃ τ, z = some τ ∧ SE σ τ ∧ zI τ 49 = nI (RES g t).length ∧ ∀ k, k < (RES g t).length → zA τ 79 k = nI ((RES g t).getD k 0)) ?_ 0 (uA (uA (uI σ 49 (nI 0)) 80 f0) 81 f1, fun _ => 0, R0 g t, []) (Nat.zero_le _) ⟨seS, rfl, fun j hj => hf0 j hj, fun j hj => hf1 j hj, fun k hk => absurd hk (Nat.not_lt_zero _), rfl, hok0, rfl, Mw_0 hg⟩
  · obtain ⟨τ, k1, k2⟩ := key
    refine ⟨τ, ?_, k2⟩
    unfold fX12_goRehearsal
    simp (disch := omega) only [l0, l1, l2, l3, l4, l5, l6, l7, l8, l9, l10, l11, l12, l16, l18, l19, l20, l21, l24, l96, l128, l100, l144, l200, l256, l288, l1536, l1728, l1800, bnd, nI_add, pk_mul, pI_sub, pI_m1, pT_le, pF_le, pT_lt, pF_lt, pT_eq, pF_eq, pF_m1, mF_eq, mT_eq, mT_lt, mF_le, lm1, rd_nI, wr_nI, cl_nI, pk_us, un_ne, pk_uLs, uL_ne, zI_uI, zI_uJ, zI_uA, zI_uB, zI_uR, zI_uN, zJ_uI, zJ_uJ, zJ_uA, zJ_uB, zJ_uR, zJ_uN, zA_uI, zA_uJ, zA_uA, zA_uB, zA_uR, zA_uN, zB_uI, zB_uJ, zB_uA, zB_uB, zB_uR, zB_uN, zR_uI, zR_uJ, zR_uA, zR_uB, zR_uR, zR_uN, zN_uI, zN_uJ, zN_uA, zN_uB, zN_uR, zN_uN, zI_ne, zJ_ne, zA_ne, zB_ne, zR_ne, zN_ne, bi_T, bi_F, nz16, ↓reduceIte, not_true_eq_false, not_false_eq_true, Bool.false_eq_true, reduceCtorEq]
    rw [e0, hl0]
    exact k1
  · rintro i ⟨τ, w, R, acc⟩ hi ⟨se, h49, h80, h81, h79, hacc, hok, hres, hM⟩ kb hkb
    have se : SE σ τ := se
    have h49 : zI τ 49 = nI i := h49
    have h80 : ∀ j, j < gN g → zA τ 80 j = nI (w j) := h80
    have h81 : ∀ j, j < gN g → zA τ 81 j = bi (R.testBit j) := h81
    have h79 : ∀ k, k < i → zA τ 79 k = nI (acc.getD k 0) := h79
    have hacc : acc.length = i := hacc
    have hok : wOk g w R := hok
    have hres : acc ++ run g t (96 - i) w R = RES g t := hres
    have hM : Mw g w ≤ 96 - i := hM
    show ∃ υ, fX12_goRehearsal_L64 _ _ τ (oI (low R)) = _ ∧ _
    unfold fX12_goRehearsal_L64
    cases hlow : low R with
    | none =>
      rw [run_n _ hlow, List.append_nil] at hres
      refine ⟨τ, ?_, se, by rw [h49, ← hres, hacc], fun k hk => by rw [← hres] at hk ⊢; exact h79 k (by omega)⟩
      simp (disch := omega) only [l0, l1, l2, l3, l4, l5, l6, l7, l8, l9, l10, l11, l12, l16, l18, l19, l20, l21, l24, l96, l128, l100, l144, l200, l256, l288, l1536, l1728, l1800, bnd, nI_add, pk_mul, pI_sub, pI_m1, pT_le, pF_le, pT_lt, pF_lt, pT_eq, pF_eq, pF_m1, mF_eq, mT_eq, mT_lt, mF_le, lm1, rd_nI, wr_nI, cl_nI, pk_us, un_ne, pk_uLs, uL_ne, zI_uI, zI_uJ, zI_uA, zI_uB, zI_uR, zI_uN, zJ_uI, zJ_uJ, zJ_uA, zJ_uB, zJ_uR, zJ_uN, zA_uI, zA_uJ, zA_uA, zA_uB, zA_uR, zA_uN, zB_uI, zB_uJ, zB_uA, zB_uB, zB_uR, zB_uN, zR_uI, zR_uJ, zR_uA, zR_uB, zR_uR, zR_uN, zN_uI, zN_uJ, zN_uA, zN_uB, zN_uR, zN_uN, zI_ne, zJ_ne, zA_ne, zB_ne, zR_ne, zN_ne, bi_T, bi_F, nz16, ↓reduceIte, not_true_eq_false, not_false_eq_true, Bool.false_eq_true, reduceCtorEq, oI_n]
    | some r =>
      have h8 := (low_some hlow)
      have hrN := hok.2.2.2 r h8.2
      have hMp := Mw_pos hrN.1 hrN.2
      have hi96 : i < 96 := by omega
      obtain ⟨hv, hok2⟩ := wOk_step hg hal hok hlow
      have hvl := vd_lt hg hv
      have hwr := hok.2.1 r
      have hr80 := h80 r hrN.1
      obtain ⟨n, hn⟩ : ∃ n, 96 - i = n + 1 := ⟨96 - i - 1, by omega⟩
      rw [hn, run_s hlow] at hres
      obtain ⟨τ2, hτ2⟩ : ∃ τ2, τ2 = uA (uA (uI (uA τ 79 (upd (zA τ 79) i (nI (16 * r + w r)))) 49 (nI (i + 1))) 80 (upd (zA τ 80) r (nI (w r + 1)))) 81 (upd (zA τ 81) r (nI 0)) := ⟨_, rfl⟩
      have se2 : SE σ τ2 := by
        rw [hτ2]
        exact se.tr ((((SE.uA (by decide)).tr (SE.uI (by decide))).tr (SE.uA (by decide))).tr (SE.uA (by decide)))
      have a80 : ∀ j, j < gN g → zA τ2 80 j = nI (up w r (w r + 1) j) := by
        intro j hj
        have : zA τ2 80 = upd (zA τ 80) r (nI (w r + 1)) := by rw [hτ2]; rfl
        rw [this]
        by_cases e : j = r
        · rw [e, pk_us]
          unfold up
          rw [if_pos rfl]
        · rw [pk_un e, h80 j hj]
          unfold up
          rw [if_neg e]
      have a81 : ∀ j, j < gN g → zA τ2 81 j = bi ((oth R r).testBit j) := by
        intro j hj
        rw [hτ2, zA_uA, oth_bit R h8.1 (by omega)]
        by_cases e : j = r
        · rw [e, pk_us, decide_eq_false (fun x => x rfl), Bool.and_false]; rfl
        · rw [pk_un e, h81 j hj, decide_eq_true e, Bool.and_true]
      have a79 : zA τ2 79 = upd (zA τ 79) i (nI (16 * r + w r)) := by rw [hτ2]; rfl
      have a49 : zI τ2 49 = nI (i + 1) := by rw [hτ2]; rfl
      have k2 := h.se se2
      obtain ⟨f3, e3, hf3⟩ := m_ready hg k2.2.2.1 (r := r) (s := 16 * r + w r) (w := up w r (w r + 1)) (R1 := oth R r) hal h8.1 hv a80 hok2.2.1 a81 (fun s23 => (fX12_lowestReady s23).bind fun x24 => kb (s23, x24))
      have se3 : SE σ (uA τ2 81 f3) := se2.tr (SE.uA (by decide))
      have hl3 := m_low hg (h.2.2.1.se se3) hok2.1 (fun q hq => (hok2.2.2.2 q hq).1) (fun q hq => hf3 q hq)
      have hMs := Mw_step hrN.1 hrN.2
      have nx := hkb (uA τ2 81 f3, up w r (w r + 1), oth R r ||| rb (rbC g t (up w r (w r + 1)) r (16 * r + w r)), acc ++ [16 * r + w r]) (by omega) ⟨se3, a49, fun j hj => a80 j hj, fun j hj => hf3 j hj, by
        intro k hk
        show zA τ2 79 k = nI ((acc ++ [16 * r + w r]).getD k 0)
        rw [a79]
        by_cases e : k = i
        · rw [e, pk_us, ← hacc, getD_snoc_eq]
        · rw [pk_un e, getD_snoc_lt (by omega)]
          exact h79 k (by omega), by
        show (acc ++ [16 * r + w r]).length = i + 1
        rw [List.length_append, List.length_singleton, hacc], hok2, by
        show (acc ++ [16 * r + w r]) ++ run g t (96 - (i + 1)) _ _ = RES g t
        rw [List.append_assoc, List.singleton_append, show 96 - (i + 1) = n by omega]
        exact hres, by show Mw g (up w r (w r + 1)) ≤ 96 - (i + 1); omega⟩
      simp (disch := omega) only [l0, l1, l2, l3, l4, l5, l6, l7, l8, l9, l10, l11, l12, l16, l18, l19, l20, l21, l24, l96, l128, l100, l144, l200, l256, l288, l1536, l1728, l1800, bnd, nI_add, pk_mul, pI_sub, pI_m1, pT_le, pF_le, pT_lt, pF_lt, pT_eq, pF_eq, pF_m1, mF_eq, mT_eq, mT_lt, mF_le, lm1, rd_nI, wr_nI, cl_nI, pk_us, un_ne, pk_uLs, uL_ne, zI_uI, zI_uJ, zI_uA, zI_uB, zI_uR, zI_uN, zJ_uI, zJ_uJ, zJ_uA, zJ_uB, zJ_uR, zJ_uN, zA_uI, zA_uJ, zA_uA, zA_uB, zA_uR, zA_uN, zB_uI, zB_uJ, zB_uA, zB_uB, zB_uR, zB_uN, zR_uI, zR_uJ, zR_uA, zR_uB, zR_uR, zR_uN, zN_uI, zN_uJ, zN_uA, zN_uB, zN_uR, zN_uN, zI_ne, zJ_ne, zA_ne, zB_ne, zR_ne, zN_ne, bi_T, bi_F, nz16, ↓reduceIte, not_true_eq_false, not_false_eq_true, Bool.false_eq_true, reduceCtorEq, oI_s, hr80, h49, vnb0]
      rw [← hτ2, e3, hl3]
      exact nx
theorem t_rehearse {σ : St} {g : Gh} {lim : Nat} (h : RI σ g lim) (p q : Int32) : B2 σ (fX11_rehearse σ p q) (fun τ => fX12_rehearse τ p q) := by
  have s3 := se30 σ (nI 0)
  rcases all2 h p with ⟨t, ha, ht, rfl, f⟩ | f
  · have f1 := (f σ (SE.rf σ)).1
    have hR96 := run_len g t 96 (fun _ => 0) (R0 g t)
    have hRl : (RES g t).length ≤ 96 := hR96
    obtain ⟨τ, c1, c2, c3, c4⟩ := c_rehearse h ha
    have f2 := (f _ (c2.tr (se30 τ (nI 0)))).2
    have k2 := h.se (c2.tr (se30 τ (nI 0)))
    obtain ⟨υ, m1, m2, m3, m4⟩ := m_rehearse k2 ha
    have both : ∀ r, (if q = mI then some (nI (RES g t).length) else fX8_saidAt τ q) = some r → (if q = mI then some (nI (RES g t).length, υ) else ((fX12_isIn q (nI 0) (nI (RES g t).length - nI 1)).bind fun x4 => if bi x4 = nI 0 then some (mI, υ) else (rd (zA υ 79) 96 q).bind fun x5 => some (x5, υ))) = some (r, υ) → B2 σ (fX11_rehearse σ (nI t) q) (fun τ => fX12_rehearse τ (nI t) q) := by
      intro r hr1 hr2
      refine ⟨r, τ, υ, ?_, c2, ?_, (se30 τ _).tr m2⟩
      · unfold fX11_rehearse fX8_said
        simp (disch := omega) only [l0, l1, l2, l3, l4, l5, l6, l7, l8, l9, l10, l11, l12, l16, l18, l19, l20, l21, l24, l96, l128, l100, l144, l200, l256, l288, l1536, l1728, l1800, bnd, nI_add, pk_mul, pI_sub, pI_m1, pT_le, pF_le, pT_lt, pF_lt, pT_eq, pF_eq, pF_m1, mF_eq, mT_eq, mT_lt, mF_le, lm1, rd_nI, wr_nI, cl_nI, pk_us, un_ne, pk_uLs, uL_ne, zI_uI, zI_uJ, zI_uA, zI_uB, zI_uR, zI_uN, zJ_uI, zJ_uJ, zJ_uA, zJ_uB, zJ_uR, zJ_uN, zA_uI, zA_uJ, zA_uA, zA_uB, zA_uR, zA_uN, zB_uI, zB_uJ, zB_uA, zB_uB, zB_uR, zB_uN, zR_uI, zR_uJ, zR_uA, zR_uB, zR_uR, zR_uN, zN_uI, zN_uJ, zN_uA, zN_uB, zN_uR, zN_uN, zI_ne, zJ_ne, zA_ne, zB_ne, zR_ne, zN_ne, bi_T, bi_F, nz16, ↓reduceIte, not_true_eq_false, not_false_eq_true, Bool.false_eq_true, reduceCtorEq, f1, c1, c3]
        by_cases hq : q = mI
        · rw [if_pos hq] at hr1
          have hq2 : (q = mI) = True := eq_true hq
          cases hr1
          simp (disch := omega) only [l0, l1, l2, l3, l4, l5, l6, l7, l8, l9, l10, l11, l12, l16, l18, l19, l20, l21, l24, l96, l128, l100, l144, l200, l256, l288, l1536, l1728, l1800, bnd, nI_add, pk_mul, pI_sub, pI_m1, pT_le, pF_le, pT_lt, pF_lt, pT_eq, pF_eq, pF_m1, mF_eq, mT_eq, mT_lt, mF_le, lm1, rd_nI, wr_nI, cl_nI, pk_us, un_ne, pk_uLs, uL_ne, zI_uI, zI_uJ, zI_uA, zI_uB, zI_uR, zI_uN, zJ_uI, zJ_uJ, zJ_uA, zJ_uB, zJ_uR, zJ_uN, zA_uI, zA_uJ, zA_uA, zA_uB, zA_uR, zA_uN, zB_uI, zB_uJ, zB_uA, zB_uB, zB_uR, zB_uN, zR_uI, zR_uJ, zR_uA, zR_uB, zR_uR, zR_uN, zN_uI, zN_uJ, zN_uA, zN_uB, zN_uR, zN_uN, zI_ne, zJ_ne, zA_ne, zB_ne, zR_ne, zN_ne, bi_T, bi_F, nz16, ↓reduceIte, not_true_eq_false, not_false_eq_true, Bool.false_eq_true, reduceCtorEq, hq2]
        · rw [if_neg hq] at hr1
          have hq2 : (q = mI) = False := eq_false hq
          simp (disch := omega) only [l0, l1, l2, l3, l4, l5, l6, l7, l8, l9, l10, l11, l12, l16, l18, l19, l20, l21, l24, l96, l128, l100, l144, l200, l256, l288, l1536, l1728, l1800, bnd, nI_add, pk_mul, pI_sub, pI_m1, pT_le, pF_le, pT_lt, pF_lt, pT_eq, pF_eq, pF_m1, mF_eq, mT_eq, mT_lt, mF_le, lm1, rd_nI, wr_nI, cl_nI, pk_us, un_ne, pk_uLs, uL_ne, zI_uI, zI_uJ, zI_uA, zI_uB, zI_uR, zI_uN, zJ_uI, zJ_uJ, zJ_uA, zJ_uB, zJ_uR, zJ_uN, zA_uI, zA_uJ, zA_uA, zA_uB, zA_uR, zA_uN, zB_uI, zB_uJ, zB_uA, zB_uB, zB_uR, zB_uN, zR_uI, zR_uJ, zR_uA, zR_uB, zR_uR, zR_uN, zN_uI, zN_uJ, zN_uA, zN_uB, zN_uR, zN_uN, zI_ne, zJ_ne, zA_ne, zB_ne, zR_ne, zN_ne, bi_T, bi_F, nz16, ↓reduceIte, not_true_eq_false, not_false_eq_true, Bool.false_eq_true, reduceCtorEq, hq2, hr1]
      · show fX12_rehearse τ (nI t) q = _
        unfold fX12_rehearse
        simp (disch := omega) only [l0, l1, l2, l3, l4, l5, l6, l7, l8, l9, l10, l11, l12, l16, l18, l19, l20, l21, l24, l96, l128, l100, l144, l200, l256, l288, l1536, l1728, l1800, bnd, nI_add, pk_mul, pI_sub, pI_m1, pT_le, pF_le, pT_lt, pF_lt, pT_eq, pF_eq, pF_m1, mF_eq, mT_eq, mT_lt, mF_le, lm1, rd_nI, wr_nI, cl_nI, pk_us, un_ne, pk_uLs, uL_ne, zI_uI, zI_uJ, zI_uA, zI_uB, zI_uR, zI_uN, zJ_uI, zJ_uJ, zJ_uA, zJ_uB, zJ_uR, zJ_uN, zA_uI, zA_uJ, zA_uA, zA_uB, zA_uR, zA_uN, zB_uI, zB_uJ, zB_uA, zB_uB, zB_uR, zB_uN, zR_uI, zR_uJ, zR_uA, zR_uB, zR_uR, zR_uN, zN_uI, zN_uJ, zN_uA, zN_uB, zN_uR, zN_uN, zI_ne, zJ_ne, zA_ne, zB_ne, zR_ne, zN_ne, bi_T, bi_F, nz16, ↓reduceIte, not_true_eq_false, not_false_eq_true, Bool.false_eq_true, reduceCtorEq, f2, m1, m3]
        exact hr2
    by_cases hq : q = mI
    · exact both (nI (RES g t).length) (if_pos hq) (if_pos hq)
    · rcases i32_of q with hn | ⟨k, hk, rfl⟩
      · have hn' : (q < nI 0) = True := eq_true hn
        refine both mI ?_ ?_
        · rw [if_neg hq]
          unfold fX8_saidAt
          simp (disch := omega) only [l0, l1, l2, l3, l4, l5, l6, l7, l8, l9, l10, l11, l12, l16, l18, l19, l20, l21, l24, l96, l128, l100, l144, l200, l256, l288, l1536, l1728, l1800, bnd, nI_add, pk_mul, pI_sub, pI_m1, pT_le, pF_le, pT_lt, pF_lt, pT_eq, pF_eq, pF_m1, mF_eq, mT_eq, mT_lt, mF_le, lm1, rd_nI, wr_nI, cl_nI, pk_us, un_ne, pk_uLs, uL_ne, zI_uI, zI_uJ, zI_uA, zI_uB, zI_uR, zI_uN, zJ_uI, zJ_uJ, zJ_uA, zJ_uB, zJ_uR, zJ_uN, zA_uI, zA_uJ, zA_uA, zA_uB, zA_uR, zA_uN, zB_uI, zB_uJ, zB_uA, zB_uB, zB_uR, zB_uN, zR_uI, zR_uJ, zR_uA, zR_uB, zR_uR, zR_uN, zN_uI, zN_uJ, zN_uA, zN_uB, zN_uR, zN_uN, zI_ne, zJ_ne, zA_ne, zB_ne, zR_ne, zN_ne, bi_T, bi_F, nz16, ↓reduceIte, not_true_eq_false, not_false_eq_true, Bool.false_eq_true, reduceCtorEq, hn']
        · rw [if_neg hq]
          simp (disch := omega) only [l0, l1, l2, l3, l4, l5, l6, l7, l8, l9, l10, l11, l12, l16, l18, l19, l20, l21, l24, l96, l128, l100, l144, l200, l256, l288, l1536, l1728, l1800, bnd, nI_add, pk_mul, pI_sub, pI_m1, pT_le, pF_le, pT_lt, pF_lt, pT_eq, pF_eq, pF_m1, mF_eq, mT_eq, mT_lt, mF_le, lm1, rd_nI, wr_nI, cl_nI, pk_us, un_ne, pk_uLs, uL_ne, zI_uI, zI_uJ, zI_uA, zI_uB, zI_uR, zI_uN, zJ_uI, zJ_uJ, zJ_uA, zJ_uB, zJ_uR, zJ_uN, zA_uI, zA_uJ, zA_uA, zA_uB, zA_uR, zA_uN, zB_uI, zB_uJ, zB_uA, zB_uB, zB_uR, zB_uN, zR_uI, zR_uJ, zR_uA, zR_uB, zR_uR, zR_uN, zN_uI, zN_uJ, zN_uA, zN_uB, zN_uR, zN_uN, zI_ne, zJ_ne, zA_ne, zB_ne, zR_ne, zN_ne, bi_T, bi_F, nz16, ↓reduceIte, not_true_eq_false, not_false_eq_true, Bool.false_eq_true, reduceCtorEq, m_isInN hn]
      · by_cases hkl : k < (RES g t).length
        · have hin := m_isIn (a := k) (b := 0) (c := (RES g t).length - 1) (by omega) (by omega) (by omega)
          rw [decide_eq_true ⟨by omega, by omega⟩] at hin
          refine both (nI ((RES g t).getD k 0)) ?_ ?_
          · rw [if_neg hq]
            unfold fX8_saidAt
            simp (disch := omega) only [l0, l1, l2, l3, l4, l5, l6, l7, l8, l9, l10, l11, l12, l16, l18, l19, l20, l21, l24, l96, l128, l100, l144, l200, l256, l288, l1536, l1728, l1800, bnd, nI_add, pk_mul, pI_sub, pI_m1, pT_le, pF_le, pT_lt, pF_lt, pT_eq, pF_eq, pF_m1, mF_eq, mT_eq, mT_lt, mF_le, lm1, rd_nI, wr_nI, cl_nI, pk_us, un_ne, pk_uLs, uL_ne, zI_uI, zI_uJ, zI_uA, zI_uB, zI_uR, zI_uN, zJ_uI, zJ_uJ, zJ_uA, zJ_uB, zJ_uR, zJ_uN, zA_uI, zA_uJ, zA_uA, zA_uB, zA_uR, zA_uN, zB_uI, zB_uJ, zB_uA, zB_uB, zB_uR, zB_uN, zR_uI, zR_uJ, zR_uA, zR_uB, zR_uR, zR_uN, zN_uI, zN_uJ, zN_uA, zN_uB, zN_uR, zN_uN, zI_ne, zJ_ne, zA_ne, zB_ne, zR_ne, zN_ne, bi_T, bi_F, nz16, ↓reduceIte, not_true_eq_false, not_false_eq_true, Bool.false_eq_true, reduceCtorEq, c3, c4 k hkl]
          · rw [if_neg hq]
            simp (disch := omega) only [l0, l1, l2, l3, l4, l5, l6, l7, l8, l9, l10, l11, l12, l16, l18, l19, l20, l21, l24, l96, l128, l100, l144, l200, l256, l288, l1536, l1728, l1800, bnd, nI_add, pk_mul, pI_sub, pI_m1, pT_le, pF_le, pT_lt, pF_lt, pT_eq, pF_eq, pF_m1, mF_eq, mT_eq, mT_lt, mF_le, lm1, rd_nI, wr_nI, cl_nI, pk_us, un_ne, pk_uLs, uL_ne, zI_uI, zI_uJ, zI_uA, zI_uB, zI_uR, zI_uN, zJ_uI, zJ_uJ, zJ_uA, zJ_uB, zJ_uR, zJ_uN, zA_uI, zA_uJ, zA_uA, zA_uB, zA_uR, zA_uN, zB_uI, zB_uJ, zB_uA, zB_uB, zB_uR, zB_uN, zR_uI, zR_uJ, zR_uA, zR_uB, zR_uR, zR_uN, zN_uI, zN_uJ, zN_uA, zN_uB, zN_uR, zN_uN, zI_ne, zJ_ne, zA_ne, zB_ne, zR_ne, zN_ne, bi_T, bi_F, nz16, ↓reduceIte, not_true_eq_false, not_false_eq_true, Bool.false_eq_true, reduceCtorEq, hin, m4 k hkl]
        · refine both mI ?_ ?_
          · rw [if_neg hq]
            unfold fX8_saidAt
            simp (disch := omega) only [l0, l1, l2, l3, l4, l5, l6, l7, l8, l9, l10, l11, l12, l16, l18, l19, l20, l21, l24, l96, l128, l100, l144, l200, l256, l288, l1536, l1728, l1800, bnd, nI_add, pk_mul, pI_sub, pI_m1, pT_le, pF_le, pT_lt, pF_lt, pT_eq, pF_eq, pF_m1, mF_eq, mT_eq, mT_lt, mF_le, lm1, rd_nI, wr_nI, cl_nI, pk_us, un_ne, pk_uLs, uL_ne, zI_uI, zI_uJ, zI_uA, zI_uB, zI_uR, zI_uN, zJ_uI, zJ_uJ, zJ_uA, zJ_uB, zJ_uR, zJ_uN, zA_uI, zA_uJ, zA_uA, zA_uB, zA_uR, zA_uN, zB_uI, zB_uJ, zB_uA, zB_uB, zB_uR, zB_uN, zR_uI, zR_uJ, zR_uA, zR_uB, zR_uR, zR_uN, zN_uI, zN_uJ, zN_uA, zN_uB, zN_uR, zN_uN, zI_ne, zJ_ne, zA_ne, zB_ne, zR_ne, zN_ne, bi_T, bi_F, nz16, ↓reduceIte, not_true_eq_false, not_false_eq_true, Bool.false_eq_true, reduceCtorEq, c3]
          · rw [if_neg hq]
            unfold fX12_isIn
            by_cases h0 : (RES g t).length = 0
            · have e0 : (nI 0 - nI 1 : Int32) = mI := by decide
              have e1 : (mI < nI k) = True := by
                refine eq_true ?_
                rw [Int32.lt_iff_toInt_lt, nI_toInt hk]
                have h2 : mI.toInt = -1 := rfl
                omega
              simp (disch := omega) only [l0, l1, l2, l3, l4, l5, l6, l7, l8, l9, l10, l11, l12, l16, l18, l19, l20, l21, l24, l96, l128, l100, l144, l200, l256, l288, l1536, l1728, l1800, bnd, nI_add, pk_mul, pI_sub, pI_m1, pT_le, pF_le, pT_lt, pF_lt, pT_eq, pF_eq, pF_m1, mF_eq, mT_eq, mT_lt, mF_le, lm1, rd_nI, wr_nI, cl_nI, pk_us, un_ne, pk_uLs, uL_ne, zI_uI, zI_uJ, zI_uA, zI_uB, zI_uR, zI_uN, zJ_uI, zJ_uJ, zJ_uA, zJ_uB, zJ_uR, zJ_uN, zA_uI, zA_uJ, zA_uA, zA_uB, zA_uR, zA_uN, zB_uI, zB_uJ, zB_uA, zB_uB, zB_uR, zB_uN, zR_uI, zR_uJ, zR_uA, zR_uB, zR_uR, zR_uN, zN_uI, zN_uJ, zN_uA, zN_uB, zN_uR, zN_uN, zI_ne, zJ_ne, zA_ne, zB_ne, zR_ne, zN_ne, bi_T, bi_F, nz16, ↓reduceIte, not_true_eq_false, not_false_eq_true, Bool.false_eq_true, reduceCtorEq, h0, e0, e1]
            · simp (disch := omega) only [l0, l1, l2, l3, l4, l5, l6, l7, l8, l9, l10, l11, l12, l16, l18, l19, l20, l21, l24, l96, l128, l100, l144, l200, l256, l288, l1536, l1728, l1800, bnd, nI_add, pk_mul, pI_sub, pI_m1, pT_le, pF_le, pT_lt, pF_lt, pT_eq, pF_eq, pF_m1, mF_eq, mT_eq, mT_lt, mF_le, lm1, rd_nI, wr_nI, cl_nI, pk_us, un_ne, pk_uLs, uL_ne, zI_uI, zI_uJ, zI_uA, zI_uB, zI_uR, zI_uN, zJ_uI, zJ_uJ, zJ_uA, zJ_uB, zJ_uR, zJ_uN, zA_uI, zA_uJ, zA_uA, zA_uB, zA_uR, zA_uN, zB_uI, zB_uJ, zB_uA, zB_uB, zB_uR, zB_uN, zR_uI, zR_uJ, zR_uA, zR_uB, zR_uR, zR_uN, zN_uI, zN_uJ, zN_uA, zN_uB, zN_uR, zN_uN, zI_ne, zJ_ne, zA_ne, zB_ne, zR_ne, zN_ne, bi_T, bi_F, nz16, ↓reduceIte, not_true_eq_false, not_false_eq_true, Bool.false_eq_true, reduceCtorEq]
  · have f1 := (f σ (SE.rf σ)).1
    have f2 := (f _ s3).2
    refine B2.no mI ?_ ?_
    · unfold fX11_rehearse
      simp (disch := omega) only [l0, l1, l2, l3, l4, l5, l6, l7, l8, l9, l10, l11, l12, l16, l18, l19, l20, l21, l24, l96, l128, l100, l144, l200, l256, l288, l1536, l1728, l1800, bnd, nI_add, pk_mul, pI_sub, pI_m1, pT_le, pF_le, pT_lt, pF_lt, pT_eq, pF_eq, pF_m1, mF_eq, mT_eq, mT_lt, mF_le, lm1, rd_nI, wr_nI, cl_nI, pk_us, un_ne, pk_uLs, uL_ne, zI_uI, zI_uJ, zI_uA, zI_uB, zI_uR, zI_uN, zJ_uI, zJ_uJ, zJ_uA, zJ_uB, zJ_uR, zJ_uN, zA_uI, zA_uJ, zA_uA, zA_uB, zA_uR, zA_uN, zB_uI, zB_uJ, zB_uA, zB_uB, zB_uR, zB_uN, zR_uI, zR_uJ, zR_uA, zR_uB, zR_uR, zR_uN, zN_uI, zN_uJ, zN_uA, zN_uB, zN_uR, zN_uN, zI_ne, zJ_ne, zA_ne, zB_ne, zR_ne, zN_ne, bi_T, bi_F, nz16, ↓reduceIte, not_true_eq_false, not_false_eq_true, Bool.false_eq_true, reduceCtorEq, f1]
    · unfold fX12_rehearse
      simp (disch := omega) only [l0, l1, l2, l3, l4, l5, l6, l7, l8, l9, l10, l11, l12, l16, l18, l19, l20, l21, l24, l96, l128, l100, l144, l200, l256, l288, l1536, l1728, l1800, bnd, nI_add, pk_mul, pI_sub, pI_m1, pT_le, pF_le, pT_lt, pF_lt, pT_eq, pF_eq, pF_m1, mF_eq, mT_eq, mT_lt, mF_le, lm1, rd_nI, wr_nI, cl_nI, pk_us, un_ne, pk_uLs, uL_ne, zI_uI, zI_uJ, zI_uA, zI_uB, zI_uR, zI_uN, zJ_uI, zJ_uJ, zJ_uA, zJ_uB, zJ_uR, zJ_uN, zA_uI, zA_uJ, zA_uA, zA_uB, zA_uR, zA_uN, zB_uI, zB_uJ, zB_uA, zB_uB, zB_uR, zB_uN, zR_uI, zR_uJ, zR_uA, zR_uB, zR_uR, zR_uN, zN_uI, zN_uJ, zN_uA, zN_uB, zN_uR, zN_uN, zI_ne, zJ_ne, zA_ne, zB_ne, zR_ne, zN_ne, bi_T, bi_F, nz16, ↓reduceIte, not_true_eq_false, not_false_eq_true, Bool.false_eq_true, reduceCtorEq, f2]
/-- places of the play where another speech is said, or none -/
def snP (g : Gh) (t : Nat) (pl : List Nat) (k : Nat) : Bool := !decide (k < (RES g t).length ∧ (RES g t).getD k 0 = pl.getD k 0)
theorem run_lt {g : Gh} (hg : okG g) {t : Nat} (hal : al g t = true) : ∀ n w R, wOk g w R → ∀ s, s ∈ run g t n w R → s < 128 := by
  intro n
  induction n with
  | zero => intro w R _ s hs; cases hs
  | succ n ih =>
    intro w R hok s hs
    cases h : low R with
    | none => rw [run_n _ h] at hs; cases hs
    | some r =>
      obtain ⟨hv, hok2⟩ := wOk_step hg hal hok h
      rw [run_s h, List.mem_cons] at hs
      rcases hs with hs | hs
      · rw [hs]; exact vd_lt hg hv
      · exact ih _ _ hok2 s hs
theorem t_soon {σ : St} {g : Gh} {lim : Nat} {pl : List Nat} (h : RI σ g lim) (hp : PI σ g pl) (p : Int32) : B2 σ (fX11_soon σ p) (fun τ => fX12_soon τ p) := by
  have hg := h.1
  have s3 := se30 σ (nI 0)
  have hpl := (pl_le hg hp.2.2.2.1 hp.2.2.2.2).1
  rcases all2 h p with ⟨t, ha, ht, rfl, f⟩ | f
  · have f1 := (f σ (SE.rf σ)).1
    have hRl : (RES g t).length ≤ 96 := run_len g t 96 (fun _ => 0) (R0 g t)
    have hlt := run_lt hg ha 96 _ _ (wOk_0 hg ha)
    obtain ⟨τ, c1, c2, c3, c4⟩ := c_rehearse h ha
    have f2 := (f _ (c2.tr (se30 τ (nI 0)))).2
    have k2 := h.se (c2.tr (se30 τ (nI 0)))
    obtain ⟨υ, m1, m2, m3, m4⟩ := m_rehearse k2 ha
    have hp1 := hp.se c2
    have hp2 := hp.se ((c2.tr (se30 τ (nI 0))).tr m2)
    refine ⟨nI ((List.range pl.length).countP (snP g t pl)), τ, υ, ?_, c2, ?_, (se30 τ _).tr m2⟩
    · unfold fX11_soon fX8_saidOtherwise
      have key := it_for (β := Nat) (body := fun (kb : (Int32 × Int32) → Option Int32) (x : Int32 × Int32) => fX8_saidOtherwise_L4 (fun v1 v2 => kb (v1, v2)) τ x.1 x.2) pl.length (by omega) (fun k a => (nI a, nI k)) (fun k a => a ≤ k) (fun k a z => z = some (nI (a + ((List.range pl.length).drop k).countP (snP g t pl)))) ?_ 0 0 (Nat.zero_le _) (Nat.le_refl _)
      · rw [List.drop_zero, Nat.zero_add] at key
        have key2 : fX8_saidOtherwise_P4 τ (nI 0) (nI 0) = some (nI ((List.range pl.length).countP (snP g t pl))) := key
        simp (disch := omega) only [l0, l1, l2, l3, l4, l5, l6, l7, l8, l9, l10, l11, l12, l16, l18, l19, l20, l21, l24, l96, l128, l100, l144, l200, l256, l288, l1536, l1728, l1800, bnd, nI_add, pk_mul, pI_sub, pI_m1, pT_le, pF_le, pT_lt, pF_lt, pT_eq, pF_eq, pF_m1, mF_eq, mT_eq, mT_lt, mF_le, lm1, rd_nI, wr_nI, cl_nI, pk_us, un_ne, pk_uLs, uL_ne, zI_uI, zI_uJ, zI_uA, zI_uB, zI_uR, zI_uN, zJ_uI, zJ_uJ, zJ_uA, zJ_uB, zJ_uR, zJ_uN, zA_uI, zA_uJ, zA_uA, zA_uB, zA_uR, zA_uN, zB_uI, zB_uJ, zB_uA, zB_uB, zB_uR, zB_uN, zR_uI, zR_uJ, zR_uA, zR_uB, zR_uR, zR_uN, zN_uI, zN_uJ, zN_uA, zN_uB, zN_uR, zN_uN, zI_ne, zJ_ne, zA_ne, zB_ne, zR_ne, zN_ne, bi_T, bi_F, nz16, ↓reduceIte, not_true_eq_false, not_false_eq_true, Bool.false_eq_true, reduceCtorEq, f1, c1, key2]
      · intro k a hk hka kb hkb
        show fX8_saidOtherwise_L4 _ _ (nI a) (nI k) = _
        unfold fX8_saidOtherwise_L4
        have h26 := hp1.1
        by_cases hkn : k = pl.length
        · have e1 : (List.range pl.length).drop k = [] := List.drop_of_length_le (by rw [List.length_range]; omega)
          rw [e1]
          simp (disch := omega) only [l0, l1, l2, l3, l4, l5, l6, l7, l8, l9, l10, l11, l12, l16, l18, l19, l20, l21, l24, l96, l128, l100, l144, l200, l256, l288, l1536, l1728, l1800, bnd, nI_add, pk_mul, pI_sub, pI_m1, pT_le, pF_le, pT_lt, pF_lt, pT_eq, pF_eq, pF_m1, mF_eq, mT_eq, mT_lt, mF_le, lm1, rd_nI, wr_nI, cl_nI, pk_us, un_ne, pk_uLs, uL_ne, zI_uI, zI_uJ, zI_uA, zI_uB, zI_uR, zI_uN, zJ_uI, zJ_uJ, zJ_uA, zJ_uB, zJ_uR, zJ_uN, zA_uI, zA_uJ, zA_uA, zA_uB, zA_uR, zA_uN, zB_uI, zB_uJ, zB_uA, zB_uB, zB_uR, zB_uN, zR_uI, zR_uJ, zR_uA, zR_uB, zR_uR, zR_uN, zN_uI, zN_uJ, zN_uA, zN_uB, zN_uR, zN_uN, zI_ne, zJ_ne, zA_ne, zB_ne, zR_ne, zN_ne, bi_T, bi_F, nz16, ↓reduceIte, not_true_eq_false, not_false_eq_true, Bool.false_eq_true, reduceCtorEq, h26]
          rfl
        · have hat := c_playedAt hg hp1 (k := k) (by omega)
          have hv := hp.2.2.2.1 _ (getD_mem (l := pl) (k := k) (d := 0) (by omega))
          have hvl := vd_lt hg hv
          rw [rng_drop (by omega), List.countP_cons]
          have nx0 := hkb a (by omega) (by omega)
          have nx1 := hkb (a + 1) (by omega) (by omega)
          rw [show a + 1 + ((List.range pl.length).drop (k + 1)).countP (snP g t pl) = a + (((List.range pl.length).drop (k + 1)).countP (snP g t pl) + 1) by omega] at nx1
          by_cases hkl : k < (RES g t).length
          · have hsa : fX8_saidAt τ (nI k) = some (nI ((RES g t).getD k 0)) := by
              unfold fX8_saidAt
              simp (disch := omega) only [l0, l1, l2, l3, l4, l5, l6, l7, l8, l9, l10, l11, l12, l16, l18, l19, l20, l21, l24, l96, l128, l100, l144, l200, l256, l288, l1536, l1728, l1800, bnd, nI_add, pk_mul, pI_sub, pI_m1, pT_le, pF_le, pT_lt, pF_lt, pT_eq, pF_eq, pF_m1, mF_eq, mT_eq, mT_lt, mF_le, lm1, rd_nI, wr_nI, cl_nI, pk_us, un_ne, pk_uLs, uL_ne, zI_uI, zI_uJ, zI_uA, zI_uB, zI_uR, zI_uN, zJ_uI, zJ_uJ, zJ_uA, zJ_uB, zJ_uR, zJ_uN, zA_uI, zA_uJ, zA_uA, zA_uB, zA_uR, zA_uN, zB_uI, zB_uJ, zB_uA, zB_uB, zB_uR, zB_uN, zR_uI, zR_uJ, zR_uA, zR_uB, zR_uR, zR_uN, zN_uI, zN_uJ, zN_uA, zN_uB, zN_uR, zN_uN, zI_ne, zJ_ne, zA_ne, zB_ne, zR_ne, zN_ne, bi_T, bi_F, nz16, ↓reduceIte, not_true_eq_false, not_false_eq_true, Bool.false_eq_true, reduceCtorEq, c3, c4 k hkl]
            have hr128 := hlt _ (getD_mem (l := RES g t) (k := k) (d := 0) hkl)
            by_cases he : (RES g t).getD k 0 = pl.getD k 0
            · have hs : snP g t pl k = false := by unfold snP; rw [decide_eq_true ⟨hkl, he⟩]; rfl
              have he2 : (nI ((RES g t).getD k 0) = nI (pl.getD k 0)) = True := eq_true (by rw [he])
              simp (disch := omega) only [l0, l1, l2, l3, l4, l5, l6, l7, l8, l9, l10, l11, l12, l16, l18, l19, l20, l21, l24, l96, l128, l100, l144, l200, l256, l288, l1536, l1728, l1800, bnd, nI_add, pk_mul, pI_sub, pI_m1, pT_le, pF_le, pT_lt, pF_lt, pT_eq, pF_eq, pF_m1, mF_eq, mT_eq, mT_lt, mF_le, lm1, rd_nI, wr_nI, cl_nI, pk_us, un_ne, pk_uLs, uL_ne, zI_uI, zI_uJ, zI_uA, zI_uB, zI_uR, zI_uN, zJ_uI, zJ_uJ, zJ_uA, zJ_uB, zJ_uR, zJ_uN, zA_uI, zA_uJ, zA_uA, zA_uB, zA_uR, zA_uN, zB_uI, zB_uJ, zB_uA, zB_uB, zB_uR, zB_uN, zR_uI, zR_uJ, zR_uA, zR_uB, zR_uR, zR_uN, zN_uI, zN_uJ, zN_uA, zN_uB, zN_uR, zN_uN, zI_ne, zJ_ne, zA_ne, zB_ne, zR_ne, zN_ne, bi_T, bi_F, nz16, ↓reduceIte, not_true_eq_false, not_false_eq_true, Bool.false_eq_true, reduceCtorEq, h26, hsa, hat, he2, hs]
              exact nx0
            · have hs : snP g t pl k = true := by unfold snP; rw [decide_eq_false (fun x => he x.2)]; rfl
              have he2 : (nI ((RES g t).getD k 0) = nI (pl.getD k 0)) = False := pF_eq he (by omega) (by omega)
              simp (disch := omega) only [l0, l1, l2, l3, l4, l5, l6, l7, l8, l9, l10, l11, l12, l16, l18, l19, l20, l21, l24, l96, l128, l100, l144, l200, l256, l288, l1536, l1728, l1800, bnd, nI_add, pk_mul, pI_sub, pI_m1, pT_le, pF_le, pT_lt, pF_lt, pT_eq, pF_eq, pF_m1, mF_eq, mT_eq, mT_lt, mF_le, lm1, rd_nI, wr_nI, cl_nI, pk_us, un_ne, pk_uLs, uL_ne, zI_uI, zI_uJ, zI_uA, zI_uB, zI_uR, zI_uN, zJ_uI, zJ_uJ, zJ_uA, zJ_uB, zJ_uR, zJ_uN, zA_uI, zA_uJ, zA_uA, zA_uB, zA_uR, zA_uN, zB_uI, zB_uJ, zB_uA, zB_uB, zB_uR, zB_uN, zR_uI, zR_uJ, zR_uA, zR_uB, zR_uR, zR_uN, zN_uI, zN_uJ, zN_uA, zN_uB, zN_uR, zN_uN, zI_ne, zJ_ne, zA_ne, zB_ne, zR_ne, zN_ne, bi_T, bi_F, nz16, ↓reduceIte, not_true_eq_false, not_false_eq_true, Bool.false_eq_true, reduceCtorEq, h26, hsa, hat, he2, hs]
              exact nx1
          · have hsa : fX8_saidAt τ (nI k) = some mI := by
              unfold fX8_saidAt
              simp (disch := omega) only [l0, l1, l2, l3, l4, l5, l6, l7, l8, l9, l10, l11, l12, l16, l18, l19, l20, l21, l24, l96, l128, l100, l144, l200, l256, l288, l1536, l1728, l1800, bnd, nI_add, pk_mul, pI_sub, pI_m1, pT_le, pF_le, pT_lt, pF_lt, pT_eq, pF_eq, pF_m1, mF_eq, mT_eq, mT_lt, mF_le, lm1, rd_nI, wr_nI, cl_nI, pk_us, un_ne, pk_uLs, uL_ne, zI_uI, zI_uJ, zI_uA, zI_uB, zI_uR, zI_uN, zJ_uI, zJ_uJ, zJ_uA, zJ_uB, zJ_uR, zJ_uN, zA_uI, zA_uJ, zA_uA, zA_uB, zA_uR, zA_uN, zB_uI, zB_uJ, zB_uA, zB_uB, zB_uR, zB_uN, zR_uI, zR_uJ, zR_uA, zR_uB, zR_uR, zR_uN, zN_uI, zN_uJ, zN_uA, zN_uB, zN_uR, zN_uN, zI_ne, zJ_ne, zA_ne, zB_ne, zR_ne, zN_ne, bi_T, bi_F, nz16, ↓reduceIte, not_true_eq_false, not_false_eq_true, Bool.false_eq_true, reduceCtorEq, c3]
            have hs : snP g t pl k = true := by unfold snP; rw [decide_eq_false (fun x => hkl x.1)]; rfl
            simp (disch := omega) only [l0, l1, l2, l3, l4, l5, l6, l7, l8, l9, l10, l11, l12, l16, l18, l19, l20, l21, l24, l96, l128, l100, l144, l200, l256, l288, l1536, l1728, l1800, bnd, nI_add, pk_mul, pI_sub, pI_m1, pT_le, pF_le, pT_lt, pF_lt, pT_eq, pF_eq, pF_m1, mF_eq, mT_eq, mT_lt, mF_le, lm1, rd_nI, wr_nI, cl_nI, pk_us, un_ne, pk_uLs, uL_ne, zI_uI, zI_uJ, zI_uA, zI_uB, zI_uR, zI_uN, zJ_uI, zJ_uJ, zJ_uA, zJ_uB, zJ_uR, zJ_uN, zA_uI, zA_uJ, zA_uA, zA_uB, zA_uR, zA_uN, zB_uI, zB_uJ, zB_uA, zB_uB, zB_uR, zB_uN, zR_uI, zR_uJ, zR_uA, zR_uB, zR_uR, zR_uN, zN_uI, zN_uJ, zN_uA, zN_uB, zN_uR, zN_uN, zI_ne, zJ_ne, zA_ne, zB_ne, zR_ne, zN_ne, bi_T, bi_F, nz16, ↓reduceIte, not_true_eq_false, not_false_eq_true, Bool.false_eq_true, reduceCtorEq, h26, hsa, hat, hs]
            exact nx1
    · show fX12_soon τ (nI t) = _
      unfold fX12_soon
      have key := it_for (β := Nat) (body := fun (kb : (Int32 × Int32) → Option (Int32 × St)) (x : Int32 × Int32) => fX12_soon_L24 (fun v2 v3 => kb (v2, v3)) υ x.1 x.2) pl.length (by omega) (fun k a => (nI a, nI k)) (fun k a => a ≤ k) (fun k a z => z = some (nI (a + ((List.range pl.length).drop k).countP (snP g t pl)), υ)) ?_ 0 0 (Nat.zero_le _) (Nat.le_refl _)
      · rw [List.drop_zero, Nat.zero_add] at key
        simp (disch := omega) only [l0, l1, l2, l3, l4, l5, l6, l7, l8, l9, l10, l11, l12, l16, l18, l19, l20, l21, l24, l96, l128, l100, l144, l200, l256, l288, l1536, l1728, l1800, bnd, nI_add, pk_mul, pI_sub, pI_m1, pT_le, pF_le, pT_lt, pF_lt, pT_eq, pF_eq, pF_m1, mF_eq, mT_eq, mT_lt, mF_le, lm1, rd_nI, wr_nI, cl_nI, pk_us, un_ne, pk_uLs, uL_ne, zI_uI, zI_uJ, zI_uA, zI_uB, zI_uR, zI_uN, zJ_uI, zJ_uJ, zJ_uA, zJ_uB, zJ_uR, zJ_uN, zA_uI, zA_uJ, zA_uA, zA_uB, zA_uR, zA_uN, zB_uI, zB_uJ, zB_uA, zB_uB, zB_uR, zB_uN, zR_uI, zR_uJ, zR_uA, zR_uB, zR_uR, zR_uN, zN_uI, zN_uJ, zN_uA, zN_uB, zN_uR, zN_uN, zI_ne, zJ_ne, zA_ne, zB_ne, zR_ne, zN_ne, bi_T, bi_F, nz16, ↓reduceIte, not_true_eq_false, not_false_eq_true, Bool.false_eq_true, reduceCtorEq, f2, m1]
        exact key
      · intro k a hk hka kb hkb
        show fX12_soon_L24 _ _ (nI a) (nI k) = _
        unfold fX12_soon_L24
        have h48 := hp2.2.1
        by_cases hkn : k = pl.length
        · have e1 : (List.range pl.length).drop k = [] := List.drop_of_length_le (by rw [List.length_range]; omega)
          rw [e1]
          simp (disch := omega) only [l0, l1, l2, l3, l4, l5, l6, l7, l8, l9, l10, l11, l12, l16, l18, l19, l20, l21, l24, l96, l128, l100, l144, l200, l256, l288, l1536, l1728, l1800, bnd, nI_add, pk_mul, pI_sub, pI_m1, pT_le, pF_le, pT_lt, pF_lt, pT_eq, pF_eq, pF_m1, mF_eq, mT_eq, mT_lt, mF_le, lm1, rd_nI, wr_nI, cl_nI, pk_us, un_ne, pk_uLs, uL_ne, zI_uI, zI_uJ, zI_uA, zI_uB, zI_uR, zI_uN, zJ_uI, zJ_uJ, zJ_uA, zJ_uB, zJ_uR, zJ_uN, zA_uI, zA_uJ, zA_uA, zA_uB, zA_uR, zA_uN, zB_uI, zB_uJ, zB_uA, zB_uB, zB_uR, zB_uN, zR_uI, zR_uJ, zR_uA, zR_uB, zR_uR, zR_uN, zN_uI, zN_uJ, zN_uA, zN_uB, zN_uR, zN_uN, zI_ne, zJ_ne, zA_ne, zB_ne, zR_ne, zN_ne, bi_T, bi_F, nz16, ↓reduceIte, not_true_eq_false, not_false_eq_true, Bool.false_eq_true, reduceCtorEq, h48]
          rfl
        · have hat := (hp2.2.2.1 k (by omega)).2
          have hv := hp.2.2.2.1 _ (getD_mem (l := pl) (k := k) (d := 0) (by omega))
          have hvl := vd_lt hg hv
          rw [rng_drop (by omega), List.countP_cons]
          have nx0 := hkb a (by omega) (by omega)
          have nx1 := hkb (a + 1) (by omega) (by omega)
          rw [show a + 1 + ((List.range pl.length).drop (k + 1)).countP (snP g t pl) = a + (((List.range pl.length).drop (k + 1)).countP (snP g t pl) + 1) by omega] at nx1
          by_cases hkl : k < (RES g t).length
          · have hr128 := hlt _ (getD_mem (l := RES g t) (k := k) (d := 0) hkl)
            by_cases he : (RES g t).getD k 0 = pl.getD k 0
            · have hs : snP g t pl k = false := by unfold snP; rw [decide_eq_true ⟨hkl, he⟩]; rfl
              have he2 : (nI ((RES g t).getD k 0) = nI (pl.getD k 0)) = True := eq_true (by rw [he])
              simp (disch := omega) only [l0, l1, l2, l3, l4, l5, l6, l7, l8, l9, l10, l11, l12, l16, l18, l19, l20, l21, l24, l96, l128, l100, l144, l200, l256, l288, l1536, l1728, l1800, bnd, nI_add, pk_mul, pI_sub, pI_m1, pT_le, pF_le, pT_lt, pF_lt, pT_eq, pF_eq, pF_m1, mF_eq, mT_eq, mT_lt, mF_le, lm1, rd_nI, wr_nI, cl_nI, pk_us, un_ne, pk_uLs, uL_ne, zI_uI, zI_uJ, zI_uA, zI_uB, zI_uR, zI_uN, zJ_uI, zJ_uJ, zJ_uA, zJ_uB, zJ_uR, zJ_uN, zA_uI, zA_uJ, zA_uA, zA_uB, zA_uR, zA_uN, zB_uI, zB_uJ, zB_uA, zB_uB, zB_uR, zB_uN, zR_uI, zR_uJ, zR_uA, zR_uB, zR_uR, zR_uN, zN_uI, zN_uJ, zN_uA, zN_uB, zN_uR, zN_uN, zI_ne, zJ_ne, zA_ne, zB_ne, zR_ne, zN_ne, bi_T, bi_F, nz16, ↓reduceIte, not_true_eq_false, not_false_eq_true, Bool.false_eq_true, reduceCtorEq, h48, m3, m4 k hkl, hat, he2, hs]
              exact nx0
            · have hs : snP g t pl k = true := by unfold snP; rw [decide_eq_false (fun x => he x.2)]; rfl
              have he2 : (nI ((RES g t).getD k 0) = nI (pl.getD k 0)) = False := pF_eq he (by omega) (by omega)
              simp (disch := omega) only [l0, l1, l2, l3, l4, l5, l6, l7, l8, l9, l10, l11, l12, l16, l18, l19, l20, l21, l24, l96, l128, l100, l144, l200, l256, l288, l1536, l1728, l1800, bnd, nI_add, pk_mul, pI_sub, pI_m1, pT_le, pF_le, pT_lt, pF_lt, pT_eq, pF_eq, pF_m1, mF_eq, mT_eq, mT_lt, mF_le, lm1, rd_nI, wr_nI, cl_nI, pk_us, un_ne, pk_uLs, uL_ne, zI_uI, zI_uJ, zI_uA, zI_uB, zI_uR, zI_uN, zJ_uI, zJ_uJ, zJ_uA, zJ_uB, zJ_uR, zJ_uN, zA_uI, zA_uJ, zA_uA, zA_uB, zA_uR, zA_uN, zB_uI, zB_uJ, zB_uA, zB_uB, zB_uR, zB_uN, zR_uI, zR_uJ, zR_uA, zR_uB, zR_uR, zR_uN, zN_uI, zN_uJ, zN_uA, zN_uB, zN_uR, zN_uN, zI_ne, zJ_ne, zA_ne, zB_ne, zR_ne, zN_ne, bi_T, bi_F, nz16, ↓reduceIte, not_true_eq_false, not_false_eq_true, Bool.false_eq_true, reduceCtorEq, h48, m3, m4 k hkl, hat, he2, hs]
              exact nx1
          · have hs : snP g t pl k = true := by unfold snP; rw [decide_eq_false (fun x => hkl x.1)]; rfl
            simp (disch := omega) only [l0, l1, l2, l3, l4, l5, l6, l7, l8, l9, l10, l11, l12, l16, l18, l19, l20, l21, l24, l96, l128, l100, l144, l200, l256, l288, l1536, l1728, l1800, bnd, nI_add, pk_mul, pI_sub, pI_m1, pT_le, pF_le, pT_lt, pF_lt, pT_eq, pF_eq, pF_m1, mF_eq, mT_eq, mT_lt, mF_le, lm1, rd_nI, wr_nI, cl_nI, pk_us, un_ne, pk_uLs, uL_ne, zI_uI, zI_uJ, zI_uA, zI_uB, zI_uR, zI_uN, zJ_uI, zJ_uJ, zJ_uA, zJ_uB, zJ_uR, zJ_uN, zA_uI, zA_uJ, zA_uA, zA_uB, zA_uR, zA_uN, zB_uI, zB_uJ, zB_uA, zB_uB, zB_uR, zB_uN, zR_uI, zR_uJ, zR_uA, zR_uB, zR_uR, zR_uN, zN_uI, zN_uJ, zN_uA, zN_uB, zN_uR, zN_uN, zI_ne, zJ_ne, zA_ne, zB_ne, zR_ne, zN_ne, bi_T, bi_F, nz16, ↓reduceIte, not_true_eq_false, not_false_eq_true, Bool.false_eq_true, reduceCtorEq, h48, m3, hs]
            exact nx1
  · have f1 := (f σ (SE.rf σ)).1
    have f2 := (f _ s3).2
    refine B2.no mI ?_ ?_
    · unfold fX11_soon
      simp (disch := omega) only [l0, l1, l2, l3, l4, l5, l6, l7, l8, l9, l10, l11, l12, l16, l18, l19, l20, l21, l24, l96, l128, l100, l144, l200, l256, l288, l1536, l1728, l1800, bnd, nI_add, pk_mul, pI_sub, pI_m1, pT_le, pF_le, pT_lt, pF_lt, pT_eq, pF_eq, pF_m1, mF_eq, mT_eq, mT_lt, mF_le, lm1, rd_nI, wr_nI, cl_nI, pk_us, un_ne, pk_uLs, uL_ne, zI_uI, zI_uJ, zI_uA, zI_uB, zI_uR, zI_uN, zJ_uI, zJ_uJ, zJ_uA, zJ_uB, zJ_uR, zJ_uN, zA_uI, zA_uJ, zA_uA, zA_uB, zA_uR, zA_uN, zB_uI, zB_uJ, zB_uA, zB_uB, zB_uR, zB_uN, zR_uI, zR_uJ, zR_uA, zR_uB, zR_uR, zR_uN, zN_uI, zN_uJ, zN_uA, zN_uB, zN_uR, zN_uN, zI_ne, zJ_ne, zA_ne, zB_ne, zR_ne, zN_ne, bi_T, bi_F, nz16, ↓reduceIte, not_true_eq_false, not_false_eq_true, Bool.false_eq_true, reduceCtorEq, f1]
    · unfold fX12_soon
      simp (disch := omega) only [l0, l1, l2, l3, l4, l5, l6, l7, l8, l9, l10, l11, l12, l16, l18, l19, l20, l21, l24, l96, l128, l100, l144, l200, l256, l288, l1536, l1728, l1800, bnd, nI_add, pk_mul, pI_sub, pI_m1, pT_le, pF_le, pT_lt, pF_lt, pT_eq, pF_eq, pF_m1, mF_eq, mT_eq, mT_lt, mF_le, lm1, rd_nI, wr_nI, cl_nI, pk_us, un_ne, pk_uLs, uL_ne, zI_uI, zI_uJ, zI_uA, zI_uB, zI_uR, zI_uN, zJ_uI, zJ_uJ, zJ_uA, zJ_uB, zJ_uR, zJ_uN, zA_uI, zA_uJ, zA_uA, zA_uB, zA_uR, zA_uN, zB_uI, zB_uJ, zB_uA, zB_uB, zB_uR, zB_uN, zR_uI, zR_uJ, zR_uA, zR_uB, zR_uR, zR_uN, zN_uI, zN_uJ, zN_uA, zN_uB, zN_uR, zN_uN, zI_ne, zJ_ne, zA_ne, zB_ne, zR_ne, zN_ne, bi_T, bi_F, nz16, ↓reduceIte, not_true_eq_false, not_false_eq_true, Bool.false_eq_true, reduceCtorEq, f2]
