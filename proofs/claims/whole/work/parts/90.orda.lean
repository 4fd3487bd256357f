/-! orders: the model's layLeft, least, orders -/
theorem uB_self (σ : St) (q : Nat) : uB σ q (zB σ q) = σ := by
  unfold uB zB
  have : va_up σ.2.2.2.1 q (σ.2.2.2.1 q) = σ.2.2.2.1 := by
    funext j
    unfold va_up
    split
    · rename_i e; rw [e]
    · rfl
  rw [this]
theorem TL.up {g : Gh} {S st last : Nat} {f f1 : Nat → Int32} {b b1 : Nat → Int64} (h : TL g S f b (st + 1)) (hl : last ≤ 8) (e : ∀ j, j ≠ 9 * st + last → f1 j = f j ∧ b1 j = b j) : TL g S f1 b1 (st + 1) := by
  intro s q h1 h2 h3 h4
  have e1 := e (9 * s + q) (by omega)
  rw [e1.1, e1.2]
  exact h s q h1 h2 h3 h4
theorem m_left2 {σ : St} {g : Gh} {S st : Nat} {f0 : Nat → Int32} {b0 : Nat → Int64} (k1 : St → Option St) (h : JS σ g S) (hg : okG g) (hst : st < rx (zs g S) 8) (hT : TL g S f0 b0 (st + 1)) : ∃ f b, TL g S f b st ∧ fX12_layLeft_P13 (nI st) k1 (uB (uA σ 74 f0) 76 b0) (nI 0) = k1 (uB (uA σ 74 f) 76 b) := by
  have hN := h.2.2.2.2.2.1
  have hgn := hg.1
  have key := it_for (β := (Nat → Int32) × (Nat → Int64)) (body := fun (kb : (St × Int32) → Option St) (t : St × Int32) => fX12_layLeft_L13 (nI st) k1 (fun σ v2 => kb (σ, v2)) t.1 t.2) (gN g + 1) (by omega) (fun i fb => (uB (uA σ 74 fb.1) 76 fb.2, nI i)) (fun i fb => TL g S fb.1 fb.2 (st + 1) ∧ ∀ q, q < i → okE (zs g S) st q → fb.1 (9 * st + q) = nI (xL g S st q).1 ∧ fb.2 (9 * st + q) = lN (xL g S st q).2) (fun i fb z => ∃ f b, TL g S f b st ∧ z = k1 (uB (uA σ 74 f) 76 b)) ?_ 0 (f0, b0) (Nat.zero_le _) ⟨hT, fun q hq => absurd hq (Nat.not_lt_zero _)⟩
  · exact key
  · rintro i ⟨f, b⟩ hi ⟨hfb, hq⟩ kb hkb
    have hfb : TL g S f b (st + 1) := hfb
    have hq : ∀ q, q < i → okE (zs g S) st q → f (9 * st + q) = nI (xL g S st q).1 ∧ b (9 * st + q) = lN (xL g S st q).2 := hq
    have hkb : ∀ f1 b1, i < gN g + 1 → TL g S f1 b1 (st + 1) → (∀ q, q < i + 1 → okE (zs g S) st q → f1 (9 * st + q) = nI (xL g S st q).1 ∧ b1 (9 * st + q) = lN (xL g S st q).2) → ∃ f b, TL g S f b st ∧ kb (uB (uA σ 74 f1) 76 b1, nI (i + 1)) = k1 (uB (uA σ 74 f) 76 b) := fun f1 b1 hlt h1 h2 => hkb (f1, b1) hlt ⟨h1, h2⟩
    show ∃ f1 b1, _ ∧ fX12_layLeft_L13 (nI st) k1 (fun σ v2 => kb (σ, v2)) (uB (uA σ 74 f) 76 b) (nI i) = _
    have h32 := h.1.1
    have h46 := h.2.2.2.1
    unfold fX12_layLeft_L13
    by_cases hi8 : i = gN g + 1
    · refine ⟨f, b, ?_, ?_⟩
      · intro s q h1 h2 h3 h4
        by_cases hs : s = st
        · rw [hs] at h4 ⊢
          by_cases hqi : q < i
          · exact hq q hqi h4
          · exfalso
            rcases h4 with h4 | h4
            · omega
            · have h5 := zs_none (r := q - 1) h.2.1 (by omega)
              have h6 := sd_le (zs g S) st (q - 1)
              omega
        · exact hfb s q (by omega) h2 h3 h4
      · simp (disch := omega) only [l0, l1, l2, l3, l4, l5, l6, l7, l8, l9, l10, l11, l12, l16, l18, l19, l20, l21, l24, l96, l128, l100, l144, l200, l256, l288, l1536, l1728, l1800, bnd, nI_add, pk_mul, pI_sub, pI_m1, pT_le, pF_le, pT_lt, pF_lt, pT_eq, pF_eq, pF_m1, mF_eq, mT_eq, mT_lt, mF_le, lm1, rd_nI, wr_nI, cl_nI, pk_us, un_ne, pk_uLs, uL_ne, zI_uI, zI_uJ, zI_uA, zI_uB, zI_uR, zI_uN, zJ_uI, zJ_uJ, zJ_uA, zJ_uB, zJ_uR, zJ_uN, zA_uI, zA_uJ, zA_uA, zA_uB, zA_uR, zA_uN, zB_uI, zB_uJ, zB_uA, zB_uB, zB_uR, zB_uN, zR_uI, zR_uJ, zR_uA, zR_uB, zR_uR, zR_uN, zN_uI, zN_uJ, zN_uA, zN_uB, zN_uR, zN_uN, zI_ne, zJ_ne, zA_ne, zB_ne, zR_ne, zN_ne, bi_T, bi_F, nz16, ↓reduceIte, not_true_eq_false, not_false_eq_true, Bool.false_eq_true, reduceCtorEq, h32, hi8]
    · have hi9 : i ≤ gN g := by omega
      have hsub : nI (rx (zs g S) 8) - nI 1 = nI (rx (zs g S) 8 - 1) := pI_sub (by omega)
      -- behind the two writes
      have go : ∀ (a0 : Nat × Nat), a0 = (if st + 1 = rx (zs g S) 8 then (0, 1) else (10000, 0)) → ∃ f1 b1, TL g S f1 b1 st ∧ (if nI i ≤ 0 then (if nI i = 0 then (if nI st ≤ 0 then fX12_layLeft_J98 (fun σ v2 => kb (σ, v2)) (uB (uA σ 74 (upd f (9 * st + i) (nI a0.1))) 76 (vp_updL b (9 * st + i) (lN a0.2))) (nI st) (nI i) (nI (9 * st + i)) else kb (uB (uA σ 74 (upd f (9 * st + i) (nI a0.1))) 76 (vp_updL b (9 * st + i) (lN a0.2)), nI i + 1)) else fX12_layLeft_J98 (fun σ v2 => kb (σ, v2)) (uB (uA σ 74 (upd f (9 * st + i) (nI a0.1))) 76 (vp_updL b (9 * st + i) (lN a0.2))) (nI st) (nI i) (nI (9 * st + i))) else (fX12_saidOf (uB (uA σ 74 (upd f (9 * st + i) (nI a0.1))) 76 (vp_updL b (9 * st + i) (lN a0.2))) (nI st) (nI i - 1)).bind fun x36 => if x36 = 0 then kb (uB (uA σ 74 (upd f (9 * st + i) (nI a0.1))) 76 (vp_updL b (9 * st + i) (lN a0.2)), nI i + 1) else (if nI i = 0 then (if nI st ≤ 0 then fX12_layLeft_J98 (fun σ v2 => kb (σ, v2)) (uB (uA σ 74 (upd f (9 * st + i) (nI a0.1))) 76 (vp_updL b (9 * st + i) (lN a0.2))) (nI st) (nI i) (nI (9 * st + i)) else kb (uB (uA σ 74 (upd f (9 * st + i) (nI a0.1))) 76 (vp_updL b (9 * st + i) (lN a0.2)), nI i + 1)) else fX12_layLeft_J98 (fun σ v2 => kb (σ, v2)) (uB (uA σ 74 (upd f (9 * st + i) (nI a0.1))) 76 (vp_updL b (9 * st + i) (lN a0.2))) (nI st) (nI i) (nI (9 * st + i)))) = k1 (uB (uA σ 74 f1) 76 b1) := by
        intro a0 ha0
        have hoff : ∀ j, j ≠ 9 * st + i → upd f (9 * st + i) (nI a0.1) j = f j ∧ vp_updL b (9 * st + i) (lN a0.2) j = b j := fun j hj => ⟨un_ne hj, uL_ne hj⟩
        have hf1 : upd f (9 * st + i) (nI a0.1) (9 * st + i) = nI a0.1 := pk_us
        have hb1 : vp_updL b (9 * st + i) (lN a0.2) (9 * st + i) = lN a0.2 := pk_uLs
        generalize upd f (9 * st + i) (nI a0.1) = f1 at *
        generalize vp_updL b (9 * st + i) (lN a0.2) = b1 at *
        have hT1 : TL g S f1 b1 (st + 1) := hfb.up (by omega) hoff
        have hJ : JS (uB (uA σ 74 f1) 76 b1) g S := h.up (by decide) (by decide) (by decide)
        have hbad : ¬ okE (zs g S) st i → ∃ f2 b2, TL g S f2 b2 st ∧ kb (uB (uA σ 74 f1) 76 b1, nI (i + 1)) = k1 (uB (uA σ 74 f2) 76 b2) := fun hno => hkb f1 b1 (by omega) hT1 (fun q hqi hqo => by
          by_cases e : q = i
          · rw [e] at hqo
            exact absurd hqo hno
          · rw [(hoff (9 * st + q) (by omega)).1, (hoff (9 * st + q) (by omega)).2]
            exact hq q (by omega) hqo)
        have hgood : okE (zs g S) st i → ∃ f2 b2, TL g S f2 b2 st ∧ fX12_layLeft_J98 (fun σ v2 => kb (σ, v2)) (uB (uA σ 74 f1) 76 b1) (nI st) (nI i) (nI (9 * st + i)) = k1 (uB (uA σ 74 f2) 76 b2) := by
          intro hok
          obtain ⟨f2, b2, h1, h2, h3, h4⟩ := m_left1 (fun s33 => kb (s33, nI i + 1)) h hg hst (show i ≤ 8 by omega) hok hT1 hf1 hb1 (by rw [ha0]; split <;> show _ ≤ 10000 <;> omega)
          have e8 := oL_init (z := zs g S) (og_le g (zs g S)) h.2.2.2.2.2.2 (st := st) (last := i) (c := 10000) hst (by omega)
          rw [← ha0] at e8
          rw [← e8] at h2 h3
          have nx := hkb f2 b2 (by omega) (hT1.up (show i ≤ 8 by omega) h1) (fun q hqi hqo => by
            by_cases e : q = i
            · rw [e]
              exact ⟨h2, h3⟩
            · rw [(h1 (9 * st + q) (by omega)).1, (h1 (9 * st + q) (by omega)).2, (hoff (9 * st + q) (by omega)).1, (hoff (9 * st + q) (by omega)).2]
              exact hq q (by omega) hqo)
          obtain ⟨f3, b3, h5, h6⟩ := nx
          refine ⟨f3, b3, h5, ?_⟩
          unfold fX12_layLeft_J98
          rw [← h6]
          refine Eq.trans ?_ (h4.trans ?_)
          · rfl
          · rw [l1, nI_add]
        by_cases h0 : i = 0
        · by_cases hs0 : st = 0
          · obtain ⟨f2, b2, h1, h2⟩ := hgood (.inl ⟨h0, hs0⟩)
            refine ⟨f2, b2, h1, ?_⟩
            rw [← h2]
            simp (disch := omega) only [l0, l1, l2, l3, l4, l5, l6, l7, l8, l9, l10, l11, l12, l16, l18, l19, l20, l21, l24, l96, l128, l100, l144, l200, l256, l288, l1536, l1728, l1800, bnd, nI_add, pk_mul, pI_sub, pI_m1, pT_le, pF_le, pT_lt, pF_lt, pT_eq, pF_eq, pF_m1, mF_eq, mT_eq, mT_lt, mF_le, lm1, rd_nI, wr_nI, cl_nI, pk_us, un_ne, pk_uLs, uL_ne, zI_uI, zI_uJ, zI_uA, zI_uB, zI_uR, zI_uN, zJ_uI, zJ_uJ, zJ_uA, zJ_uB, zJ_uR, zJ_uN, zA_uI, zA_uJ, zA_uA, zA_uB, zA_uR, zA_uN, zB_uI, zB_uJ, zB_uA, zB_uB, zB_uR, zB_uN, zR_uI, zR_uJ, zR_uA, zR_uB, zR_uR, zR_uN, zN_uI, zN_uJ, zN_uA, zN_uB, zN_uR, zN_uN, zI_ne, zJ_ne, zA_ne, zB_ne, zR_ne, zN_ne, bi_T, bi_F, nz16, ↓reduceIte, not_true_eq_false, not_false_eq_true, Bool.false_eq_true, reduceCtorEq, h0, hs0]
          · obtain ⟨f2, b2, h1, h2⟩ := hbad (fun x => by rcases x with x | x <;> omega)
            refine ⟨f2, b2, h1, ?_⟩
            rw [← h2]
            simp (disch := omega) only [l0, l1, l2, l3, l4, l5, l6, l7, l8, l9, l10, l11, l12, l16, l18, l19, l20, l21, l24, l96, l128, l100, l144, l200, l256, l288, l1536, l1728, l1800, bnd, nI_add, pk_mul, pI_sub, pI_m1, pT_le, pF_le, pT_lt, pF_lt, pT_eq, pF_eq, pF_m1, mF_eq, mT_eq, mT_lt, mF_le, lm1, rd_nI, wr_nI, cl_nI, pk_us, un_ne, pk_uLs, uL_ne, zI_uI, zI_uJ, zI_uA, zI_uB, zI_uR, zI_uN, zJ_uI, zJ_uJ, zJ_uA, zJ_uB, zJ_uR, zJ_uN, zA_uI, zA_uJ, zA_uA, zA_uB, zA_uR, zA_uN, zB_uI, zB_uJ, zB_uA, zB_uB, zB_uR, zB_uN, zR_uI, zR_uJ, zR_uA, zR_uB, zR_uR, zR_uN, zN_uI, zN_uJ, zN_uA, zN_uB, zN_uR, zN_uN, zI_ne, zJ_ne, zA_ne, zB_ne, zR_ne, zN_ne, bi_T, bi_F, nz16, ↓reduceIte, not_true_eq_false, not_false_eq_true, Bool.false_eq_true, reduceCtorEq, h0]
        · have hsd := m_saidOf (r := i - 1) (st := st) hJ hg (by omega) (by omega)
          have hsb : nI i - nI 1 = nI (i - 1) := pI_sub (by omega)
          have hle := sd_le (zs g S) st (i - 1)
          have hz := zs_le (r := i - 1) hg h.2.1 (by omega)
          by_cases hp : sd (zs g S) st (i - 1) = 0
          · obtain ⟨f2, b2, h1, h2⟩ := hbad (fun x => by rcases x with x | x <;> omega)
            refine ⟨f2, b2, h1, ?_⟩
            rw [← h2]
            simp (disch := omega) only [l0, l1, l2, l3, l4, l5, l6, l7, l8, l9, l10, l11, l12, l16, l18, l19, l20, l21, l24, l96, l128, l100, l144, l200, l256, l288, l1536, l1728, l1800, bnd, nI_add, pk_mul, pI_sub, pI_m1, pT_le, pF_le, pT_lt, pF_lt, pT_eq, pF_eq, pF_m1, mF_eq, mT_eq, mT_lt, mF_le, lm1, rd_nI, wr_nI, cl_nI, pk_us, un_ne, pk_uLs, uL_ne, zI_uI, zI_uJ, zI_uA, zI_uB, zI_uR, zI_uN, zJ_uI, zJ_uJ, zJ_uA, zJ_uB, zJ_uR, zJ_uN, zA_uI, zA_uJ, zA_uA, zA_uB, zA_uR, zA_uN, zB_uI, zB_uJ, zB_uA, zB_uB, zB_uR, zB_uN, zR_uI, zR_uJ, zR_uA, zR_uB, zR_uR, zR_uN, zN_uI, zN_uJ, zN_uA, zN_uB, zN_uR, zN_uN, zI_ne, zJ_ne, zA_ne, zB_ne, zR_ne, zN_ne, bi_T, bi_F, nz16, ↓reduceIte, not_true_eq_false, not_false_eq_true, Bool.false_eq_true, reduceCtorEq, hsb, hsd, hp]
          · obtain ⟨f2, b2, h1, h2⟩ := hgood (.inr ⟨by omega, by omega⟩)
            refine ⟨f2, b2, h1, ?_⟩
            rw [← h2]
            simp (disch := omega) only [l0, l1, l2, l3, l4, l5, l6, l7, l8, l9, l10, l11, l12, l16, l18, l19, l20, l21, l24, l96, l128, l100, l144, l200, l256, l288, l1536, l1728, l1800, bnd, nI_add, pk_mul, pI_sub, pI_m1, pT_le, pF_le, pT_lt, pF_lt, pT_eq, pF_eq, pF_m1, mF_eq, mT_eq, mT_lt, mF_le, lm1, rd_nI, wr_nI, cl_nI, pk_us, un_ne, pk_uLs, uL_ne, zI_uI, zI_uJ, zI_uA, zI_uB, zI_uR, zI_uN, zJ_uI, zJ_uJ, zJ_uA, zJ_uB, zJ_uR, zJ_uN, zA_uI, zA_uJ, zA_uA, zA_uB, zA_uR, zA_uN, zB_uI, zB_uJ, zB_uA, zB_uB, zB_uR, zB_uN, zR_uI, zR_uJ, zR_uA, zR_uB, zR_uR, zR_uN, zN_uI, zN_uJ, zN_uA, zN_uB, zN_uR, zN_uN, zI_ne, zJ_ne, zA_ne, zB_ne, zR_ne, zN_ne, bi_T, bi_F, nz16, ↓reduceIte, not_true_eq_false, not_false_eq_true, Bool.false_eq_true, reduceCtorEq, hsb, hsd]
      by_cases hlast : st + 1 = rx (zs g S) 8
      · obtain ⟨f1, b1, h1, h2⟩ := go (0, 1) (by rw [if_pos hlast])
        refine ⟨f1, b1, h1, ?_⟩
        rw [← h2]
        have e : st = rx (zs g S) 8 - 1 := by omega
        unfold fX12_layLeft_J50
        simp (disch := omega) only [l0, l1, l2, l3, l4, l5, l6, l7, l8, l9, l10, l11, l12, l16, l18, l19, l20, l21, l24, l96, l128, l100, l144, l200, l256, l288, l1536, l1728, l1800, bnd, nI_add, pk_mul, pI_sub, pI_m1, pT_le, pF_le, pT_lt, pF_lt, pT_eq, pF_eq, pF_m1, mF_eq, mT_eq, mT_lt, mF_le, lm1, rd_nI, wr_nI, cl_nI, pk_us, un_ne, pk_uLs, uL_ne, zI_uI, zI_uJ, zI_uA, zI_uB, zI_uR, zI_uN, zJ_uI, zJ_uJ, zJ_uA, zJ_uB, zJ_uR, zJ_uN, zA_uI, zA_uJ, zA_uA, zA_uB, zA_uR, zA_uN, zB_uI, zB_uJ, zB_uA, zB_uB, zB_uR, zB_uN, zR_uI, zR_uJ, zR_uA, zR_uB, zR_uR, zR_uN, zN_uI, zN_uJ, zN_uA, zN_uB, zN_uR, zN_uN, zI_ne, zJ_ne, zA_ne, zB_ne, zR_ne, zN_ne, bi_T, bi_F, nz16, ↓reduceIte, not_true_eq_false, not_false_eq_true, Bool.false_eq_true, reduceCtorEq, h32, h46, hsub, ← e, uA_uB, uA_uA, uB_uB, L0, L1]
      · obtain ⟨f1, b1, h1, h2⟩ := go (10000, 0) (by rw [if_neg hlast])
        refine ⟨f1, b1, h1, ?_⟩
        rw [← h2]
        unfold fX12_layLeft_J50
        simp (disch := omega) only [l0, l1, l2, l3, l4, l5, l6, l7, l8, l9, l10, l11, l12, l16, l18, l19, l20, l21, l24, l96, l128, l100, l144, l200, l256, l288, l1536, l1728, l1800, bnd, nI_add, pk_mul, pI_sub, pI_m1, pT_le, pF_le, pT_lt, pF_lt, pT_eq, pF_eq, pF_m1, mF_eq, mT_eq, mT_lt, mF_le, lm1, rd_nI, wr_nI, cl_nI, pk_us, un_ne, pk_uLs, uL_ne, zI_uI, zI_uJ, zI_uA, zI_uB, zI_uR, zI_uN, zJ_uI, zJ_uJ, zJ_uA, zJ_uB, zJ_uR, zJ_uN, zA_uI, zA_uJ, zA_uA, zA_uB, zA_uR, zA_uN, zB_uI, zB_uJ, zB_uA, zB_uB, zB_uR, zB_uN, zR_uI, zR_uJ, zR_uA, zR_uB, zR_uR, zR_uN, zN_uI, zN_uJ, zN_uA, zN_uB, zN_uR, zN_uN, zI_ne, zJ_ne, zA_ne, zB_ne, zR_ne, zN_ne, bi_T, bi_F, nz16, ↓reduceIte, not_true_eq_false, not_false_eq_true, Bool.false_eq_true, reduceCtorEq, h32, h46, hsub, uA_uB, uA_uA, uB_uB, L0, L1, l10000]
theorem m_layLeft {σ : St} {g : Gh} {S : Nat} (h : JS σ g S) (hg : okG g) : ∃ f b, TL g S f b 0 ∧ fX12_layLeft σ = some (uB (uA σ 74 f) 76 b) := by
  have hN := h.2.2.2.2.2.1
  have hp := rx_pos (zs g S) 8
  have h46 := h.2.2.2.1
  have key := it_down (β := (Nat → Int32) × (Nat → Int64)) (body := fun (kb : (St × Int32) → Option St) (t : St × Int32) => fX12_layLeft_L7 (fun σ v1 => kb (σ, v1)) t.1 t.2) (fun i fb => (uB (uA σ 74 fb.1) 76 fb.2, if i = 0 then mI else nI (i - 1))) (fun i fb => i ≤ rx (zs g S) 8 ∧ TL g S fb.1 fb.2 i) (fun i fb z => ∃ f b, TL g S f b 0 ∧ z = some (uB (uA σ 74 f) 76 b)) ?_ ?_ (rx (zs g S) 8) (by omega) (zA σ 74, zB σ 76) ⟨Nat.le_refl _, fun s q h1 h2 => by omega⟩
  · have key : ∃ f b, TL g S f b 0 ∧ fX12_layLeft_P7 (uB (uA σ 74 (zA σ 74)) 76 (zB σ 76)) (if rx (zs g S) 8 = 0 then mI else nI (rx (zs g S) 8 - 1)) = some (uB (uA σ 74 f) 76 b) := key
    obtain ⟨f, b, h1, h2⟩ := key
    refine ⟨f, b, h1, ?_⟩
    rw [← h2, if_neg (by omega), uA_self, uB_self]
    have hsub : nI (rx (zs g S) 8) - nI 1 = nI (rx (zs g S) 8 - 1) := pI_sub (by omega)
    unfold fX12_layLeft
    simp (disch := omega) only [l0, l1, l2, l3, l4, l5, l6, l7, l8, l9, l10, l11, l12, l16, l18, l19, l20, l21, l24, l96, l128, l100, l144, l200, l256, l288, l1536, l1728, l1800, bnd, nI_add, pk_mul, pI_sub, pI_m1, pT_le, pF_le, pT_lt, pF_lt, pT_eq, pF_eq, pF_m1, mF_eq, mT_eq, mT_lt, mF_le, lm1, rd_nI, wr_nI, cl_nI, pk_us, un_ne, pk_uLs, uL_ne, zI_uI, zI_uJ, zI_uA, zI_uB, zI_uR, zI_uN, zJ_uI, zJ_uJ, zJ_uA, zJ_uB, zJ_uR, zJ_uN, zA_uI, zA_uJ, zA_uA, zA_uB, zA_uR, zA_uN, zB_uI, zB_uJ, zB_uA, zB_uB, zB_uR, zB_uN, zR_uI, zR_uJ, zR_uA, zR_uB, zR_uR, zR_uN, zN_uI, zN_uJ, zN_uA, zN_uB, zN_uR, zN_uN, zI_ne, zJ_ne, zA_ne, zB_ne, zR_ne, zN_ne, bi_T, bi_F, nz16, ↓reduceIte, not_true_eq_false, not_false_eq_true, Bool.false_eq_true, reduceCtorEq, h46, hsub]
  · rintro ⟨f, b⟩ ⟨_, hT⟩ kb
    refine ⟨f, b, hT, ?_⟩
    show fX12_layLeft_L7 _ (uB (uA σ 74 f) 76 b) mI = _
    unfold fX12_layLeft_L7
    simp (disch := omega) only [l0, l1, l2, l3, l4, l5, l6, l7, l8, l9, l10, l11, l12, l16, l18, l19, l20, l21, l24, l96, l128, l100, l144, l200, l256, l288, l1536, l1728, l1800, bnd, nI_add, pk_mul, pI_sub, pI_m1, pT_le, pF_le, pT_lt, pF_lt, pT_eq, pF_eq, pF_m1, mF_eq, mT_eq, mT_lt, mF_le, lm1, rd_nI, wr_nI, cl_nI, pk_us, un_ne, pk_uLs, uL_ne, zI_uI, zI_uJ, zI_uA, zI_uB, zI_uR, zI_uN, zJ_uI, zJ_uJ, zJ_uA, zJ_uB, zJ_uR, zJ_uN, zA_uI, zA_uJ, zA_uA, zA_uB, zA_uR, zA_uN, zB_uI, zB_uJ, zB_uA, zB_uB, zB_uR, zB_uN, zR_uI, zR_uJ, zR_uA, zR_uB, zR_uR, zR_uN, zN_uI, zN_uJ, zN_uA, zN_uB, zN_uR, zN_uN, zI_ne, zJ_ne, zA_ne, zB_ne, zR_ne, zN_ne, bi_T, bi_F, nz16, ↓reduceIte, not_true_eq_false, not_false_eq_true, Bool.false_eq_true, reduceCtorEq]
  · rintro i ⟨f, b⟩ ⟨hi, hT⟩ kb hkb
    have hi : i + 1 ≤ rx (zs g S) 8 := hi
    have hT : TL g S f b (i + 1) := hT
    show ∃ f1 b1, _ ∧ fX12_layLeft_L7 (fun σ v1 => kb (σ, v1)) (uB (uA σ 74 f) 76 b) (nI i) = _
    unfold fX12_layLeft_L7
    obtain ⟨f1, b1, h1, h2⟩ := m_left2 (fun s37 => kb (s37, nI i + (-1 : Int32))) h hg (show i < rx (zs g S) 8 by omega) hT
    obtain ⟨f2, b2, h3, h4⟩ := hkb (f1, b1) ⟨by omega, h1⟩
    refine ⟨f2, b2, h3, ?_⟩
    rw [← h4]
    have e : nI i + (-1 : Int32) = if i = 0 then mI else nI (i - 1) := by
      by_cases h0 : i = 0
      · rw [if_pos h0, h0]
        rfl
      · rw [if_neg h0]
        exact pI_m1 (by omega)
    rw [e] at h2
    rw [e, ← h2]
    simp (disch := omega) only [l0, l1, l2, l3, l4, l5, l6, l7, l8, l9, l10, l11, l12, l16, l18, l19, l20, l21, l24, l96, l128, l100, l144, l200, l256, l288, l1536, l1728, l1800, bnd, nI_add, pk_mul, pI_sub, pI_m1, pT_le, pF_le, pT_lt, pF_lt, pT_eq, pF_eq, pF_m1, mF_eq, mT_eq, mT_lt, mF_le, lm1, rd_nI, wr_nI, cl_nI, pk_us, un_ne, pk_uLs, uL_ne, zI_uI, zI_uJ, zI_uA, zI_uB, zI_uR, zI_uN, zJ_uI, zJ_uJ, zJ_uA, zJ_uB, zJ_uR, zJ_uN, zA_uI, zA_uJ, zA_uA, zA_uB, zA_uR, zA_uN, zB_uI, zB_uJ, zB_uA, zB_uB, zB_uR, zB_uN, zR_uI, zR_uJ, zR_uA, zR_uB, zR_uR, zR_uN, zN_uI, zN_uJ, zN_uA, zN_uB, zN_uR, zN_uN, zI_ne, zJ_ne, zA_ne, zB_ne, zR_ne, zN_ne, bi_T, bi_F, nz16, ↓reduceIte, not_true_eq_false, not_false_eq_true, Bool.false_eq_true, reduceCtorEq]
