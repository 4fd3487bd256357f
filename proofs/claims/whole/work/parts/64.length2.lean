/-! length: both sides -/
def lsv (g : Gh) (lim t s : Nat) : Bool := t.testBit (s / 16) && decide (kd g lim t s = 5)
/-- a lost cue like this one, earlier -/
def old (g : Gh) (lim t s : Nat) : Bool := (List.range s).any (fun o => vd g o && (lsv g lim t o && decide (gC g s = gC g o)))
def lnG (g : Gh) (lim t a s : Nat) : Nat := if t.testBit (s / 16) = true then (a + (gW g s).length) + (if kd g lim t s = 5 then (if old g lim t s = true then 0 else (gC g s).length) else 0) else a
theorem sp_inc (g : Gh) : (sp g).Pairwise (· < ·) := List.Pairwise.filter _ List.pairwise_lt_range
theorem sp_get {g : Gh} {i : Nat} (h : i < (sp g).length) : (sp g).getD i 0 = (sp g)[i] := by
  rw [List.getD_eq_getElem?_getD, List.getElem?_eq_getElem h]
  rfl
theorem sp_lt {g : Gh} {i j : Nat} (hij : i < j) (h : j < (sp g).length) : (sp g).getD i 0 < (sp g).getD j 0 := by
  rw [sp_get h, sp_get (by omega)]
  exact List.pairwise_iff_getElem.mp (sp_inc g) i j (by omega) h hij
theorem sp_any {g : Gh} {k : Nat} (h : k < (sp g).length) (P : Nat → Bool) : (List.range k).any (fun j => P ((sp g).getD j 0)) = (List.range ((sp g).getD k 0)).any (fun o => vd g o && P o) := by
  rw [Bool.eq_iff_iff, List.any_eq_true, List.any_eq_true]
  constructor
  · rintro ⟨j, hj, hp⟩
    rw [List.mem_range] at hj
    refine ⟨(sp g).getD j 0, List.mem_range.mpr (sp_lt hj h), ?_⟩
    rw [sp_at (by omega), hp]
    rfl
  · rintro ⟨o, ho, hp⟩
    rw [List.mem_range] at ho
    rw [Bool.and_eq_true] at hp
    have hk : (sp g).getD k 0 ∈ sp g := getD_mem h
    have hm : o ∈ sp g := sp_mem.mpr ⟨by have := (sp_mem.mp hk).1; omega, hp.1⟩
    obtain ⟨j, hj, he⟩ := List.getElem_of_mem hm
    have hj2 : j < k := by
      rcases Nat.lt_trichotomy j k with q | q | q
      · exact q
      · subst q
        rw [sp_get h, he] at ho
        omega
      · have := sp_lt q hj
        rw [sp_get hj, he] at this
        omega
    refine ⟨j, List.mem_range.mpr hj2, ?_⟩
    rw [sp_get hj, he]
    exact hp.2
theorem vnb1 : vp_nar .boolean (nI 1) = nI 1 := nrfl rfl
theorem vnb0 : vp_nar .boolean (nI 0) = nI 0 := nrfl rfl
theorem c_wasLost {σ : St} {g : Gh} (hg : okG g) (hj : JC σ g) {lim t k : Nat} (hk : k < (sp g).length) (h33 : ∀ j, j < k → zA σ 33 j = bi (lsv g lim t ((sp g).getD j 0))) : fX0_wasLost σ (nI k) = some (old g lim t ((sp g).getD k 0)) := by
  have hl := sp_len hg
  have hvk := sp_at (g := g) hk
  unfold fX0_wasLost old
  rw [← sp_any hk (fun o => lsv g lim t o && decide (gC g ((sp g).getD k 0) = gC g o))]
  have key := it_for (β := Unit) (body := fun (kb : Int32 → Option Bool) (x : Int32) => fX0_wasLost_L2 (nI k) (fun v2 => kb v2) σ x) k (by omega) (fun i _ => nI i) (fun _ _ => True) (fun i _ r => r = some (((List.range k).drop i).any (fun j => lsv g lim t ((sp g).getD j 0) && decide (gC g ((sp g).getD k 0) = gC g ((sp g).getD j 0))))) ?_ 0 () (Nat.zero_le _) trivial
  · exact key
  · intro i _ hi _ kb hkb
    show fX0_wasLost_L2 _ _ _ (nI i) = _
    unfold fX0_wasLost_L2
    by_cases hin : i = k
    · have e1 : (List.range k).drop i = [] := List.drop_of_length_le (by rw [List.length_range]; omega)
      rw [e1, hin]
      simp (disch := omega) only [l0, l1, l2, l3, l4, l5, l6, l7, l8, l9, l10, l11, l12, l16, l18, l19, l20, l21, l24, l96, l128, l100, l144, l200, l256, l288, l1536, l1728, l1800, bnd, nI_add, pk_mul, pI_sub, pI_m1, pT_le, pF_le, pT_lt, pF_lt, pT_eq, pF_eq, pF_m1, mF_eq, mT_eq, mT_lt, mF_le, lm1, rd_nI, wr_nI, cl_nI, pk_us, un_ne, pk_uLs, uL_ne, zI_uI, zI_uJ, zI_uA, zI_uB, zI_uR, zI_uN, zJ_uI, zJ_uJ, zJ_uA, zJ_uB, zJ_uR, zJ_uN, zA_uI, zA_uJ, zA_uA, zA_uB, zA_uR, zA_uN, zB_uI, zB_uJ, zB_uA, zB_uB, zB_uR, zB_uN, zR_uI, zR_uJ, zR_uA, zR_uB, zR_uR, zR_uN, zN_uI, zN_uJ, zN_uA, zN_uB, zN_uR, zN_uN, zI_ne, zJ_ne, zA_ne, zB_ne, zR_ne, zN_ne, bi_T, bi_F, nz16, ↓reduceIte, not_true_eq_false, not_false_eq_true, Bool.false_eq_true, reduceCtorEq]
      rfl
    · have hv := sp_at (g := g) (i := i) (by omega)
      have hat := c_speechAt hg hj (i := i) (by omega)
      have hatk := c_speechAt hg hj (i := k) (by omega)
      have ha := c_alike hg hj hv hvk
      rw [dec_iff (eq_comm (a := gC g ((sp g).getD i 0)))] at ha
      have h3 := h33 i (by omega)
      have nx := hkb () (by omega) trivial
      rw [rng_drop (by omega), List.any_cons]
      cases h1 : lsv g lim t ((sp g).getD i 0) with
      | false =>
        rw [h1] at h3
        simp (disch := omega) only [l0, l1, l2, l3, l4, l5, l6, l7, l8, l9, l10, l11, l12, l16, l18, l19, l20, l21, l24, l96, l128, l100, l144, l200, l256, l288, l1536, l1728, l1800, bnd, nI_add, pk_mul, pI_sub, pI_m1, pT_le, pF_le, pT_lt, pF_lt, pT_eq, pF_eq, pF_m1, mF_eq, mT_eq, mT_lt, mF_le, lm1, rd_nI, wr_nI, cl_nI, pk_us, un_ne, pk_uLs, uL_ne, zI_uI, zI_uJ, zI_uA, zI_uB, zI_uR, zI_uN, zJ_uI, zJ_uJ, zJ_uA, zJ_uB, zJ_uR, zJ_uN, zA_uI, zA_uJ, zA_uA, zA_uB, zA_uR, zA_uN, zB_uI, zB_uJ, zB_uA, zB_uB, zB_uR, zB_uN, zR_uI, zR_uJ, zR_uA, zR_uB, zR_uR, zR_uN, zN_uI, zN_uJ, zN_uA, zN_uB, zN_uR, zN_uN, zI_ne, zJ_ne, zA_ne, zB_ne, zR_ne, zN_ne, bi_T, bi_F, nz16, ↓reduceIte, not_true_eq_false, not_false_eq_true, Bool.false_eq_true, reduceCtorEq, h3, Bool.false_and, Bool.false_or]
        exact nx
      | true =>
        rw [h1] at h3
        by_cases h2 : gC g ((sp g).getD k 0) = gC g ((sp g).getD i 0)
        · rw [decide_eq_true h2] at ha
          simp (disch := omega) only [l0, l1, l2, l3, l4, l5, l6, l7, l8, l9, l10, l11, l12, l16, l18, l19, l20, l21, l24, l96, l128, l100, l144, l200, l256, l288, l1536, l1728, l1800, bnd, nI_add, pk_mul, pI_sub, pI_m1, pT_le, pF_le, pT_lt, pF_lt, pT_eq, pF_eq, pF_m1, mF_eq, mT_eq, mT_lt, mF_le, lm1, rd_nI, wr_nI, cl_nI, pk_us, un_ne, pk_uLs, uL_ne, zI_uI, zI_uJ, zI_uA, zI_uB, zI_uR, zI_uN, zJ_uI, zJ_uJ, zJ_uA, zJ_uB, zJ_uR, zJ_uN, zA_uI, zA_uJ, zA_uA, zA_uB, zA_uR, zA_uN, zB_uI, zB_uJ, zB_uA, zB_uB, zB_uR, zB_uN, zR_uI, zR_uJ, zR_uA, zR_uB, zR_uR, zR_uN, zN_uI, zN_uJ, zN_uA, zN_uB, zN_uR, zN_uN, zI_ne, zJ_ne, zA_ne, zB_ne, zR_ne, zN_ne, bi_T, bi_F, nz16, ↓reduceIte, not_true_eq_false, not_false_eq_true, Bool.false_eq_true, reduceCtorEq, h3, hat, hatk, ha, Bool.true_and, decide_eq_true h2, Bool.true_or]
        · rw [decide_eq_false h2] at ha
          simp (disch := omega) only [l0, l1, l2, l3, l4, l5, l6, l7, l8, l9, l10, l11, l12, l16, l18, l19, l20, l21, l24, l96, l128, l100, l144, l200, l256, l288, l1536, l1728, l1800, bnd, nI_add, pk_mul, pI_sub, pI_m1, pT_le, pF_le, pT_lt, pF_lt, pT_eq, pF_eq, pF_m1, mF_eq, mT_eq, mT_lt, mF_le, lm1, rd_nI, wr_nI, cl_nI, pk_us, un_ne, pk_uLs, uL_ne, zI_uI, zI_uJ, zI_uA, zI_uB, zI_uR, zI_uN, zJ_uI, zJ_uJ, zJ_uA, zJ_uB, zJ_uR, zJ_uN, zA_uI, zA_uJ, zA_uA, zA_uB, zA_uR, zA_uN, zB_uI, zB_uJ, zB_uA, zB_uB, zB_uR, zB_uN, zR_uI, zR_uJ, zR_uA, zR_uB, zR_uR, zR_uN, zN_uI, zN_uJ, zN_uA, zN_uB, zN_uR, zN_uN, zI_ne, zJ_ne, zA_ne, zB_ne, zR_ne, zN_ne, bi_T, bi_F, nz16, ↓reduceIte, not_true_eq_false, not_false_eq_true, Bool.false_eq_true, reduceCtorEq, h3, hat, hatk, ha, Bool.true_and, decide_eq_false h2, Bool.false_or]
          exact nx
theorem RI33 {σ : St} {g : Gh} {lim : Nat} (h : RI σ g lim) (f : Nat → Int32) : RI (uA σ 33 f) g lim := h
theorem SE33 {σ τ : St} {f f' : Nat → Int32} (h : SE (uA σ 33 f) τ) : SE (uA σ 33 f') (uA τ 33 f') := by
  refine ⟨fun q hq => ?_, fun q hq => h.2.1 q hq, fun q hq => h.2.2.1 q hq, h.2.2.2.1, fun r => h.2.2.2.2 r⟩
  by_cases e : q = 33
  · rw [e, zA_uA, zA_uA]
  · rw [zA_ne e, zA_ne e, h.1 q hq, zA_ne e]
theorem c_length {σ : St} {g : Gh} {lim : Nat} (h : RI σ g lim) {t : Nat} (ht : t < 256) : ∃ f τ, fX0_wordsAtLeast σ (nI t) = some (nI ((sp g).foldl (lnG g lim t) 0), τ) ∧ SE (uA σ 33 f) τ := by
  have hg := h.1
  have hl8 := h.2.2.2.1
  have hl := sp_len hg
  unfold fX0_wordsAtLeast
  have key := it_for (β := St × Nat) (body := fun (kb : (St × Int32 × Int32) → Option (Int32 × St)) (x : St × Int32 × Int32) => fX0_wordsAtLeast_L4 (nI t) (fun σ v2 v3 => kb (σ, v2, v3)) x.1 x.2.1 x.2.2) (sp g).length (by omega) (fun i b => (b.1, nI b.2, nI i)) (fun i b => (∃ f, SE (uA σ 33 f) b.1) ∧ b.2 ≤ 14 * i ∧ ∀ j, j < i → zA b.1 33 j = bi (lsv g lim t ((sp g).getD j 0))) (fun i b z => ∃ f τ, z = some (nI (((sp g).drop i).foldl (lnG g lim t) b.2), τ) ∧ SE (uA σ 33 f) τ) ?_ 0 (σ, 0) (Nat.zero_le _) ⟨⟨zA σ 33, by rw [uA_self]; exact SE.rf σ⟩, Nat.le_refl _, fun j hj => absurd hj (Nat.not_lt_zero _)⟩
  · exact key
  · rintro k ⟨τ, a⟩ hk ⟨⟨f, se⟩, ha, h33⟩ kb hkb
    have se : SE (uA σ 33 f) τ := se
    have ha : a ≤ 14 * k := ha
    have h33 : ∀ j, j < k → zA τ 33 j = bi (lsv g lim t ((sp g).getD j 0)) := h33
    show ∃ f' υ, fX0_wordsAtLeast_L4 _ _ τ (nI a) (nI k) = _ ∧ _
    unfold fX0_wordsAtLeast_L4
    have k2 : RI τ g lim := (RI33 h f).se se
    by_cases hkn : k = (sp g).length
    · refine ⟨f, τ, ?_, se⟩
      rw [hkn, List.drop_length]
      simp (disch := omega) only [l0, l1, l2, l3, l4, l5, l6, l7, l8, l9, l10, l11, l12, l16, l18, l19, l20, l21, l24, l96, l128, l100, l144, l200, l256, l288, l1536, l1728, l1800, bnd, nI_add, pk_mul, pI_sub, pI_m1, pT_le, pF_le, pT_lt, pF_lt, pT_eq, pF_eq, pF_m1, mF_eq, mT_eq, mT_lt, mF_le, lm1, rd_nI, wr_nI, cl_nI, pk_us, un_ne, pk_uLs, uL_ne, zI_uI, zI_uJ, zI_uA, zI_uB, zI_uR, zI_uN, zJ_uI, zJ_uJ, zJ_uA, zJ_uB, zJ_uR, zJ_uN, zA_uI, zA_uJ, zA_uA, zA_uB, zA_uR, zA_uN, zB_uI, zB_uJ, zB_uA, zB_uB, zB_uR, zB_uN, zR_uI, zR_uJ, zR_uA, zR_uB, zR_uR, zR_uN, zN_uI, zN_uJ, zN_uA, zN_uB, zN_uR, zN_uN, zI_ne, zJ_ne, zA_ne, zB_ne, zR_ne, zN_ne, bi_T, bi_F, nz16, ↓reduceIte, not_true_eq_false, not_false_eq_true, Bool.false_eq_true, reduceCtorEq, c_speeches k2.2.1]
      rfl
    · have hv := sp_at (g := g) (i := k) (by omega)
      have hvl := vd_lt hg hv
      have hat := c_speechAt hg k2.2.1 (i := k) (by omega)
      have hof := c_isOf hg (t := t) (by omega) hv
      have hc2 := (vd_ok hg hv).1
      have hw12 := (vd_ok hg hv).2.2.1
      rw [drop_get (by omega), List.foldl_cons]
      -- behind the store of what is lost
      have J : ∀ (υ : St) (b : Bool), SE τ υ → lsv g lim t ((sp g).getD k 0) = b → ∃ f' w, fX0_wordsAtLeast_J68 (fun σ v2 v3 => kb (σ, v2, v3)) υ (nI t) (nI a) (nI k) (nI ((sp g).getD k 0)) (bi (t.testBit ((sp g).getD k 0 / 16))) (bi b) (nI k) = some (nI (List.foldl (lnG g lim t) (lnG g lim t a ((sp g).getD k 0)) (List.drop (k + 1) (sp g))), w) ∧ SE (uA σ 33 f') w := by
        intro υ b se2 hb
        have seA : SE (uA σ 33 (upd (zA υ 33) k (bi b))) (uA υ 33 (upd (zA υ 33) k (bi b))) := SE33 (se.tr se2)
        have k3 : RI (uA υ 33 (upd (zA υ 33) k (bi b))) g lim := RI33 (k2.se se2) _
        have h33' : ∀ j, j < k + 1 → zA (uA υ 33 (upd (zA υ 33) k (bi b))) 33 j = bi (lsv g lim t ((sp g).getD j 0)) := by
          intro j hj
          rw [zA_uA]
          by_cases e : j = k
          · rw [e, pk_us, hb]
          · rw [pk_un e, se2.a 33 (by decide)]
            exact h33 j (by omega)
        have hnar : vp_nar .boolean (bi b) = bi b := by cases b <;> rfl
        have hwl := c_wasLost hg k3.2.1 (k := k) (lim := lim) (t := t) (by omega) (fun j hj => h33' j (by omega))
        have hww := c_ww hg k3.2.1 hv
        have hcw := c_cw hg k3.2.1 hv
        have h33k : zA (uA υ 33 (upd (zA υ 33) k (bi b))) 33 k = bi b := by rw [zA_uA, pk_us]
        generalize hτ' : uA υ 33 (upd (zA υ 33) k (bi b)) = τ' at *
        have nx := fun a' (ha' : a' ≤ 14 * (k + 1)) => hkb (τ', a') (by omega) ⟨⟨_, seA⟩, ha', h33'⟩
        unfold fX0_wordsAtLeast_J68
        rw [hnar, wr_nI (by omega) (by omega), cl_nI (by omega), hτ', bnd]
        unfold lsv at hb
        cases h1 : t.testBit ((sp g).getD k 0 / 16) with
        | false =>
          rw [h1, Bool.false_and] at hb
          subst hb
          have e1 : lnG g lim t a ((sp g).getD k 0) = a := by unfold lnG; rw [if_neg (by rw [h1]; decide)]
          rw [e1]
          simp (disch := omega) only [l0, l1, l2, l3, l4, l5, l6, l7, l8, l9, l10, l11, l12, l16, l18, l19, l20, l21, l24, l96, l128, l100, l144, l200, l256, l288, l1536, l1728, l1800, bnd, nI_add, pk_mul, pI_sub, pI_m1, pT_le, pF_le, pT_lt, pF_lt, pT_eq, pF_eq, pF_m1, mF_eq, mT_eq, mT_lt, mF_le, lm1, rd_nI, wr_nI, cl_nI, pk_us, un_ne, pk_uLs, uL_ne, zI_uI, zI_uJ, zI_uA, zI_uB, zI_uR, zI_uN, zJ_uI, zJ_uJ, zJ_uA, zJ_uB, zJ_uR, zJ_uN, zA_uI, zA_uJ, zA_uA, zA_uB, zA_uR, zA_uN, zB_uI, zB_uJ, zB_uA, zB_uB, zB_uR, zB_uN, zR_uI, zR_uJ, zR_uA, zR_uB, zR_uR, zR_uN, zN_uI, zN_uJ, zN_uA, zN_uB, zN_uR, zN_uN, zI_ne, zJ_ne, zA_ne, zB_ne, zR_ne, zN_ne, bi_T, bi_F, nz16, ↓reduceIte, not_true_eq_false, not_false_eq_true, Bool.false_eq_true, reduceCtorEq, h33k]
          exact nx a (by omega)
        | true =>
          rw [h1, Bool.true_and] at hb
          by_cases h5 : kd g lim t ((sp g).getD k 0) = 5
          · rw [decide_eq_true h5] at hb
            subst hb
            cases ho : old g lim t ((sp g).getD k 0) with
            | true =>
              rw [ho] at hwl
              have e1 : lnG g lim t a ((sp g).getD k 0) = a + (gW g ((sp g).getD k 0)).length := by unfold lnG; rw [if_pos h1, if_pos h5, if_pos ho]; rfl
              rw [e1]
              simp (disch := omega) only [l0, l1, l2, l3, l4, l5, l6, l7, l8, l9, l10, l11, l12, l16, l18, l19, l20, l21, l24, l96, l128, l100, l144, l200, l256, l288, l1536, l1728, l1800, bnd, nI_add, pk_mul, pI_sub, pI_m1, pT_le, pF_le, pT_lt, pF_lt, pT_eq, pF_eq, pF_m1, mF_eq, mT_eq, mT_lt, mF_le, lm1, rd_nI, wr_nI, cl_nI, pk_us, un_ne, pk_uLs, uL_ne, zI_uI, zI_uJ, zI_uA, zI_uB, zI_uR, zI_uN, zJ_uI, zJ_uJ, zJ_uA, zJ_uB, zJ_uR, zJ_uN, zA_uI, zA_uJ, zA_uA, zA_uB, zA_uR, zA_uN, zB_uI, zB_uJ, zB_uA, zB_uB, zB_uR, zB_uN, zR_uI, zR_uJ, zR_uA, zR_uB, zR_uR, zR_uN, zN_uI, zN_uJ, zN_uA, zN_uB, zN_uR, zN_uN, zI_ne, zJ_ne, zA_ne, zB_ne, zR_ne, zN_ne, bi_T, bi_F, nz16, ↓reduceIte, not_true_eq_false, not_false_eq_true, Bool.false_eq_true, reduceCtorEq, h33k, hww, hwl]
              exact nx _ (by omega)
            | false =>
              rw [ho] at hwl
              have e1 : lnG g lim t a ((sp g).getD k 0) = a + (gW g ((sp g).getD k 0)).length + (gC g ((sp g).getD k 0)).length := by unfold lnG; rw [if_pos h1, if_pos h5, if_neg (by rw [ho]; decide)]
              rw [e1]
              simp (disch := omega) only [l0, l1, l2, l3, l4, l5, l6, l7, l8, l9, l10, l11, l12, l16, l18, l19, l20, l21, l24, l96, l128, l100, l144, l200, l256, l288, l1536, l1728, l1800, bnd, nI_add, pk_mul, pI_sub, pI_m1, pT_le, pF_le, pT_lt, pF_lt, pT_eq, pF_eq, pF_m1, mF_eq, mT_eq, mT_lt, mF_le, lm1, rd_nI, wr_nI, cl_nI, pk_us, un_ne, pk_uLs, uL_ne, zI_uI, zI_uJ, zI_uA, zI_uB, zI_uR, zI_uN, zJ_uI, zJ_uJ, zJ_uA, zJ_uB, zJ_uR, zJ_uN, zA_uI, zA_uJ, zA_uA, zA_uB, zA_uR, zA_uN, zB_uI, zB_uJ, zB_uA, zB_uB, zB_uR, zB_uN, zR_uI, zR_uJ, zR_uA, zR_uB, zR_uR, zR_uN, zN_uI, zN_uJ, zN_uA, zN_uB, zN_uR, zN_uN, zI_ne, zJ_ne, zA_ne, zB_ne, zR_ne, zN_ne, bi_T, bi_F, nz16, ↓reduceIte, not_true_eq_false, not_false_eq_true, Bool.false_eq_true, reduceCtorEq, h33k, hww, hwl, hcw]
              exact nx _ (by omega)
          · rw [decide_eq_false h5] at hb
            subst hb
            have e1 : lnG g lim t a ((sp g).getD k 0) = a + (gW g ((sp g).getD k 0)).length := by unfold lnG; rw [if_pos h1, if_neg h5]; rfl
            rw [e1]
            simp (disch := omega) only [l0, l1, l2, l3, l4, l5, l6, l7, l8, l9, l10, l11, l12, l16, l18, l19, l20, l21, l24, l96, l128, l100, l144, l200, l256, l288, l1536, l1728, l1800, bnd, nI_add, pk_mul, pI_sub, pI_m1, pT_le, pF_le, pT_lt, pF_lt, pT_eq, pF_eq, pF_m1, mF_eq, mT_eq, mT_lt, mF_le, lm1, rd_nI, wr_nI, cl_nI, pk_us, un_ne, pk_uLs, uL_ne, zI_uI, zI_uJ, zI_uA, zI_uB, zI_uR, zI_uN, zJ_uI, zJ_uJ, zJ_uA, zJ_uB, zJ_uR, zJ_uN, zA_uI, zA_uJ, zA_uA, zA_uB, zA_uR, zA_uN, zB_uI, zB_uJ, zB_uA, zB_uB, zB_uR, zB_uN, zR_uI, zR_uJ, zR_uA, zR_uB, zR_uR, zR_uN, zN_uI, zN_uJ, zN_uA, zN_uB, zN_uR, zN_uN, zI_ne, zJ_ne, zA_ne, zB_ne, zR_ne, zN_ne, bi_T, bi_F, nz16, ↓reduceIte, not_true_eq_false, not_false_eq_true, Bool.false_eq_true, reduceCtorEq, h33k, hww]
            exact nx _ (by omega)
      cases h1 : t.testBit ((sp g).getD k 0 / 16) with
      | false =>
        rw [h1] at hof J
        obtain ⟨f', w, e, s2⟩ := J τ false (SE.rf τ) (by unfold lsv; rw [h1, Bool.false_and])
        rw [bi_F] at e
        refine ⟨f', w, ?_, s2⟩
        simp (disch := omega) only [l0, l1, l2, l3, l4, l5, l6, l7, l8, l9, l10, l11, l12, l16, l18, l19, l20, l21, l24, l96, l128, l100, l144, l200, l256, l288, l1536, l1728, l1800, bnd, nI_add, pk_mul, pI_sub, pI_m1, pT_le, pF_le, pT_lt, pF_lt, pT_eq, pF_eq, pF_m1, mF_eq, mT_eq, mT_lt, mF_le, lm1, rd_nI, wr_nI, cl_nI, pk_us, un_ne, pk_uLs, uL_ne, zI_uI, zI_uJ, zI_uA, zI_uB, zI_uR, zI_uN, zJ_uI, zJ_uJ, zJ_uA, zJ_uB, zJ_uR, zJ_uN, zA_uI, zA_uJ, zA_uA, zA_uB, zA_uR, zA_uN, zB_uI, zB_uJ, zB_uA, zB_uB, zB_uR, zB_uN, zR_uI, zR_uJ, zR_uA, zR_uB, zR_uR, zR_uN, zN_uI, zN_uJ, zN_uA, zN_uB, zN_uR, zN_uN, zI_ne, zJ_ne, zA_ne, zB_ne, zR_ne, zN_ne, bi_T, bi_F, nz16, ↓reduceIte, not_true_eq_false, not_false_eq_true, Bool.false_eq_true, reduceCtorEq, c_speeches k2.2.1, hat, hof]
        exact e
      | true =>
        rw [h1] at hof J
        obtain ⟨υ, d1, d2⟩ := c_kindOf hg k2.2.1 hv ht (show lim < 100 by omega) k2.2.2.2.2.1
        have hkd := kd_le g lim t ((sp g).getD k 0)
        by_cases h5 : kd g lim t ((sp g).getD k 0) = 5
        · obtain ⟨f', w, e, s2⟩ := J υ true d2 (by unfold lsv; rw [h1, decide_eq_true h5]; rfl)
          rw [bi_T] at e
          rw [h5] at d1
          refine ⟨f', w, ?_, s2⟩
          simp (disch := omega) only [l0, l1, l2, l3, l4, l5, l6, l7, l8, l9, l10, l11, l12, l16, l18, l19, l20, l21, l24, l96, l128, l100, l144, l200, l256, l288, l1536, l1728, l1800, bnd, nI_add, pk_mul, pI_sub, pI_m1, pT_le, pF_le, pT_lt, pF_lt, pT_eq, pF_eq, pF_m1, mF_eq, mT_eq, mT_lt, mF_le, lm1, rd_nI, wr_nI, cl_nI, pk_us, un_ne, pk_uLs, uL_ne, zI_uI, zI_uJ, zI_uA, zI_uB, zI_uR, zI_uN, zJ_uI, zJ_uJ, zJ_uA, zJ_uB, zJ_uR, zJ_uN, zA_uI, zA_uJ, zA_uA, zA_uB, zA_uR, zA_uN, zB_uI, zB_uJ, zB_uA, zB_uB, zB_uR, zB_uN, zR_uI, zR_uJ, zR_uA, zR_uB, zR_uR, zR_uN, zN_uI, zN_uJ, zN_uA, zN_uB, zN_uR, zN_uN, zI_ne, zJ_ne, zA_ne, zB_ne, zR_ne, zN_ne, bi_T, bi_F, nz16, ↓reduceIte, not_true_eq_false, not_false_eq_true, Bool.false_eq_true, reduceCtorEq, c_speeches k2.2.1, hat, hof, d1]
          exact e
        · obtain ⟨f', w, e, s2⟩ := J υ false d2 (by unfold lsv; rw [h1, decide_eq_false h5]; rfl)
          rw [bi_F, bi_T] at e
          refine ⟨f', w, ?_, s2⟩
          simp (disch := omega) only [l0, l1, l2, l3, l4, l5, l6, l7, l8, l9, l10, l11, l12, l16, l18, l19, l20, l21, l24, l96, l128, l100, l144, l200, l256, l288, l1536, l1728, l1800, bnd, nI_add, pk_mul, pI_sub, pI_m1, pT_le, pF_le, pT_lt, pF_lt, pT_eq, pF_eq, pF_m1, mF_eq, mT_eq, mT_lt, mF_le, lm1, rd_nI, wr_nI, cl_nI, pk_us, un_ne, pk_uLs, uL_ne, zI_uI, zI_uJ, zI_uA, zI_uB, zI_uR, zI_uN, zJ_uI, zJ_uJ, zJ_uA, zJ_uB, zJ_uR, zJ_uN, zA_uI, zA_uJ, zA_uA, zA_uB, zA_uR, zA_uN, zB_uI, zB_uJ, zB_uA, zB_uB, zB_uR, zB_uN, zR_uI, zR_uJ, zR_uA, zR_uB, zR_uR, zR_uN, zN_uI, zN_uJ, zN_uA, zN_uB, zN_uR, zN_uN, zI_ne, zJ_ne, zA_ne, zB_ne, zR_ne, zN_ne, bi_T, bi_F, nz16, ↓reduceIte, not_true_eq_false, not_false_eq_true, Bool.false_eq_true, reduceCtorEq, c_speeches k2.2.1, hat, hof, d1]
          exact e
theorem m_old {σ : St} {g : Gh} {lim : Nat} (h : RI σ g lim) {t s : Nat} (hal : al g t = true) (hv : vd g s = true) (v2 : Int32) (k1 : St → Int32 → Option (Int32 × St)) {R : Option (Int32 × St) → Prop} (hR : ∀ τ, SE σ τ → R (k1 τ (bi (old g lim t s)))) : R (fX12_length_P66 (nI t) v2 (nI s) k1 σ (nI 0) (nI 0)) := by
  have hg := h.1
  have hl8 := h.2.2.2.1
  have ht := al_lt hg hal
  have hs := vd_lt hg hv
  have key := it_for (β := St × Bool) (body := fun (kb : (St × Int32 × Int32) → Option (Int32 × St)) (x : St × Int32 × Int32) => fX12_length_L66 (nI t) v2 (nI s) k1 (fun σ v4 v5 => kb (σ, v4, v5)) x.1 x.2.1 x.2.2) s (by omega) (fun i b => (b.1, bi b.2, nI i)) (fun i b => SE σ b.1 ∧ (b.2 || ((List.range s).drop i).any (fun o => vd g o && (lsv g lim t o && decide (gC g s = gC g o)))) = old g lim t s) (fun i b z => R z) ?_ 0 (σ, false) (Nat.zero_le _) ⟨SE.rf σ, rfl⟩
  · exact key
  · rintro i ⟨τ, b⟩ hi ⟨se, hb⟩ kb hkb
    have se : SE σ τ := se
    have hb : (b || ((List.range s).drop i).any (fun o => vd g o && (lsv g lim t o && decide (gC g s = gC g o)))) = old g lim t s := hb
    show R (fX12_length_L66 _ _ _ _ _ τ (bi b) (nI i))
    unfold fX12_length_L66
    have k2 := h.se se
    by_cases hin : i = s
    · have e1 : (List.range s).drop i = [] := List.drop_of_length_le (by rw [List.length_range]; omega)
      rw [e1, List.any_nil, Bool.or_false] at hb
      have := hR τ se
      rw [← hb] at this
      simp (disch := omega) only [l0, l1, l2, l3, l4, l5, l6, l7, l8, l9, l10, l11, l12, l16, l18, l19, l20, l21, l24, l96, l128, l100, l144, l200, l256, l288, l1536, l1728, l1800, bnd, nI_add, pk_mul, pI_sub, pI_m1, pT_le, pF_le, pT_lt, pF_lt, pT_eq, pF_eq, pF_m1, mF_eq, mT_eq, mT_lt, mF_le, lm1, rd_nI, wr_nI, cl_nI, pk_us, un_ne, pk_uLs, uL_ne, zI_uI, zI_uJ, zI_uA, zI_uB, zI_uR, zI_uN, zJ_uI, zJ_uJ, zJ_uA, zJ_uB, zJ_uR, zJ_uN, zA_uI, zA_uJ, zA_uA, zA_uB, zA_uR, zA_uN, zB_uI, zB_uJ, zB_uA, zB_uB, zB_uR, zB_uN, zR_uI, zR_uJ, zR_uA, zR_uB, zR_uR, zR_uN, zN_uI, zN_uJ, zN_uA, zN_uB, zN_uR, zN_uN, zI_ne, zJ_ne, zA_ne, zB_ne, zR_ne, zN_ne, bi_T, bi_F, nz16, ↓reduceIte, not_true_eq_false, not_false_eq_true, Bool.false_eq_true, reduceCtorEq, hin]
      exact this
    · rw [rng_drop (by omega), List.any_cons, ← Bool.or_assoc] at hb
      cases b with
      | true =>
        rw [Bool.true_or] at hb
        have nx := hkb (τ, true) (by omega) ⟨se, hb⟩
        simp (disch := omega) only [l0, l1, l2, l3, l4, l5, l6, l7, l8, l9, l10, l11, l12, l16, l18, l19, l20, l21, l24, l96, l128, l100, l144, l200, l256, l288, l1536, l1728, l1800, bnd, nI_add, pk_mul, pI_sub, pI_m1, pT_le, pF_le, pT_lt, pF_lt, pT_eq, pF_eq, pF_m1, mF_eq, mT_eq, mT_lt, mF_le, lm1, rd_nI, wr_nI, cl_nI, pk_us, un_ne, pk_uLs, uL_ne, zI_uI, zI_uJ, zI_uA, zI_uB, zI_uR, zI_uN, zJ_uI, zJ_uJ, zJ_uA, zJ_uB, zJ_uR, zJ_uN, zA_uI, zA_uJ, zA_uA, zA_uB, zA_uR, zA_uN, zB_uI, zB_uJ, zB_uA, zB_uB, zB_uR, zB_uN, zR_uI, zR_uJ, zR_uA, zR_uB, zR_uR, zR_uN, zN_uI, zN_uJ, zN_uA, zN_uB, zN_uR, zN_uN, zI_ne, zJ_ne, zA_ne, zB_ne, zR_ne, zN_ne, bi_T, bi_F, nz16, ↓reduceIte, not_true_eq_false, not_false_eq_true, Bool.false_eq_true, reduceCtorEq]
        exact nx
      | false =>
        rw [Bool.false_or] at hb
        have hof := m_isOf (t := t) (s := i) hg k2.2.2.1 (by omega) (by omega)
        rw [hal, Bool.true_and] at hof
        have seF : ∀ υ, SE τ υ → (vd g i && (lsv g lim t i && decide (gC g s = gC g i))) = false → R (kb (υ, bi false, nI (i + 1))) := by
          intro υ se2 hx
          rw [hx] at hb
          exact hkb (υ, false) (by omega) ⟨se.tr se2, hb⟩
        cases h1 : vd g i with
        | false =>
          rw [h1] at hof
          have nx := seF τ (SE.rf τ) (by rw [h1]; rfl)
          rw [bi_F] at nx
          simp (disch := omega) only [l0, l1, l2, l3, l4, l5, l6, l7, l8, l9, l10, l11, l12, l16, l18, l19, l20, l21, l24, l96, l128, l100, l144, l200, l256, l288, l1536, l1728, l1800, bnd, nI_add, pk_mul, pI_sub, pI_m1, pT_le, pF_le, pT_lt, pF_lt, pT_eq, pF_eq, pF_m1, mF_eq, mT_eq, mT_lt, mF_le, lm1, rd_nI, wr_nI, cl_nI, pk_us, un_ne, pk_uLs, uL_ne, zI_uI, zI_uJ, zI_uA, zI_uB, zI_uR, zI_uN, zJ_uI, zJ_uJ, zJ_uA, zJ_uB, zJ_uR, zJ_uN, zA_uI, zA_uJ, zA_uA, zA_uB, zA_uR, zA_uN, zB_uI, zB_uJ, zB_uA, zB_uB, zB_uR, zB_uN, zR_uI, zR_uJ, zR_uA, zR_uB, zR_uR, zR_uN, zN_uI, zN_uJ, zN_uA, zN_uB, zN_uR, zN_uN, zI_ne, zJ_ne, zA_ne, zB_ne, zR_ne, zN_ne, bi_T, bi_F, nz16, ↓reduceIte, not_true_eq_false, not_false_eq_true, Bool.false_eq_true, reduceCtorEq, hof, Bool.false_and]
          exact nx
        | true =>
          rw [h1] at hof
          cases h2 : t.testBit (i / 16) with
          | false =>
            rw [h2] at hof
            have nx := seF τ (SE.rf τ) (by unfold lsv; rw [h2]; simp)
            rw [bi_F] at nx
            simp (disch := omega) only [l0, l1, l2, l3, l4, l5, l6, l7, l8, l9, l10, l11, l12, l16, l18, l19, l20, l21, l24, l96, l128, l100, l144, l200, l256, l288, l1536, l1728, l1800, bnd, nI_add, pk_mul, pI_sub, pI_m1, pT_le, pF_le, pT_lt, pF_lt, pT_eq, pF_eq, pF_m1, mF_eq, mT_eq, mT_lt, mF_le, lm1, rd_nI, wr_nI, cl_nI, pk_us, un_ne, pk_uLs, uL_ne, zI_uI, zI_uJ, zI_uA, zI_uB, zI_uR, zI_uN, zJ_uI, zJ_uJ, zJ_uA, zJ_uB, zJ_uR, zJ_uN, zA_uI, zA_uJ, zA_uA, zA_uB, zA_uR, zA_uN, zB_uI, zB_uJ, zB_uA, zB_uB, zB_uR, zB_uN, zR_uI, zR_uJ, zR_uA, zR_uB, zR_uR, zR_uN, zN_uI, zN_uJ, zN_uA, zN_uB, zN_uR, zN_uN, zI_ne, zJ_ne, zA_ne, zB_ne, zR_ne, zN_ne, bi_T, bi_F, nz16, ↓reduceIte, not_true_eq_false, not_false_eq_true, Bool.false_eq_true, reduceCtorEq, hof, Bool.and_false]
            exact nx
          | true =>
            rw [h2] at hof
            have hsc := m_sameCue hg k2.2.2.1 hv h1
            by_cases h3 : gC g s = gC g i
            · rw [decide_eq_true h3] at hsc
              obtain ⟨υ, d1, d2⟩ := m_kindOf hg k2.2.2.1 h1 ht (show lim < 100 by omega) k2.2.2.2.2.2
              have hkd := kd_le g lim t i
              by_cases h5 : kd g lim t i = 5
              · have hx : (vd g i && (lsv g lim t i && decide (gC g s = gC g i))) = true := by
                  unfold lsv; rw [h1, h2, decide_eq_true h5, decide_eq_true h3]; rfl
                rw [hx] at hb
                have nx := hkb (υ, true) (by omega) ⟨se.tr d2, hb⟩
                rw [h5] at d1
                simp (disch := omega) only [l0, l1, l2, l3, l4, l5, l6, l7, l8, l9, l10, l11, l12, l16, l18, l19, l20, l21, l24, l96, l128, l100, l144, l200, l256, l288, l1536, l1728, l1800, bnd, nI_add, pk_mul, pI_sub, pI_m1, pT_le, pF_le, pT_lt, pF_lt, pT_eq, pF_eq, pF_m1, mF_eq, mT_eq, mT_lt, mF_le, lm1, rd_nI, wr_nI, cl_nI, pk_us, un_ne, pk_uLs, uL_ne, zI_uI, zI_uJ, zI_uA, zI_uB, zI_uR, zI_uN, zJ_uI, zJ_uJ, zJ_uA, zJ_uB, zJ_uR, zJ_uN, zA_uI, zA_uJ, zA_uA, zA_uB, zA_uR, zA_uN, zB_uI, zB_uJ, zB_uA, zB_uB, zB_uR, zB_uN, zR_uI, zR_uJ, zR_uA, zR_uB, zR_uR, zR_uN, zN_uI, zN_uJ, zN_uA, zN_uB, zN_uR, zN_uN, zI_ne, zJ_ne, zA_ne, zB_ne, zR_ne, zN_ne, bi_T, bi_F, nz16, ↓reduceIte, not_true_eq_false, not_false_eq_true, Bool.false_eq_true, reduceCtorEq, hof, Bool.and_true, hsc, d1]
                exact nx
              · have nx := seF υ d2 (by unfold lsv; rw [decide_eq_false h5]; simp)
                rw [bi_F] at nx
                simp (disch := omega) only [l0, l1, l2, l3, l4, l5, l6, l7, l8, l9, l10, l11, l12, l16, l18, l19, l20, l21, l24, l96, l128, l100, l144, l200, l256, l288, l1536, l1728, l1800, bnd, nI_add, pk_mul, pI_sub, pI_m1, pT_le, pF_le, pT_lt, pF_lt, pT_eq, pF_eq, pF_m1, mF_eq, mT_eq, mT_lt, mF_le, lm1, rd_nI, wr_nI, cl_nI, pk_us, un_ne, pk_uLs, uL_ne, zI_uI, zI_uJ, zI_uA, zI_uB, zI_uR, zI_uN, zJ_uI, zJ_uJ, zJ_uA, zJ_uB, zJ_uR, zJ_uN, zA_uI, zA_uJ, zA_uA, zA_uB, zA_uR, zA_uN, zB_uI, zB_uJ, zB_uA, zB_uB, zB_uR, zB_uN, zR_uI, zR_uJ, zR_uA, zR_uB, zR_uR, zR_uN, zN_uI, zN_uJ, zN_uA, zN_uB, zN_uR, zN_uN, zI_ne, zJ_ne, zA_ne, zB_ne, zR_ne, zN_ne, bi_T, bi_F, nz16, ↓reduceIte, not_true_eq_false, not_false_eq_true, Bool.false_eq_true, reduceCtorEq, hof, Bool.and_true, hsc, d1]
                exact nx
            · rw [decide_eq_false h3] at hsc
              have nx := seF τ (SE.rf τ) (by rw [decide_eq_false h3]; simp)
              rw [bi_F] at nx
              simp (disch := omega) only [l0, l1, l2, l3, l4, l5, l6, l7, l8, l9, l10, l11, l12, l16, l18, l19, l20, l21, l24, l96, l128, l100, l144, l200, l256, l288, l1536, l1728, l1800, bnd, nI_add, pk_mul, pI_sub, pI_m1, pT_le, pF_le, pT_lt, pF_lt, pT_eq, pF_eq, pF_m1, mF_eq, mT_eq, mT_lt, mF_le, lm1, rd_nI, wr_nI, cl_nI, pk_us, un_ne, pk_uLs, uL_ne, zI_uI, zI_uJ, zI_uA, zI_uB, zI_uR, zI_uN, zJ_uI, zJ_uJ, zJ_uA, zJ_uB, zJ_uR, zJ_uN, zA_uI, zA_uJ, zA_uA, zA_uB, zA_uR, zA_uN, zB_uI, zB_uJ, zB_uA, zB_uB, zB_uR, zB_uN, zR_uI, zR_uJ, zR_uA, zR_uB, zR_uR, zR_uN, zN_uI, zN_uJ, zN_uA, zN_uB, zN_uR, zN_uN, zI_ne, zJ_ne, zA_ne, zB_ne, zR_ne, zN_ne, bi_T, bi_F, nz16, ↓reduceIte, not_true_eq_false, not_false_eq_true, Bool.false_eq_true, reduceCtorEq, hof, Bool.and_true, hsc]
              exact nx
theorem m_length {σ : St} {g : Gh} {lim : Nat} (h : RI σ g lim) {t : Nat} (hal : al g t = true) : ∃ τ, fX12_length_P19 (nI t) σ (nI 0) (nI 0) = some (nI ((sp g).foldl (lnG g lim t) 0), τ) ∧ SE σ τ := by
  have hg := h.1
  have hl8 := h.2.2.2.1
  have ht := al_lt hg hal
  have key := it_for (β := St × Nat) (body := fun (kb : (St × Int32 × Int32) → Option (Int32 × St)) (x : St × Int32 × Int32) => fX12_length_L19 (nI t) (fun σ v2 v3 => kb (σ, v2, v3)) x.1 x.2.1 x.2.2) 128 (by omega) (fun i b => (b.1, nI b.2, nI i)) (fun i b => SE σ b.1 ∧ b.2 ≤ 14 * i) (fun i b z => ∃ τ, z = some (nI (((List.range 128).drop i).foldl (fun x o => if vd g o = true then lnG g lim t x o else x) b.2), τ) ∧ SE σ τ) ?_ 0 (σ, 0) (Nat.zero_le _) ⟨SE.rf σ, Nat.le_refl _⟩
  · rw [List.drop_zero, sp_foldl g (lnG g lim t) 0] at key
    exact key
  · rintro i ⟨τ, a⟩ hi ⟨se, ha⟩ kb hkb
    have se : SE σ τ := se
    have ha : a ≤ 14 * i := ha
    show ∃ υ, fX12_length_L19 _ _ τ (nI a) (nI i) = _ ∧ _
    unfold fX12_length_L19
    have k2 := h.se se
    by_cases hin : i = 128
    · refine ⟨τ, ?_, se⟩
      have e1 : (List.range 128).drop i = [] := List.drop_of_length_le (by rw [List.length_range]; omega)
      rw [e1]
      simp (disch := omega) only [l0, l1, l2, l3, l4, l5, l6, l7, l8, l9, l10, l11, l12, l16, l18, l19, l20, l21, l24, l96, l128, l100, l144, l200, l256, l288, l1536, l1728, l1800, bnd, nI_add, pk_mul, pI_sub, pI_m1, pT_le, pF_le, pT_lt, pF_lt, pT_eq, pF_eq, pF_m1, mF_eq, mT_eq, mT_lt, mF_le, lm1, rd_nI, wr_nI, cl_nI, pk_us, un_ne, pk_uLs, uL_ne, zI_uI, zI_uJ, zI_uA, zI_uB, zI_uR, zI_uN, zJ_uI, zJ_uJ, zJ_uA, zJ_uB, zJ_uR, zJ_uN, zA_uI, zA_uJ, zA_uA, zA_uB, zA_uR, zA_uN, zB_uI, zB_uJ, zB_uA, zB_uB, zB_uR, zB_uN, zR_uI, zR_uJ, zR_uA, zR_uB, zR_uR, zR_uN, zN_uI, zN_uJ, zN_uA, zN_uB, zN_uR, zN_uN, zI_ne, zJ_ne, zA_ne, zB_ne, zR_ne, zN_ne, bi_T, bi_F, nz16, ↓reduceIte, not_true_eq_false, not_false_eq_true, Bool.false_eq_true, reduceCtorEq]
      rfl
    · have hof := m_isOf (t := t) (s := i) hg k2.2.2.1 (by omega) (by omega)
      rw [hal, Bool.true_and] at hof
      rw [rng_drop (by omega), List.foldl_cons]
      cases hv : vd g i with
      | false =>
        rw [hv] at hof
        obtain ⟨w, e, se2⟩ := hkb (τ, a) (by omega) ⟨se, by show a ≤ 14 * (i + 1); omega⟩
        refine ⟨w, ?_, se2⟩
        simp (disch := omega) only [l0, l1, l2, l3, l4, l5, l6, l7, l8, l9, l10, l11, l12, l16, l18, l19, l20, l21, l24, l96, l128, l100, l144, l200, l256, l288, l1536, l1728, l1800, bnd, nI_add, pk_mul, pI_sub, pI_m1, pT_le, pF_le, pT_lt, pF_lt, pT_eq, pF_eq, pF_m1, mF_eq, mT_eq, mT_lt, mF_le, lm1, rd_nI, wr_nI, cl_nI, pk_us, un_ne, pk_uLs, uL_ne, zI_uI, zI_uJ, zI_uA, zI_uB, zI_uR, zI_uN, zJ_uI, zJ_uJ, zJ_uA, zJ_uB, zJ_uR, zJ_uN, zA_uI, zA_uJ, zA_uA, zA_uB, zA_uR, zA_uN, zB_uI, zB_uJ, zB_uA, zB_uB, zB_uR, zB_uN, zR_uI, zR_uJ, zR_uA, zR_uB, zR_uR, zR_uN, zN_uI, zN_uJ, zN_uA, zN_uB, zN_uR, zN_uN, zI_ne, zJ_ne, zA_ne, zB_ne, zR_ne, zN_ne, bi_T, bi_F, nz16, ↓reduceIte, not_true_eq_false, not_false_eq_true, Bool.false_eq_true, reduceCtorEq, hof, Bool.false_and]
        exact e
      | true =>
        rw [hv] at hof
        rw [if_pos rfl]
        have hc2 := (vd_ok hg hv).1
        have hw12 := (vd_ok hg hv).2.2.1
        have a62 := (k2.2.2.1.2.2 i hv).2.1
        cases h1 : t.testBit (i / 16) with
        | false =>
          rw [h1] at hof
          have e1 : lnG g lim t a i = a := by unfold lnG; rw [if_neg (by rw [h1]; decide)]
          obtain ⟨w, e, se2⟩ := hkb (τ, a) (by omega) ⟨se, by show a ≤ 14 * (i + 1); omega⟩
          refine ⟨w, ?_, se2⟩
          simp (disch := omega) only [l0, l1, l2, l3, l4, l5, l6, l7, l8, l9, l10, l11, l12, l16, l18, l19, l20, l21, l24, l96, l128, l100, l144, l200, l256, l288, l1536, l1728, l1800, bnd, nI_add, pk_mul, pI_sub, pI_m1, pT_le, pF_le, pT_lt, pF_lt, pT_eq, pF_eq, pF_m1, mF_eq, mT_eq, mT_lt, mF_le, lm1, rd_nI, wr_nI, cl_nI, pk_us, un_ne, pk_uLs, uL_ne, zI_uI, zI_uJ, zI_uA, zI_uB, zI_uR, zI_uN, zJ_uI, zJ_uJ, zJ_uA, zJ_uB, zJ_uR, zJ_uN, zA_uI, zA_uJ, zA_uA, zA_uB, zA_uR, zA_uN, zB_uI, zB_uJ, zB_uA, zB_uB, zB_uR, zB_uN, zR_uI, zR_uJ, zR_uA, zR_uB, zR_uR, zR_uN, zN_uI, zN_uJ, zN_uA, zN_uB, zN_uR, zN_uN, zI_ne, zJ_ne, zA_ne, zB_ne, zR_ne, zN_ne, bi_T, bi_F, nz16, ↓reduceIte, not_true_eq_false, not_false_eq_true, Bool.false_eq_true, reduceCtorEq, hof, Bool.and_false, e1]
          exact e
        | true =>
          rw [h1] at hof
          obtain ⟨υ, d1, d2⟩ := m_kindOf hg k2.2.2.1 hv ht (show lim < 100 by omega) k2.2.2.2.2.2
          have hkd := kd_le g lim t i
          by_cases h5 : kd g lim t i = 5
          · rw [h5] at d1
            simp (disch := omega) only [l0, l1, l2, l3, l4, l5, l6, l7, l8, l9, l10, l11, l12, l16, l18, l19, l20, l21, l24, l96, l128, l100, l144, l200, l256, l288, l1536, l1728, l1800, bnd, nI_add, pk_mul, pI_sub, pI_m1, pT_le, pF_le, pT_lt, pF_lt, pT_eq, pF_eq, pF_m1, mF_eq, mT_eq, mT_lt, mF_le, lm1, rd_nI, wr_nI, cl_nI, pk_us, un_ne, pk_uLs, uL_ne, zI_uI, zI_uJ, zI_uA, zI_uB, zI_uR, zI_uN, zJ_uI, zJ_uJ, zJ_uA, zJ_uB, zJ_uR, zJ_uN, zA_uI, zA_uJ, zA_uA, zA_uB, zA_uR, zA_uN, zB_uI, zB_uJ, zB_uA, zB_uB, zB_uR, zB_uN, zR_uI, zR_uJ, zR_uA, zR_uB, zR_uR, zR_uN, zN_uI, zN_uJ, zN_uA, zN_uB, zN_uR, zN_uN, zI_ne, zJ_ne, zA_ne, zB_ne, zR_ne, zN_ne, bi_T, bi_F, nz16, ↓reduceIte, not_true_eq_false, not_false_eq_true, Bool.false_eq_true, reduceCtorEq, hof, Bool.and_true, a62, d1]
            refine m_old (R := fun z => ∃ w, z = some (nI (List.foldl (fun x o => if vd g o = true then lnG g lim t x o else x) (lnG g lim t a i) (List.drop (i + 1) (List.range 128))), w) ∧ SE σ w) (k2.se d2) (t := t) (s := i) hal hv _ _ (fun w d3 => ?_)
            have a61 := ((k2.se (d2.tr d3)).2.2.1.2.2 i hv).1
            cases ho : old g lim t i with
            | true =>
              have e1 : lnG g lim t a i = a + (gW g i).length := by unfold lnG; rw [if_pos h1, if_pos h5, if_pos ho]; rfl
              obtain ⟨w2, e, se2⟩ := hkb (w, a + (gW g i).length) (by omega) ⟨(se.tr d2).tr d3, by show a + (gW g i).length ≤ 14 * (i + 1); omega⟩
              refine ⟨w2, ?_, se2⟩
              simp (disch := omega) only [l0, l1, l2, l3, l4, l5, l6, l7, l8, l9, l10, l11, l12, l16, l18, l19, l20, l21, l24, l96, l128, l100, l144, l200, l256, l288, l1536, l1728, l1800, bnd, nI_add, pk_mul, pI_sub, pI_m1, pT_le, pF_le, pT_lt, pF_lt, pT_eq, pF_eq, pF_m1, mF_eq, mT_eq, mT_lt, mF_le, lm1, rd_nI, wr_nI, cl_nI, pk_us, un_ne, pk_uLs, uL_ne, zI_uI, zI_uJ, zI_uA, zI_uB, zI_uR, zI_uN, zJ_uI, zJ_uJ, zJ_uA, zJ_uB, zJ_uR, zJ_uN, zA_uI, zA_uJ, zA_uA, zA_uB, zA_uR, zA_uN, zB_uI, zB_uJ, zB_uA, zB_uB, zB_uR, zB_uN, zR_uI, zR_uJ, zR_uA, zR_uB, zR_uR, zR_uN, zN_uI, zN_uJ, zN_uA, zN_uB, zN_uR, zN_uN, zI_ne, zJ_ne, zA_ne, zB_ne, zR_ne, zN_ne, bi_T, bi_F, nz16, ↓reduceIte, not_true_eq_false, not_false_eq_true, Bool.false_eq_true, reduceCtorEq, e1]
              exact e
            | false =>
              have e1 : lnG g lim t a i = a + (gW g i).length + (gC g i).length := by unfold lnG; rw [if_pos h1, if_pos h5, if_neg (by rw [ho]; decide)]
              obtain ⟨w2, e, se2⟩ := hkb (w, a + (gW g i).length + (gC g i).length) (by omega) ⟨(se.tr d2).tr d3, by show a + (gW g i).length + (gC g i).length ≤ 14 * (i + 1); omega⟩
              refine ⟨w2, ?_, se2⟩
              simp (disch := omega) only [l0, l1, l2, l3, l4, l5, l6, l7, l8, l9, l10, l11, l12, l16, l18, l19, l20, l21, l24, l96, l128, l100, l144, l200, l256, l288, l1536, l1728, l1800, bnd, nI_add, pk_mul, pI_sub, pI_m1, pT_le, pF_le, pT_lt, pF_lt, pT_eq, pF_eq, pF_m1, mF_eq, mT_eq, mT_lt, mF_le, lm1, rd_nI, wr_nI, cl_nI, pk_us, un_ne, pk_uLs, uL_ne, zI_uI, zI_uJ, zI_uA, zI_uB, zI_uR, zI_uN, zJ_uI, zJ_uJ, zJ_uA, zJ_uB, zJ_uR, zJ_uN, zA_uI, zA_uJ, zA_uA, zA_uB, zA_uR, zA_uN, zB_uI, zB_uJ, zB_uA, zB_uB, zB_uR, zB_uN, zR_uI, zR_uJ, zR_uA, zR_uB, zR_uR, zR_uN, zN_uI, zN_uJ, zN_uA, zN_uB, zN_uR, zN_uN, zI_ne, zJ_ne, zA_ne, zB_ne, zR_ne, zN_ne, bi_T, bi_F, nz16, ↓reduceIte, not_true_eq_false, not_false_eq_true, Bool.false_eq_true, reduceCtorEq, e1, a61]
              exact e
          · have e1 : lnG g lim t a i = a + (gW g i).length := by unfold lnG; rw [if_pos h1, if_neg h5]; rfl
            obtain ⟨w2, e, se2⟩ := hkb (υ, a + (gW g i).length) (by omega) ⟨se.tr d2, by show a + (gW g i).length ≤ 14 * (i + 1); omega⟩
            refine ⟨w2, ?_, se2⟩
            simp (disch := omega) only [l0, l1, l2, l3, l4, l5, l6, l7, l8, l9, l10, l11, l12, l16, l18, l19, l20, l21, l24, l96, l128, l100, l144, l200, l256, l288, l1536, l1728, l1800, bnd, nI_add, pk_mul, pI_sub, pI_m1, pT_le, pF_le, pT_lt, pF_lt, pT_eq, pF_eq, pF_m1, mF_eq, mT_eq, mT_lt, mF_le, lm1, rd_nI, wr_nI, cl_nI, pk_us, un_ne, pk_uLs, uL_ne, zI_uI, zI_uJ, zI_uA, zI_uB, zI_uR, zI_uN, zJ_uI, zJ_uJ, zJ_uA, zJ_uB, zJ_uR, zJ_uN, zA_uI, zA_uJ, zA_uA, zA_uB, zA_uR, zA_uN, zB_uI, zB_uJ, zB_uA, zB_uB, zB_uR, zB_uN, zR_uI, zR_uJ, zR_uA, zR_uB, zR_uR, zR_uN, zN_uI, zN_uJ, zN_uA, zN_uB, zN_uR, zN_uN, zI_ne, zJ_ne, zA_ne, zB_ne, zR_ne, zN_ne, bi_T, bi_F, nz16, ↓reduceIte, not_true_eq_false, not_false_eq_true, Bool.false_eq_true, reduceCtorEq, hof, Bool.and_true, a62, d1, e1]
            exact e
theorem t_length {σ : St} {g : Gh} {lim : Nat} (h : RI σ g lim) (p : Int32) : ∃ r τ υ f, fX11_length σ p = some (r, τ) ∧ fX12_length τ p = some (r, υ) ∧ SE (uA σ 33 f) υ := by
  rcases all2 h p with ⟨t, ha, ht, rfl, f⟩ | f
  · have f1 := (f σ (SE.rf σ)).1
    obtain ⟨f0, τ, c1, c2⟩ := c_length h ht
    have k2 := (RI33 h f0).se (c2.tr (se30 τ (nI 0)))
    obtain ⟨υ, m1, m2⟩ := m_length k2 ha
    have hma := m_all k2.1 k2.2.2.1 (t := t) (by omega)
    rw [ha] at hma
    refine ⟨nI ((sp g).foldl (lnG g lim t) 0), τ, υ, f0, ?_, ?_, (c2.tr (se30 τ _)).tr m2⟩
    · unfold fX11_length
      simp (disch := omega) only [l0, l1, l2, l3, l4, l5, l6, l7, l8, l9, l10, l11, l12, l16, l18, l19, l20, l21, l24, l96, l128, l100, l144, l200, l256, l288, l1536, l1728, l1800, bnd, nI_add, pk_mul, pI_sub, pI_m1, pT_le, pF_le, pT_lt, pF_lt, pT_eq, pF_eq, pF_m1, mF_eq, mT_eq, mT_lt, mF_le, lm1, rd_nI, wr_nI, cl_nI, pk_us, un_ne, pk_uLs, uL_ne, zI_uI, zI_uJ, zI_uA, zI_uB, zI_uR, zI_uN, zJ_uI, zJ_uJ, zJ_uA, zJ_uB, zJ_uR, zJ_uN, zA_uI, zA_uJ, zA_uA, zA_uB, zA_uR, zA_uN, zB_uI, zB_uJ, zB_uA, zB_uB, zB_uR, zB_uN, zR_uI, zR_uJ, zR_uA, zR_uB, zR_uR, zR_uN, zN_uI, zN_uJ, zN_uA, zN_uB, zN_uR, zN_uN, zI_ne, zJ_ne, zA_ne, zB_ne, zR_ne, zN_ne, bi_T, bi_F, nz16, ↓reduceIte, not_true_eq_false, not_false_eq_true, Bool.false_eq_true, reduceCtorEq, f1, c1]
    · unfold fX12_length
      simp (disch := omega) only [l0, l1, l2, l3, l4, l5, l6, l7, l8, l9, l10, l11, l12, l16, l18, l19, l20, l21, l24, l96, l128, l100, l144, l200, l256, l288, l1536, l1728, l1800, bnd, nI_add, pk_mul, pI_sub, pI_m1, pT_le, pF_le, pT_lt, pF_lt, pT_eq, pF_eq, pF_m1, mF_eq, mT_eq, mT_lt, mF_le, lm1, rd_nI, wr_nI, cl_nI, pk_us, un_ne, pk_uLs, uL_ne, zI_uI, zI_uJ, zI_uA, zI_uB, zI_uR, zI_uN, zJ_uI, zJ_uJ, zJ_uA, zJ_uB, zJ_uR, zJ_uN, zA_uI, zA_uJ, zA_uA, zA_uB, zA_uR, zA_uN, zB_uI, zB_uJ, zB_uA, zB_uB, zB_uR, zB_uN, zR_uI, zR_uJ, zR_uA, zR_uB, zR_uR, zR_uN, zN_uI, zN_uJ, zN_uA, zN_uB, zN_uR, zN_uN, zI_ne, zJ_ne, zA_ne, zB_ne, zR_ne, zN_ne, bi_T, bi_F, nz16, ↓reduceIte, not_true_eq_false, not_false_eq_true, Bool.false_eq_true, reduceCtorEq, hma]
      exact m1
  · have f1 := (f σ (SE.rf σ)).1
    have f2 := (f _ (se30 σ (nI 0))).2
    refine ⟨mI, σ, uI σ 30 (nI 0), zA σ 33, ?_, ?_, ?_⟩
    · unfold fX11_length
      simp (disch := omega) only [l0, l1, l2, l3, l4, l5, l6, l7, l8, l9, l10, l11, l12, l16, l18, l19, l20, l21, l24, l96, l128, l100, l144, l200, l256, l288, l1536, l1728, l1800, bnd, nI_add, pk_mul, pI_sub, pI_m1, pT_le, pF_le, pT_lt, pF_lt, pT_eq, pF_eq, pF_m1, mF_eq, mT_eq, mT_lt, mF_le, lm1, rd_nI, wr_nI, cl_nI, pk_us, un_ne, pk_uLs, uL_ne, zI_uI, zI_uJ, zI_uA, zI_uB, zI_uR, zI_uN, zJ_uI, zJ_uJ, zJ_uA, zJ_uB, zJ_uR, zJ_uN, zA_uI, zA_uJ, zA_uA, zA_uB, zA_uR, zA_uN, zB_uI, zB_uJ, zB_uA, zB_uB, zB_uR, zB_uN, zR_uI, zR_uJ, zR_uA, zR_uB, zR_uR, zR_uN, zN_uI, zN_uJ, zN_uA, zN_uB, zN_uR, zN_uN, zI_ne, zJ_ne, zA_ne, zB_ne, zR_ne, zN_ne, bi_T, bi_F, nz16, ↓reduceIte, not_true_eq_false, not_false_eq_true, Bool.false_eq_true, reduceCtorEq, f1]
    · unfold fX12_length
      simp (disch := omega) only [l0, l1, l2, l3, l4, l5, l6, l7, l8, l9, l10, l11, l12, l16, l18, l19, l20, l21, l24, l96, l128, l100, l144, l200, l256, l288, l1536, l1728, l1800, bnd, nI_add, pk_mul, pI_sub, pI_m1, pT_le, pF_le, pT_lt, pF_lt, pT_eq, pF_eq, pF_m1, mF_eq, mT_eq, mT_lt, mF_le, lm1, rd_nI, wr_nI, cl_nI, pk_us, un_ne, pk_uLs, uL_ne, zI_uI, zI_uJ, zI_uA, zI_uB, zI_uR, zI_uN, zJ_uI, zJ_uJ, zJ_uA, zJ_uB, zJ_uR, zJ_uN, zA_uI, zA_uJ, zA_uA, zA_uB, zA_uR, zA_uN, zB_uI, zB_uJ, zB_uA, zB_uB, zB_uR, zB_uN, zR_uI, zR_uJ, zR_uA, zR_uB, zR_uR, zR_uN, zN_uI, zN_uJ, zN_uA, zN_uB, zN_uR, zN_uN, zI_ne, zJ_ne, zA_ne, zB_ne, zR_ne, zN_ne, bi_T, bi_F, nz16, ↓reduceIte, not_true_eq_false, not_false_eq_true, Bool.false_eq_true, reduceCtorEq, f2]
    · rw [uA_self]
      exact se30 σ _
