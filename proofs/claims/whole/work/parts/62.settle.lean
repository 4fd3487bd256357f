/-! settles, next -/
def lo (g : Gh) (t s : Nat) : Bool := decide ((gC g s).length ≠ 0 ∧ mb g t s = 0) && !own g s
theorem c_isLoose {σ : St} {g : Gh} (hg : okG g) (hj : JC σ g) {s t : Nat} (h : vd g s = true) (ht : t < 256) : fX0_isLoose σ (nI s) (nI t) = some (lo g t s) := by
  have hs := vd_lt hg h
  have hc2 := (vd_ok hg h).1
  have hm := mb_le hg t s
  have hc := c_hasCue hg hj (s := s) (by omega)
  have h1 := c_metBy hg hj h ht
  have h2 := c_isOwn hg hj h
  rw [h, Bool.true_and] at hc
  unfold fX0_isLoose lo
  by_cases h0 : (gC g s).length = 0
  · rw [decide_eq_false (fun x => x h0)] at hc
    rw [decide_eq_false (fun x => x.1 h0), Bool.false_and]
    simp (disch := omega) only [l0, l1, l2, l3, l4, l5, l6, l7, l8, l9, l10, l11, l12, l16, l18, l19, l20, l21, l24, l96, l128, l100, l144, l200, l256, l288, l1536, l1728, l1800, bnd, nI_add, pk_mul, pI_sub, pI_m1, pT_le, pF_le, pT_lt, pF_lt, pT_eq, pF_eq, pF_m1, mF_eq, mT_eq, mT_lt, mF_le, lm1, rd_nI, wr_nI, cl_nI, pk_us, un_ne, pk_uLs, uL_ne, zI_uI, zI_uJ, zI_uA, zI_uB, zI_uR, zI_uN, zJ_uI, zJ_uJ, zJ_uA, zJ_uB, zJ_uR, zJ_uN, zA_uI, zA_uJ, zA_uA, zA_uB, zA_uR, zA_uN, zB_uI, zB_uJ, zB_uA, zB_uB, zB_uR, zB_uN, zR_uI, zR_uJ, zR_uA, zR_uB, zR_uR, zR_uN, zN_uI, zN_uJ, zN_uA, zN_uB, zN_uR, zN_uN, zI_ne, zJ_ne, zA_ne, zB_ne, zR_ne, zN_ne, bi_T, bi_F, nz16, ↓reduceIte, not_true_eq_false, not_false_eq_true, Bool.false_eq_true, reduceCtorEq, hc]
  · rw [decide_eq_true h0] at hc
    by_cases hm0 : mb g t s = 0
    · rw [decide_eq_true ⟨h0, hm0⟩, Bool.true_and]
      cases ho : own g s with
      | true =>
        rw [ho] at h2
        simp (disch := omega) only [l0, l1, l2, l3, l4, l5, l6, l7, l8, l9, l10, l11, l12, l16, l18, l19, l20, l21, l24, l96, l128, l100, l144, l200, l256, l288, l1536, l1728, l1800, bnd, nI_add, pk_mul, pI_sub, pI_m1, pT_le, pF_le, pT_lt, pF_lt, pT_eq, pF_eq, pF_m1, mF_eq, mT_eq, mT_lt, mF_le, lm1, rd_nI, wr_nI, cl_nI, pk_us, un_ne, pk_uLs, uL_ne, zI_uI, zI_uJ, zI_uA, zI_uB, zI_uR, zI_uN, zJ_uI, zJ_uJ, zJ_uA, zJ_uB, zJ_uR, zJ_uN, zA_uI, zA_uJ, zA_uA, zA_uB, zA_uR, zA_uN, zB_uI, zB_uJ, zB_uA, zB_uB, zB_uR, zB_uN, zR_uI, zR_uJ, zR_uA, zR_uB, zR_uR, zR_uN, zN_uI, zN_uJ, zN_uA, zN_uB, zN_uR, zN_uN, zI_ne, zJ_ne, zA_ne, zB_ne, zR_ne, zN_ne, bi_T, bi_F, nz16, ↓reduceIte, not_true_eq_false, not_false_eq_true, Bool.false_eq_true, reduceCtorEq, hc, h1, hm0, h2, Bool.not_true]
      | false =>
        rw [ho] at h2
        simp (disch := omega) only [l0, l1, l2, l3, l4, l5, l6, l7, l8, l9, l10, l11, l12, l16, l18, l19, l20, l21, l24, l96, l128, l100, l144, l200, l256, l288, l1536, l1728, l1800, bnd, nI_add, pk_mul, pI_sub, pI_m1, pT_le, pF_le, pT_lt, pF_lt, pT_eq, pF_eq, pF_m1, mF_eq, mT_eq, mT_lt, mF_le, lm1, rd_nI, wr_nI, cl_nI, pk_us, un_ne, pk_uLs, uL_ne, zI_uI, zI_uJ, zI_uA, zI_uB, zI_uR, zI_uN, zJ_uI, zJ_uJ, zJ_uA, zJ_uB, zJ_uR, zJ_uN, zA_uI, zA_uJ, zA_uA, zA_uB, zA_uR, zA_uN, zB_uI, zB_uJ, zB_uA, zB_uB, zB_uR, zB_uN, zR_uI, zR_uJ, zR_uA, zR_uB, zR_uR, zR_uN, zN_uI, zN_uJ, zN_uA, zN_uB, zN_uR, zN_uN, zI_ne, zJ_ne, zA_ne, zB_ne, zR_ne, zN_ne, bi_T, bi_F, nz16, ↓reduceIte, not_true_eq_false, not_false_eq_true, Bool.false_eq_true, reduceCtorEq, hc, h1, hm0, h2, Bool.not_false]
    · rw [decide_eq_false (fun x => hm0 x.2), Bool.false_and]
      simp (disch := omega) only [l0, l1, l2, l3, l4, l5, l6, l7, l8, l9, l10, l11, l12, l16, l18, l19, l20, l21, l24, l96, l128, l100, l144, l200, l256, l288, l1536, l1728, l1800, bnd, nI_add, pk_mul, pI_sub, pI_m1, pT_le, pF_le, pT_lt, pF_lt, pT_eq, pF_eq, pF_m1, mF_eq, mT_eq, mT_lt, mF_le, lm1, rd_nI, wr_nI, cl_nI, pk_us, un_ne, pk_uLs, uL_ne, zI_uI, zI_uJ, zI_uA, zI_uB, zI_uR, zI_uN, zJ_uI, zJ_uJ, zJ_uA, zJ_uB, zJ_uR, zJ_uN, zA_uI, zA_uJ, zA_uA, zA_uB, zA_uR, zA_uN, zB_uI, zB_uJ, zB_uA, zB_uB, zB_uR, zB_uN, zR_uI, zR_uJ, zR_uA, zR_uB, zR_uR, zR_uN, zN_uI, zN_uJ, zN_uA, zN_uB, zN_uR, zN_uN, zI_ne, zJ_ne, zA_ne, zB_ne, zR_ne, zN_ne, bi_T, bi_F, nz16, ↓reduceIte, not_true_eq_false, not_false_eq_true, Bool.false_eq_true, reduceCtorEq, hc, h1]
theorem kd_lo {g : Gh} {lim t s : Nat} : 4 ≤ kd g lim t s ↔ lo g t s = true := by
  unfold kd lo
  by_cases h0 : (gC g s).length = 0
  · rw [if_pos h0, decide_eq_false (fun x => x.1 h0)]
    simp
  · rw [if_neg h0]
    by_cases h1 : mb g t s = 0
    · rw [if_pos h1, decide_eq_true ⟨h0, h1⟩, Bool.true_and]
      cases own g s with
      | true => simp
      | false =>
        cases sl g lim t s with
        | true => simp
        | false => simp
    · rw [if_neg h1, decide_eq_false (fun x => h1 x.2)]
      by_cases h2 : mb g t s = 1
      · rw [if_pos h2]; simp
      · rw [if_neg h2]; simp
/-- what a roll settles -/
def stS (g : Gh) (t r s : Nat) : Bool := t.testBit (s / 16) && (lo g t s && decide (0 < mb g (2 ^ r) s))
def st (g : Gh) (t r : Nat) : Nat := (sp g).countP (stS g t r)
theorem st_le {g : Gh} (hg : okG g) (t r : Nat) : st g t r ≤ 96 := Nat.le_trans List.countP_le_length (sp_len hg)
theorem p2lt {r : Nat} (hr : r < 8) : 2 ^ r < 256 := Nat.lt_of_le_of_lt (Nat.pow_le_pow_right (n := 2) (by decide) (show r ≤ 7 by omega)) (by decide)
theorem c_settled {σ : St} {g : Gh} (hg : okG g) (hj : JC σ g) {t r : Nat} (ht : t < 256) (hr : r < 8) : fX0_settledBy σ (nI r) (nI t) = some (nI (st g t r)) := by
  have hl := sp_len hg
  have hp := p2lt hr
  unfold fX0_settledBy
  have key := it_for (β := Nat) (body := fun (kb : (Int32 × Int32) → Option Int32) (x : Int32 × Int32) => fX0_settledBy_L5 (nI r) (nI t) (fun v3 v4 => kb (v3, v4)) σ x.1 x.2) (sp g).length (by omega) (fun k a => (nI a, nI k)) (fun k a => a ≤ k) (fun k a z => z = some (nI (a + ((sp g).drop k).countP (stS g t r)))) ?_ 0 0 (Nat.zero_le _) (Nat.le_refl _)
  · rw [List.drop_zero, Nat.zero_add] at key
    exact key
  · intro k a hk ha kb hkb
    show fX0_settledBy_L5 _ _ _ _ (nI a) (nI k) = _
    unfold fX0_settledBy_L5
    by_cases hkn : k = (sp g).length
    · rw [hkn, List.drop_length]
      simp (disch := omega) only [l0, l1, l2, l3, l4, l5, l6, l7, l8, l9, l10, l11, l12, l16, l18, l19, l20, l21, l24, l96, l128, l100, l144, l200, l256, l288, l1536, l1728, l1800, bnd, nI_add, pk_mul, pI_sub, pI_m1, pT_le, pF_le, pT_lt, pF_lt, pT_eq, pF_eq, pF_m1, mF_eq, mT_eq, mT_lt, mF_le, lm1, rd_nI, wr_nI, cl_nI, pk_us, un_ne, pk_uLs, uL_ne, zI_uI, zI_uJ, zI_uA, zI_uB, zI_uR, zI_uN, zJ_uI, zJ_uJ, zJ_uA, zJ_uB, zJ_uR, zJ_uN, zA_uI, zA_uJ, zA_uA, zA_uB, zA_uR, zA_uN, zB_uI, zB_uJ, zB_uA, zB_uB, zB_uR, zB_uN, zR_uI, zR_uJ, zR_uA, zR_uB, zR_uR, zR_uN, zN_uI, zN_uJ, zN_uA, zN_uB, zN_uR, zN_uN, zI_ne, zJ_ne, zA_ne, zB_ne, zR_ne, zN_ne, bi_T, bi_F, nz16, ↓reduceIte, not_true_eq_false, not_false_eq_true, Bool.false_eq_true, reduceCtorEq, c_speeches hj]
      rfl
    · have hv := sp_at (g := g) (i := k) (by omega)
      have hvl := vd_lt hg hv
      have hat := c_speechAt hg hj (i := k) (by omega)
      have hof := c_isOf hg (t := t) (by omega) hv
      have hlo := c_isLoose hg hj hv ht
      have hmt := c_metBy hg hj hv hp
      have hml := mb_le hg (2 ^ r) ((sp g).getD k 0)
      rw [drop_get (by omega), List.countP_cons]
      generalize (sp g).getD k 0 = o at *
      have hS : stS g t r o = (t.testBit (o / 16) && (lo g t o && decide (0 < mb g (2 ^ r) o))) := rfl
      have nx := hkb a (by omega) (by omega)
      cases h1 : t.testBit (o / 16) with
      | false =>
        rw [h1] at hof
        rw [h1, Bool.false_and] at hS
        simp (disch := omega) only [l0, l1, l2, l3, l4, l5, l6, l7, l8, l9, l10, l11, l12, l16, l18, l19, l20, l21, l24, l96, l128, l100, l144, l200, l256, l288, l1536, l1728, l1800, bnd, nI_add, pk_mul, pI_sub, pI_m1, pT_le, pF_le, pT_lt, pF_lt, pT_eq, pF_eq, pF_m1, mF_eq, mT_eq, mT_lt, mF_le, lm1, rd_nI, wr_nI, cl_nI, pk_us, un_ne, pk_uLs, uL_ne, zI_uI, zI_uJ, zI_uA, zI_uB, zI_uR, zI_uN, zJ_uI, zJ_uJ, zJ_uA, zJ_uB, zJ_uR, zJ_uN, zA_uI, zA_uJ, zA_uA, zA_uB, zA_uR, zA_uN, zB_uI, zB_uJ, zB_uA, zB_uB, zB_uR, zB_uN, zR_uI, zR_uJ, zR_uA, zR_uB, zR_uR, zR_uN, zN_uI, zN_uJ, zN_uA, zN_uB, zN_uR, zN_uN, zI_ne, zJ_ne, zA_ne, zB_ne, zR_ne, zN_ne, bi_T, bi_F, nz16, ↓reduceIte, not_true_eq_false, not_false_eq_true, Bool.false_eq_true, reduceCtorEq, c_speeches hj, hat, hof, hS]
        exact nx
      | true =>
        rw [h1] at hof
        rw [h1, Bool.true_and] at hS
        cases h2 : lo g t o with
        | false =>
          rw [h2] at hlo
          rw [h2, Bool.false_and] at hS
          simp (disch := omega) only [l0, l1, l2, l3, l4, l5, l6, l7, l8, l9, l10, l11, l12, l16, l18, l19, l20, l21, l24, l96, l128, l100, l144, l200, l256, l288, l1536, l1728, l1800, bnd, nI_add, pk_mul, pI_sub, pI_m1, pT_le, pF_le, pT_lt, pF_lt, pT_eq, pF_eq, pF_m1, mF_eq, mT_eq, mT_lt, mF_le, lm1, rd_nI, wr_nI, cl_nI, pk_us, un_ne, pk_uLs, uL_ne, zI_uI, zI_uJ, zI_uA, zI_uB, zI_uR, zI_uN, zJ_uI, zJ_uJ, zJ_uA, zJ_uB, zJ_uR, zJ_uN, zA_uI, zA_uJ, zA_uA, zA_uB, zA_uR, zA_uN, zB_uI, zB_uJ, zB_uA, zB_uB, zB_uR, zB_uN, zR_uI, zR_uJ, zR_uA, zR_uB, zR_uR, zR_uN, zN_uI, zN_uJ, zN_uA, zN_uB, zN_uR, zN_uN, zI_ne, zJ_ne, zA_ne, zB_ne, zR_ne, zN_ne, bi_T, bi_F, nz16, ↓reduceIte, not_true_eq_false, not_false_eq_true, Bool.false_eq_true, reduceCtorEq, c_speeches hj, hat, hof, hlo, hS]
          exact nx
        | true =>
          rw [h2] at hlo
          rw [h2, Bool.true_and] at hS
          by_cases h3 : 0 < mb g (2 ^ r) o
          · rw [decide_eq_true h3] at hS
            have nx2 := hkb (a + 1) (by omega) (by omega)
            simp (disch := omega) only [l0, l1, l2, l3, l4, l5, l6, l7, l8, l9, l10, l11, l12, l16, l18, l19, l20, l21, l24, l96, l128, l100, l144, l200, l256, l288, l1536, l1728, l1800, bnd, nI_add, pk_mul, pI_sub, pI_m1, pT_le, pF_le, pT_lt, pF_lt, pT_eq, pF_eq, pF_m1, mF_eq, mT_eq, mT_lt, mF_le, lm1, rd_nI, wr_nI, cl_nI, pk_us, un_ne, pk_uLs, uL_ne, zI_uI, zI_uJ, zI_uA, zI_uB, zI_uR, zI_uN, zJ_uI, zJ_uJ, zJ_uA, zJ_uB, zJ_uR, zJ_uN, zA_uI, zA_uJ, zA_uA, zA_uB, zA_uR, zA_uN, zB_uI, zB_uJ, zB_uA, zB_uB, zB_uR, zB_uN, zR_uI, zR_uJ, zR_uA, zR_uB, zR_uR, zR_uN, zN_uI, zN_uJ, zN_uA, zN_uB, zN_uR, zN_uN, zI_ne, zJ_ne, zA_ne, zB_ne, zR_ne, zN_ne, bi_T, bi_F, nz16, ↓reduceIte, not_true_eq_false, not_false_eq_true, Bool.false_eq_true, reduceCtorEq, c_speeches hj, hat, hof, hlo, hS, shl1, hmt]
            rw [nx2]
            congr 2
            omega
          · rw [decide_eq_false h3] at hS
            simp (disch := omega) only [l0, l1, l2, l3, l4, l5, l6, l7, l8, l9, l10, l11, l12, l16, l18, l19, l20, l21, l24, l96, l128, l100, l144, l200, l256, l288, l1536, l1728, l1800, bnd, nI_add, pk_mul, pI_sub, pI_m1, pT_le, pF_le, pT_lt, pF_lt, pT_eq, pF_eq, pF_m1, mF_eq, mT_eq, mT_lt, mF_le, lm1, rd_nI, wr_nI, cl_nI, pk_us, un_ne, pk_uLs, uL_ne, zI_uI, zI_uJ, zI_uA, zI_uB, zI_uR, zI_uN, zJ_uI, zJ_uJ, zJ_uA, zJ_uB, zJ_uR, zJ_uN, zA_uI, zA_uJ, zA_uA, zA_uB, zA_uR, zA_uN, zB_uI, zB_uJ, zB_uA, zB_uB, zB_uR, zB_uN, zR_uI, zR_uJ, zR_uA, zR_uB, zR_uR, zR_uN, zN_uI, zN_uJ, zN_uA, zN_uB, zN_uR, zN_uN, zI_ne, zJ_ne, zA_ne, zB_ne, zR_ne, zN_ne, bi_T, bi_F, nz16, ↓reduceIte, not_true_eq_false, not_false_eq_true, Bool.false_eq_true, reduceCtorEq, c_speeches hj, hat, hof, hlo, hS, shl1, hmt]
            exact nx
theorem or_bit (t : Nat) {r i : Nat} : (t ||| 2 ^ r).testBit i = (t.testBit i || decide (i = r)) := by
  rw [Nat.testBit_or, Nat.testBit_two_pow]
  congr 1
  exact dec_iff eq_comm
/-- with one roll more, where a cue is met by none of the set -/
theorem mb_or {g : Gh} {t r s : Nat} (hg : okG g) (h : vd g s = true) (hr : r < 8) (hrt : t.testBit r = false) (hm : mb g t s = 0) : (0 < mb g (t ||| 2 ^ r) s) ↔ 0 < mb g (2 ^ r) s := by
  have h0 : ∀ o, o ∈ sp g → ¬ (ot t s o && eg g s o) = true := by
    unfold mb at hm
    rw [List.countP_eq_zero] at hm
    exact hm
  unfold mb
  rw [List.countP_pos_iff, List.countP_pos_iff]
  have hb : ∀ o, (2 ^ r).testBit (o / 16) = decide (o / 16 = r) := by
    intro o
    rw [Nat.testBit_two_pow]
    exact dec_iff eq_comm
  constructor
  · rintro ⟨o, ho, ho2⟩
    refine ⟨o, ho, ?_⟩
    have h1 := h0 o ho
    unfold ot at ho2 h1 ⊢
    rw [or_bit] at ho2
    rw [hb]
    cases h3 : t.testBit (o / 16) <;> simp_all
    exact fun x => ho2.1.2 (by rw [ho2.1.1]; exact x)
  · rintro ⟨o, ho, ho2⟩
    refine ⟨o, ho, ?_⟩
    unfold ot at ho2 ⊢
    rw [hb] at ho2
    rw [or_bit]
    simp_all
    exact fun x => ho2.1.2 (by rw [ho2.1.1]; exact x)
theorem kd_met {g : Gh} {lim t r s : Nat} (hl : lo g t s = true) : (kd g lim (t ||| 2 ^ r) s = 1 ∨ kd g lim (t ||| 2 ^ r) s = 2) ↔ 0 < mb g (t ||| 2 ^ r) s := by
  have h0 : (gC g s).length ≠ 0 := by
    unfold lo at hl
    rw [Bool.and_eq_true] at hl
    exact (of_decide_eq_true hl.1).1
  have ho : own g s = false := by
    unfold lo at hl
    rw [Bool.and_eq_true] at hl
    cases h : own g s with
    | false => rfl
    | true => rw [h] at hl; cases hl.2
  unfold kd
  rw [if_neg h0]
  by_cases h1 : mb g (t ||| 2 ^ r) s = 0
  · rw [if_pos h1, ho]
    cases sl g lim (t ||| 2 ^ r) s <;> simp [h1]
  · rw [if_neg h1]
    by_cases h2 : mb g (t ||| 2 ^ r) s = 1
    · rw [if_pos h2]; simp; omega
    · rw [if_neg h2]; simp; omega
theorem or_I (t r : Nat) (hr : r < 31) : nI t ||| (nI 1 <<< (nI r &&& 31)) = nI (t ||| 2 ^ r) := by
  rw [shl1 hr, fa_or]
theorem or_lt {t r : Nat} (ht : t < 256) (hr : r < 8) : t ||| 2 ^ r < 256 := Nat.or_lt_two_pow (n := 8) ht (p2lt hr)
theorem m_settled {σ : St} {g : Gh} {lim : Nat} (h : RI σ g lim) {t r : Nat} (hal : al g t = true) (hr : r < 8) (hrt : t.testBit r = false) : ∃ τ, fX12_settlesOf σ (nI r) (nI t) = some (nI (st g t r), τ) ∧ SE σ τ := by
  have hg := h.1
  have ht := al_lt hg hal
  have hl8 := h.2.2.2.1
  have hor := or_lt ht hr
  unfold fX12_settlesOf
  have key := it_for (β := St × Nat) (body := fun (kb : (St × Int32 × Int32) → Option (Int32 × St)) (x : St × Int32 × Int32) => fX12_settlesOf_L5 (nI r) (nI t) (fun σ v3 v4 => kb (σ, v3, v4)) x.1 x.2.1 x.2.2) 128 (by omega) (fun i b => (b.1, nI b.2, nI i)) (fun i b => SE σ b.1 ∧ b.2 ≤ i) (fun i b z => ∃ τ, z = some (nI (b.2 + ((List.range 128).drop i).countP (fun s => vd g s && stS g t r s)), τ) ∧ SE σ τ) ?_ 0 (σ, 0) (Nat.zero_le _) ⟨SE.rf σ, Nat.le_refl _⟩
  · rw [List.drop_zero, sp_countP g] at key
    simp only [Nat.zero_add] at key
    exact key
  · rintro i ⟨τ, a⟩ hi ⟨se, ha⟩ kb hkb
    have se : SE σ τ := se
    have ha : a ≤ i := ha
    show ∃ υ, fX12_settlesOf_L5 _ _ _ τ (nI a) (nI i) = _ ∧ _
    unfold fX12_settlesOf_L5
    have k2 := h.se se
    by_cases hin : i = 128
    · refine ⟨τ, ?_, se⟩
      have e1 : (List.range 128).drop i = [] := List.drop_of_length_le (by rw [List.length_range]; omega)
      rw [e1]
      simp (disch := omega) only [l0, l1, l2, l3, l4, l5, l6, l7, l8, l9, l10, l11, l12, l16, l18, l19, l20, l21, l24, l96, l128, l100, l144, l200, l256, l288, l1536, l1728, l1800, bnd, nI_add, pk_mul, pI_sub, pI_m1, pT_le, pF_le, pT_lt, pF_lt, pT_eq, pF_eq, pF_m1, mF_eq, mT_eq, mT_lt, mF_le, lm1, rd_nI, wr_nI, cl_nI, pk_us, un_ne, pk_uLs, uL_ne, zI_uI, zI_uJ, zI_uA, zI_uB, zI_uR, zI_uN, zJ_uI, zJ_uJ, zJ_uA, zJ_uB, zJ_uR, zJ_uN, zA_uI, zA_uJ, zA_uA, zA_uB, zA_uR, zA_uN, zB_uI, zB_uJ, zB_uA, zB_uB, zB_uR, zB_uN, zR_uI, zR_uJ, zR_uA, zR_uB, zR_uR, zR_uN, zN_uI, zN_uJ, zN_uA, zN_uB, zN_uR, zN_uN, zI_ne, zJ_ne, zA_ne, zB_ne, zR_ne, zN_ne, bi_T, bi_F, nz16, ↓reduceIte, not_true_eq_false, not_false_eq_true, Bool.false_eq_true, reduceCtorEq]
      rfl
    · have hof := m_isOf (t := t) (s := i) hg k2.2.2.1 (by omega) (by omega)
      rw [hal, Bool.true_and] at hof
      rw [rng_drop (by omega), List.countP_cons]
      have hS : stS g t r i = (t.testBit (i / 16) && (lo g t i && decide (0 < mb g (2 ^ r) i))) := rfl
      obtain ⟨υ0, e0, se0⟩ := hkb (τ, a) (by omega) ⟨se, by show a ≤ i + 1; omega⟩
      cases hv : vd g i with
      | false =>
        rw [hv] at hof
        refine ⟨υ0, ?_, se0⟩
        simp (disch := omega) only [l0, l1, l2, l3, l4, l5, l6, l7, l8, l9, l10, l11, l12, l16, l18, l19, l20, l21, l24, l96, l128, l100, l144, l200, l256, l288, l1536, l1728, l1800, bnd, nI_add, pk_mul, pI_sub, pI_m1, pT_le, pF_le, pT_lt, pF_lt, pT_eq, pF_eq, pF_m1, mF_eq, mT_eq, mT_lt, mF_le, lm1, rd_nI, wr_nI, cl_nI, pk_us, un_ne, pk_uLs, uL_ne, zI_uI, zI_uJ, zI_uA, zI_uB, zI_uR, zI_uN, zJ_uI, zJ_uJ, zJ_uA, zJ_uB, zJ_uR, zJ_uN, zA_uI, zA_uJ, zA_uA, zA_uB, zA_uR, zA_uN, zB_uI, zB_uJ, zB_uA, zB_uB, zB_uR, zB_uN, zR_uI, zR_uJ, zR_uA, zR_uB, zR_uR, zR_uN, zN_uI, zN_uJ, zN_uA, zN_uB, zN_uR, zN_uN, zI_ne, zJ_ne, zA_ne, zB_ne, zR_ne, zN_ne, bi_T, bi_F, nz16, ↓reduceIte, not_true_eq_false, not_false_eq_true, Bool.false_eq_true, reduceCtorEq, hof, Bool.false_and]
        exact e0
      | true =>
        rw [hv] at hof
        cases h1 : t.testBit (i / 16) with
        | false =>
          rw [h1] at hof
          rw [h1, Bool.false_and] at hS
          refine ⟨υ0, ?_, se0⟩
          simp (disch := omega) only [l0, l1, l2, l3, l4, l5, l6, l7, l8, l9, l10, l11, l12, l16, l18, l19, l20, l21, l24, l96, l128, l100, l144, l200, l256, l288, l1536, l1728, l1800, bnd, nI_add, pk_mul, pI_sub, pI_m1, pT_le, pF_le, pT_lt, pF_lt, pT_eq, pF_eq, pF_m1, mF_eq, mT_eq, mT_lt, mF_le, lm1, rd_nI, wr_nI, cl_nI, pk_us, un_ne, pk_uLs, uL_ne, zI_uI, zI_uJ, zI_uA, zI_uB, zI_uR, zI_uN, zJ_uI, zJ_uJ, zJ_uA, zJ_uB, zJ_uR, zJ_uN, zA_uI, zA_uJ, zA_uA, zA_uB, zA_uR, zA_uN, zB_uI, zB_uJ, zB_uA, zB_uB, zB_uR, zB_uN, zR_uI, zR_uJ, zR_uA, zR_uB, zR_uR, zR_uN, zN_uI, zN_uJ, zN_uA, zN_uB, zN_uR, zN_uN, zI_ne, zJ_ne, zA_ne, zB_ne, zR_ne, zN_ne, bi_T, bi_F, nz16, ↓reduceIte, not_true_eq_false, not_false_eq_true, Bool.false_eq_true, reduceCtorEq, hof, hS, Bool.and_false, Bool.true_and]
          exact e0
        | true =>
          rw [h1] at hof
          rw [h1, Bool.true_and] at hS
          obtain ⟨υ, d1, d2⟩ := m_kindOf hg k2.2.2.1 hv ht (show lim < 100 by omega) k2.2.2.2.2.2
          have hkd := kd_le g lim t i
          have k3 := k2.se d2
          by_cases h2 : 4 ≤ kd g lim t i
          · have hlo := kd_lo.mp h2
            rw [hlo, Bool.true_and] at hS
            obtain ⟨w, d3, d4⟩ := m_kindOf hg k3.2.2.1 hv hor (show lim < 100 by omega) k3.2.2.2.2.2
            have hkd2 := kd_le g lim (t ||| 2 ^ r) i
            have hm0 : mb g t i = 0 := by
              have hh := hlo
              unfold lo at hh
              rw [Bool.and_eq_true] at hh
              exact (of_decide_eq_true hh.1).2
            have hmm := mb_or hg hv hr hrt hm0
            have hkm := kd_met (lim := lim) (r := r) hlo
            by_cases h3 : 0 < mb g (2 ^ r) i
            · rw [decide_eq_true h3] at hS
              obtain ⟨w2, e2, se2⟩ := hkb (w, a + 1) (by omega) ⟨(se.tr d2).tr d4, by show a + 1 ≤ i + 1; omega⟩
              have hfin : a + 1 + List.countP (fun s => vd g s && stS g t r s) (List.drop (i + 1) (List.range 128)) = a + (List.countP (fun s => vd g s && stS g t r s) (List.drop (i + 1) (List.range 128)) + 1) := by omega
              have e2' := e2
              simp only [hfin] at e2'
              refine ⟨w2, ?_, se2⟩
              rcases hkm.mpr (hmm.mpr h3) with h4 | h4
              · rw [h4] at d3
                simp (disch := omega) only [l0, l1, l2, l3, l4, l5, l6, l7, l8, l9, l10, l11, l12, l16, l18, l19, l20, l21, l24, l96, l128, l100, l144, l200, l256, l288, l1536, l1728, l1800, bnd, nI_add, pk_mul, pI_sub, pI_m1, pT_le, pF_le, pT_lt, pF_lt, pT_eq, pF_eq, pF_m1, mF_eq, mT_eq, mT_lt, mF_le, lm1, rd_nI, wr_nI, cl_nI, pk_us, un_ne, pk_uLs, uL_ne, zI_uI, zI_uJ, zI_uA, zI_uB, zI_uR, zI_uN, zJ_uI, zJ_uJ, zJ_uA, zJ_uB, zJ_uR, zJ_uN, zA_uI, zA_uJ, zA_uA, zA_uB, zA_uR, zA_uN, zB_uI, zB_uJ, zB_uA, zB_uB, zB_uR, zB_uN, zR_uI, zR_uJ, zR_uA, zR_uB, zR_uR, zR_uN, zN_uI, zN_uJ, zN_uA, zN_uB, zN_uR, zN_uN, zI_ne, zJ_ne, zA_ne, zB_ne, zR_ne, zN_ne, bi_T, bi_F, nz16, ↓reduceIte, not_true_eq_false, not_false_eq_true, Bool.false_eq_true, reduceCtorEq, hof, d1, or_I, d3, hS, Bool.and_true]
                exact e2'
              · rw [h4] at d3
                simp (disch := omega) only [l0, l1, l2, l3, l4, l5, l6, l7, l8, l9, l10, l11, l12, l16, l18, l19, l20, l21, l24, l96, l128, l100, l144, l200, l256, l288, l1536, l1728, l1800, bnd, nI_add, pk_mul, pI_sub, pI_m1, pT_le, pF_le, pT_lt, pF_lt, pT_eq, pF_eq, pF_m1, mF_eq, mT_eq, mT_lt, mF_le, lm1, rd_nI, wr_nI, cl_nI, pk_us, un_ne, pk_uLs, uL_ne, zI_uI, zI_uJ, zI_uA, zI_uB, zI_uR, zI_uN, zJ_uI, zJ_uJ, zJ_uA, zJ_uB, zJ_uR, zJ_uN, zA_uI, zA_uJ, zA_uA, zA_uB, zA_uR, zA_uN, zB_uI, zB_uJ, zB_uA, zB_uB, zB_uR, zB_uN, zR_uI, zR_uJ, zR_uA, zR_uB, zR_uR, zR_uN, zN_uI, zN_uJ, zN_uA, zN_uB, zN_uR, zN_uN, zI_ne, zJ_ne, zA_ne, zB_ne, zR_ne, zN_ne, bi_T, bi_F, nz16, ↓reduceIte, not_true_eq_false, not_false_eq_true, Bool.false_eq_true, reduceCtorEq, hof, d1, or_I, d3, hS, Bool.and_true]
                exact e2'
            · rw [decide_eq_false h3] at hS
              obtain ⟨w2, e2, se2⟩ := hkb (w, a) (by omega) ⟨(se.tr d2).tr d4, by show a ≤ i + 1; omega⟩
              refine ⟨w2, ?_, se2⟩
              have h4 : ¬ (kd g lim (t ||| 2 ^ r) i = 1 ∨ kd g lim (t ||| 2 ^ r) i = 2) := fun x => h3 (hmm.mp (hkm.mp x))
              simp (disch := omega) only [l0, l1, l2, l3, l4, l5, l6, l7, l8, l9, l10, l11, l12, l16, l18, l19, l20, l21, l24, l96, l128, l100, l144, l200, l256, l288, l1536, l1728, l1800, bnd, nI_add, pk_mul, pI_sub, pI_m1, pT_le, pF_le, pT_lt, pF_lt, pT_eq, pF_eq, pF_m1, mF_eq, mT_eq, mT_lt, mF_le, lm1, rd_nI, wr_nI, cl_nI, pk_us, un_ne, pk_uLs, uL_ne, zI_uI, zI_uJ, zI_uA, zI_uB, zI_uR, zI_uN, zJ_uI, zJ_uJ, zJ_uA, zJ_uB, zJ_uR, zJ_uN, zA_uI, zA_uJ, zA_uA, zA_uB, zA_uR, zA_uN, zB_uI, zB_uJ, zB_uA, zB_uB, zB_uR, zB_uN, zR_uI, zR_uJ, zR_uA, zR_uB, zR_uR, zR_uN, zN_uI, zN_uJ, zN_uA, zN_uB, zN_uR, zN_uN, zI_ne, zJ_ne, zA_ne, zB_ne, zR_ne, zN_ne, bi_T, bi_F, nz16, ↓reduceIte, not_true_eq_false, not_false_eq_true, Bool.false_eq_true, reduceCtorEq, hof, d1, or_I, d3, hS, Bool.and_true, Bool.and_false]
              exact e2
          · have hlo : lo g t i = false := by
              cases hh : lo g t i with
              | false => rfl
              | true => exact absurd (kd_lo.mpr hh) h2
            rw [hlo, Bool.false_and] at hS
            obtain ⟨w2, e2, se2⟩ := hkb (υ, a) (by omega) ⟨se.tr d2, by show a ≤ i + 1; omega⟩
            refine ⟨w2, ?_, se2⟩
            simp (disch := omega) only [l0, l1, l2, l3, l4, l5, l6, l7, l8, l9, l10, l11, l12, l16, l18, l19, l20, l21, l24, l96, l128, l100, l144, l200, l256, l288, l1536, l1728, l1800, bnd, nI_add, pk_mul, pI_sub, pI_m1, pT_le, pF_le, pT_lt, pF_lt, pT_eq, pF_eq, pF_m1, mF_eq, mT_eq, mT_lt, mF_le, lm1, rd_nI, wr_nI, cl_nI, pk_us, un_ne, pk_uLs, uL_ne, zI_uI, zI_uJ, zI_uA, zI_uB, zI_uR, zI_uN, zJ_uI, zJ_uJ, zJ_uA, zJ_uB, zJ_uR, zJ_uN, zA_uI, zA_uJ, zA_uA, zA_uB, zA_uR, zA_uN, zB_uI, zB_uJ, zB_uA, zB_uB, zB_uR, zB_uN, zR_uI, zR_uJ, zR_uA, zR_uB, zR_uR, zR_uN, zN_uI, zN_uJ, zN_uA, zN_uB, zN_uR, zN_uN, zI_ne, zJ_ne, zA_ne, zB_ne, zR_ne, zN_ne, bi_T, bi_F, nz16, ↓reduceIte, not_true_eq_false, not_false_eq_true, Bool.false_eq_true, reduceCtorEq, hof, d1, hS, Bool.and_true, Bool.and_false]
            exact e2
theorem t_settles {σ : St} {g : Gh} {lim : Nat} (h : RI σ g lim) (p q : Int32) : B1 σ (fX11_settles σ p q) (fun τ => fX12_settles τ p q) := by
  have s3 := se30 σ (nI 0)
  have hN := h.1.1
  rcases roll2 h p with ⟨r, hr, rfl, e⟩ | e
  · have e1 := (e σ (SE.rf σ)).1
    have e2 := (e _ s3).2
    rcases all2 h q with ⟨t, ha, ht, rfl, f⟩ | f
    · have f1 := (f σ (SE.rf σ)).1
      have f2 := (f _ s3).2
      have c1 := c_isIn (t := t) (r := r) (by omega) (by omega)
      rw [decide_eq_true (show r < 8 by omega), Bool.true_and] at c1
      have m1 := m_has (t := t) (r := r) (by omega) (by omega)
      cases hb : t.testBit r with
      | true =>
        rw [hb] at c1 m1
        refine B1.no mI ?_ ?_
        · unfold fX11_settles
          simp (disch := omega) only [l0, l1, l2, l3, l4, l5, l6, l7, l8, l9, l10, l11, l12, l16, l18, l19, l20, l21, l24, l96, l128, l100, l144, l200, l256, l288, l1536, l1728, l1800, bnd, nI_add, pk_mul, pI_sub, pI_m1, pT_le, pF_le, pT_lt, pF_lt, pT_eq, pF_eq, pF_m1, mF_eq, mT_eq, mT_lt, mF_le, lm1, rd_nI, wr_nI, cl_nI, pk_us, un_ne, pk_uLs, uL_ne, zI_uI, zI_uJ, zI_uA, zI_uB, zI_uR, zI_uN, zJ_uI, zJ_uJ, zJ_uA, zJ_uB, zJ_uR, zJ_uN, zA_uI, zA_uJ, zA_uA, zA_uB, zA_uR, zA_uN, zB_uI, zB_uJ, zB_uA, zB_uB, zB_uR, zB_uN, zR_uI, zR_uJ, zR_uA, zR_uB, zR_uR, zR_uN, zN_uI, zN_uJ, zN_uA, zN_uB, zN_uR, zN_uN, zI_ne, zJ_ne, zA_ne, zB_ne, zR_ne, zN_ne, bi_T, bi_F, nz16, ↓reduceIte, not_true_eq_false, not_false_eq_true, Bool.false_eq_true, reduceCtorEq, e1, f1, c1]
        · unfold fX12_settles
          simp (disch := omega) only [l0, l1, l2, l3, l4, l5, l6, l7, l8, l9, l10, l11, l12, l16, l18, l19, l20, l21, l24, l96, l128, l100, l144, l200, l256, l288, l1536, l1728, l1800, bnd, nI_add, pk_mul, pI_sub, pI_m1, pT_le, pF_le, pT_lt, pF_lt, pT_eq, pF_eq, pF_m1, mF_eq, mT_eq, mT_lt, mF_le, lm1, rd_nI, wr_nI, cl_nI, pk_us, un_ne, pk_uLs, uL_ne, zI_uI, zI_uJ, zI_uA, zI_uB, zI_uR, zI_uN, zJ_uI, zJ_uJ, zJ_uA, zJ_uB, zJ_uR, zJ_uN, zA_uI, zA_uJ, zA_uA, zA_uB, zA_uR, zA_uN, zB_uI, zB_uJ, zB_uA, zB_uB, zB_uR, zB_uN, zR_uI, zR_uJ, zR_uA, zR_uB, zR_uR, zR_uN, zN_uI, zN_uJ, zN_uA, zN_uB, zN_uR, zN_uN, zI_ne, zJ_ne, zA_ne, zB_ne, zR_ne, zN_ne, bi_T, bi_F, nz16, ↓reduceIte, not_true_eq_false, not_false_eq_true, Bool.false_eq_true, reduceCtorEq, e2, f2, m1]
      | false =>
        rw [hb] at c1 m1
        have c2 := c_settled h.1 h.2.1 ht (show r < 8 by omega)
        obtain ⟨υ, d1, d2⟩ := m_settled (h.se s3) ha (show r < 8 by omega) hb
        refine ⟨nI (st g t r), υ, ?_, ?_, s3.tr d2⟩
        · unfold fX11_settles
          simp (disch := omega) only [l0, l1, l2, l3, l4, l5, l6, l7, l8, l9, l10, l11, l12, l16, l18, l19, l20, l21, l24, l96, l128, l100, l144, l200, l256, l288, l1536, l1728, l1800, bnd, nI_add, pk_mul, pI_sub, pI_m1, pT_le, pF_le, pT_lt, pF_lt, pT_eq, pF_eq, pF_m1, mF_eq, mT_eq, mT_lt, mF_le, lm1, rd_nI, wr_nI, cl_nI, pk_us, un_ne, pk_uLs, uL_ne, zI_uI, zI_uJ, zI_uA, zI_uB, zI_uR, zI_uN, zJ_uI, zJ_uJ, zJ_uA, zJ_uB, zJ_uR, zJ_uN, zA_uI, zA_uJ, zA_uA, zA_uB, zA_uR, zA_uN, zB_uI, zB_uJ, zB_uA, zB_uB, zB_uR, zB_uN, zR_uI, zR_uJ, zR_uA, zR_uB, zR_uR, zR_uN, zN_uI, zN_uJ, zN_uA, zN_uB, zN_uR, zN_uN, zI_ne, zJ_ne, zA_ne, zB_ne, zR_ne, zN_ne, bi_T, bi_F, nz16, ↓reduceIte, not_true_eq_false, not_false_eq_true, Bool.false_eq_true, reduceCtorEq, e1, f1, c1, c2]
        · show fX12_settles σ (nI r) (nI t) = _
          unfold fX12_settles
          simp (disch := omega) only [l0, l1, l2, l3, l4, l5, l6, l7, l8, l9, l10, l11, l12, l16, l18, l19, l20, l21, l24, l96, l128, l100, l144, l200, l256, l288, l1536, l1728, l1800, bnd, nI_add, pk_mul, pI_sub, pI_m1, pT_le, pF_le, pT_lt, pF_lt, pT_eq, pF_eq, pF_m1, mF_eq, mT_eq, mT_lt, mF_le, lm1, rd_nI, wr_nI, cl_nI, pk_us, un_ne, pk_uLs, uL_ne, zI_uI, zI_uJ, zI_uA, zI_uB, zI_uR, zI_uN, zJ_uI, zJ_uJ, zJ_uA, zJ_uB, zJ_uR, zJ_uN, zA_uI, zA_uJ, zA_uA, zA_uB, zA_uR, zA_uN, zB_uI, zB_uJ, zB_uA, zB_uB, zB_uR, zB_uN, zR_uI, zR_uJ, zR_uA, zR_uB, zR_uR, zR_uN, zN_uI, zN_uJ, zN_uA, zN_uB, zN_uR, zN_uN, zI_ne, zJ_ne, zA_ne, zB_ne, zR_ne, zN_ne, bi_T, bi_F, nz16, ↓reduceIte, not_true_eq_false, not_false_eq_true, Bool.false_eq_true, reduceCtorEq, e2, f2, m1, d1]
    · have f1 := (f σ (SE.rf σ)).1
      have f2 := (f _ s3).2
      refine B1.no mI ?_ ?_
      · unfold fX11_settles
        simp (disch := omega) only [l0, l1, l2, l3, l4, l5, l6, l7, l8, l9, l10, l11, l12, l16, l18, l19, l20, l21, l24, l96, l128, l100, l144, l200, l256, l288, l1536, l1728, l1800, bnd, nI_add, pk_mul, pI_sub, pI_m1, pT_le, pF_le, pT_lt, pF_lt, pT_eq, pF_eq, pF_m1, mF_eq, mT_eq, mT_lt, mF_le, lm1, rd_nI, wr_nI, cl_nI, pk_us, un_ne, pk_uLs, uL_ne, zI_uI, zI_uJ, zI_uA, zI_uB, zI_uR, zI_uN, zJ_uI, zJ_uJ, zJ_uA, zJ_uB, zJ_uR, zJ_uN, zA_uI, zA_uJ, zA_uA, zA_uB, zA_uR, zA_uN, zB_uI, zB_uJ, zB_uA, zB_uB, zB_uR, zB_uN, zR_uI, zR_uJ, zR_uA, zR_uB, zR_uR, zR_uN, zN_uI, zN_uJ, zN_uA, zN_uB, zN_uR, zN_uN, zI_ne, zJ_ne, zA_ne, zB_ne, zR_ne, zN_ne, bi_T, bi_F, nz16, ↓reduceIte, not_true_eq_false, not_false_eq_true, Bool.false_eq_true, reduceCtorEq, e1, f1]
      · unfold fX12_settles
        simp (disch := omega) only [l0, l1, l2, l3, l4, l5, l6, l7, l8, l9, l10, l11, l12, l16, l18, l19, l20, l21, l24, l96, l128, l100, l144, l200, l256, l288, l1536, l1728, l1800, bnd, nI_add, pk_mul, pI_sub, pI_m1, pT_le, pF_le, pT_lt, pF_lt, pT_eq, pF_eq, pF_m1, mF_eq, mT_eq, mT_lt, mF_le, lm1, rd_nI, wr_nI, cl_nI, pk_us, un_ne, pk_uLs, uL_ne, zI_uI, zI_uJ, zI_uA, zI_uB, zI_uR, zI_uN, zJ_uI, zJ_uJ, zJ_uA, zJ_uB, zJ_uR, zJ_uN, zA_uI, zA_uJ, zA_uA, zA_uB, zA_uR, zA_uN, zB_uI, zB_uJ, zB_uA, zB_uB, zB_uR, zB_uN, zR_uI, zR_uJ, zR_uA, zR_uB, zR_uR, zR_uN, zN_uI, zN_uJ, zN_uA, zN_uB, zN_uR, zN_uN, zI_ne, zJ_ne, zA_ne, zB_ne, zR_ne, zN_ne, bi_T, bi_F, nz16, ↓reduceIte, not_true_eq_false, not_false_eq_true, Bool.false_eq_true, reduceCtorEq, e2, f2]
  · have e1 := (e σ (SE.rf σ)).1
    have e2 := (e _ s3).2
    refine B1.no mI ?_ ?_
    · unfold fX11_settles
      simp (disch := omega) only [l0, l1, l2, l3, l4, l5, l6, l7, l8, l9, l10, l11, l12, l16, l18, l19, l20, l21, l24, l96, l128, l100, l144, l200, l256, l288, l1536, l1728, l1800, bnd, nI_add, pk_mul, pI_sub, pI_m1, pT_le, pF_le, pT_lt, pF_lt, pT_eq, pF_eq, pF_m1, mF_eq, mT_eq, mT_lt, mF_le, lm1, rd_nI, wr_nI, cl_nI, pk_us, un_ne, pk_uLs, uL_ne, zI_uI, zI_uJ, zI_uA, zI_uB, zI_uR, zI_uN, zJ_uI, zJ_uJ, zJ_uA, zJ_uB, zJ_uR, zJ_uN, zA_uI, zA_uJ, zA_uA, zA_uB, zA_uR, zA_uN, zB_uI, zB_uJ, zB_uA, zB_uB, zB_uR, zB_uN, zR_uI, zR_uJ, zR_uA, zR_uB, zR_uR, zR_uN, zN_uI, zN_uJ, zN_uA, zN_uB, zN_uR, zN_uN, zI_ne, zJ_ne, zA_ne, zB_ne, zR_ne, zN_ne, bi_T, bi_F, nz16, ↓reduceIte, not_true_eq_false, not_false_eq_true, Bool.false_eq_true, reduceCtorEq, e1]
    · unfold fX12_settles
      simp (disch := omega) only [l0, l1, l2, l3, l4, l5, l6, l7, l8, l9, l10, l11, l12, l16, l18, l19, l20, l21, l24, l96, l128, l100, l144, l200, l256, l288, l1536, l1728, l1800, bnd, nI_add, pk_mul, pI_sub, pI_m1, pT_le, pF_le, pT_lt, pF_lt, pT_eq, pF_eq, pF_m1, mF_eq, mT_eq, mT_lt, mF_le, lm1, rd_nI, wr_nI, cl_nI, pk_us, un_ne, pk_uLs, uL_ne, zI_uI, zI_uJ, zI_uA, zI_uB, zI_uR, zI_uN, zJ_uI, zJ_uJ, zJ_uA, zJ_uB, zJ_uR, zJ_uN, zA_uI, zA_uJ, zA_uA, zA_uB, zA_uR, zA_uN, zB_uI, zB_uJ, zB_uA, zB_uB, zB_uR, zB_uN, zR_uI, zR_uJ, zR_uA, zR_uB, zR_uR, zR_uN, zN_uI, zN_uJ, zN_uA, zN_uB, zN_uR, zN_uN, zI_ne, zJ_ne, zA_ne, zB_ne, zR_ne, zN_ne, bi_T, bi_F, nz16, ↓reduceIte, not_true_eq_false, not_false_eq_true, Bool.false_eq_true, reduceCtorEq, e2]
/-- which roll would settle most -/
def nxS (g : Gh) (t : Nat) (a : Option (Nat × Nat)) (r : Nat) : Option (Nat × Nat) :=
  if t.testBit r = true then a else (match a with | none => some (r, st g t r) | some b => if b.2 < st g t r then some (r, st g t r) else some b)
def nxI (a : Option (Nat × Nat)) : Prop := ∀ b, a = some b → b.1 < 8 ∧ b.2 ≤ 96
theorem nxI_step {g : Gh} (hg : okG g) {t r : Nat} {a : Option (Nat × Nat)} (ha : nxI a) (hr : r < 8) : nxI (nxS g t a r) := by
  have h1 := st_le hg t r
  unfold nxS
  split
  · exact ha
  · cases a with
    | none => intro b hb; cases hb; exact ⟨hr, h1⟩
    | some b =>
      simp only
      split
      · intro c hc; cases hc; exact ⟨hr, h1⟩
      · exact ha
theorem nx_in {g : Gh} {t r : Nat} {a : Option (Nat × Nat)} (h : t.testBit r = true) : nxS g t a r = a := by
  unfold nxS
  rw [if_pos h]
theorem nx_none {g : Gh} {t r : Nat} (h : t.testBit r = false) : nxS g t none r = some (r, st g t r) := by
  unfold nxS
  rw [h]
  rfl
theorem nx_lt {g : Gh} {t r : Nat} {b : Nat × Nat} (h : t.testBit r = false) (h2 : b.2 < st g t r) : nxS g t (some b) r = some (r, st g t r) := by
  unfold nxS
  rw [h]
  exact if_pos h2
theorem nx_ge {g : Gh} {t r : Nat} {b : Nat × Nat} (h : t.testBit r = false) (h2 : ¬ b.2 < st g t r) : nxS g t (some b) r = some b := by
  unfold nxS
  rw [h]
  exact if_neg h2
theorem n1_s (b : Nat × Nat) : n1 (some b) = nI b.1 := nrfl rfl
theorem n2_s (b : Nat × Nat) : n2 (some b) = nI b.2 := nrfl rfl
theorem n1_n : n1 none = mI := nrfl rfl
theorem n2_n : n2 none = nI 0 := nrfl rfl
theorem c_most {σ : St} {g : Gh} (hg : okG g) (hj : JC σ g) {t : Nat} (ht : t < 256) : fX0_settlesMost σ (nI t) = some (n1 ((List.range (gN g)).foldl (nxS g t) none)) := by
  have hN := hg.1
  have h18 := hj.1
  unfold fX0_settlesMost
  have key := it_for (β := Option (Nat × Nat)) (body := fun (kb : (Int32 × Int32 × Int32) → Option Int32) (x : Int32 × Int32 × Int32) => fX0_settlesMost_L7 (nI t) (fun v2 v3 v4 => kb (v2, v3, v4)) σ x.1 x.2.1 x.2.2) (gN g) (by omega) (fun k a => (n1 a, n2 a, nI k)) (fun _ a => nxI a) (fun k a z => z = some (n1 (((List.range (gN g)).drop k).foldl (nxS g t) a))) ?_ 0 none (Nat.zero_le _) (fun b hb => by cases hb)
  · exact key
  · intro k a hk ha kb hkb
    show fX0_settlesMost_L7 _ _ _ (n1 a) (n2 a) (nI k) = _
    unfold fX0_settlesMost_L7 fX7_number
    by_cases hkn : k = gN g
    · have e1 : (List.range (gN g)).drop k = [] := List.drop_of_length_le (by rw [List.length_range]; omega)
      rw [e1]
      simp (disch := omega) only [l0, l1, l2, l3, l4, l5, l6, l7, l8, l9, l10, l11, l12, l16, l18, l19, l20, l21, l24, l96, l128, l100, l144, l200, l256, l288, l1536, l1728, l1800, bnd, nI_add, pk_mul, pI_sub, pI_m1, pT_le, pF_le, pT_lt, pF_lt, pT_eq, pF_eq, pF_m1, mF_eq, mT_eq, mT_lt, mF_le, lm1, rd_nI, wr_nI, cl_nI, pk_us, un_ne, pk_uLs, uL_ne, zI_uI, zI_uJ, zI_uA, zI_uB, zI_uR, zI_uN, zJ_uI, zJ_uJ, zJ_uA, zJ_uB, zJ_uR, zJ_uN, zA_uI, zA_uJ, zA_uA, zA_uB, zA_uR, zA_uN, zB_uI, zB_uJ, zB_uA, zB_uB, zB_uR, zB_uN, zR_uI, zR_uJ, zR_uA, zR_uB, zR_uR, zR_uN, zN_uI, zN_uJ, zN_uA, zN_uB, zN_uR, zN_uN, zI_ne, zJ_ne, zA_ne, zB_ne, zR_ne, zN_ne, bi_T, bi_F, nz16, ↓reduceIte, not_true_eq_false, not_false_eq_true, Bool.false_eq_true, reduceCtorEq, h18]
      rfl
    · have hin := c_isIn (t := t) (r := k) (by omega) (by omega)
      rw [decide_eq_true (show k < 8 by omega), Bool.true_and] at hin
      rw [rng_drop (by omega), List.foldl_cons]
      have hi := nxI_step (t := t) hg ha (show k < 8 by omega)
      have nx := hkb (nxS g t a k) (by omega) hi
      have hs := c_settled hg hj ht (show k < 8 by omega)
      have hsl := st_le hg t k
      cases hb : t.testBit k with
      | true =>
        rw [hb] at hin
        rw [nx_in hb] at nx ⊢
        simp (disch := omega) only [l0, l1, l2, l3, l4, l5, l6, l7, l8, l9, l10, l11, l12, l16, l18, l19, l20, l21, l24, l96, l128, l100, l144, l200, l256, l288, l1536, l1728, l1800, bnd, nI_add, pk_mul, pI_sub, pI_m1, pT_le, pF_le, pT_lt, pF_lt, pT_eq, pF_eq, pF_m1, mF_eq, mT_eq, mT_lt, mF_le, lm1, rd_nI, wr_nI, cl_nI, pk_us, un_ne, pk_uLs, uL_ne, zI_uI, zI_uJ, zI_uA, zI_uB, zI_uR, zI_uN, zJ_uI, zJ_uJ, zJ_uA, zJ_uB, zJ_uR, zJ_uN, zA_uI, zA_uJ, zA_uA, zA_uB, zA_uR, zA_uN, zB_uI, zB_uJ, zB_uA, zB_uB, zB_uR, zB_uN, zR_uI, zR_uJ, zR_uA, zR_uB, zR_uR, zR_uN, zN_uI, zN_uJ, zN_uA, zN_uB, zN_uR, zN_uN, zI_ne, zJ_ne, zA_ne, zB_ne, zR_ne, zN_ne, bi_T, bi_F, nz16, ↓reduceIte, not_true_eq_false, not_false_eq_true, Bool.false_eq_true, reduceCtorEq, h18, hin]
        exact nx
      | false =>
        rw [hb] at hin
        cases a with
        | none =>
          rw [nx_none hb] at nx ⊢
          rw [n1_s, n2_s] at nx
          simp (disch := omega) only [l0, l1, l2, l3, l4, l5, l6, l7, l8, l9, l10, l11, l12, l16, l18, l19, l20, l21, l24, l96, l128, l100, l144, l200, l256, l288, l1536, l1728, l1800, bnd, nI_add, pk_mul, pI_sub, pI_m1, pT_le, pF_le, pT_lt, pF_lt, pT_eq, pF_eq, pF_m1, mF_eq, mT_eq, mT_lt, mF_le, lm1, rd_nI, wr_nI, cl_nI, pk_us, un_ne, pk_uLs, uL_ne, zI_uI, zI_uJ, zI_uA, zI_uB, zI_uR, zI_uN, zJ_uI, zJ_uJ, zJ_uA, zJ_uB, zJ_uR, zJ_uN, zA_uI, zA_uJ, zA_uA, zA_uB, zA_uR, zA_uN, zB_uI, zB_uJ, zB_uA, zB_uB, zB_uR, zB_uN, zR_uI, zR_uJ, zR_uA, zR_uB, zR_uR, zR_uN, zN_uI, zN_uJ, zN_uA, zN_uB, zN_uR, zN_uN, zI_ne, zJ_ne, zA_ne, zB_ne, zR_ne, zN_ne, bi_T, bi_F, nz16, ↓reduceIte, not_true_eq_false, not_false_eq_true, Bool.false_eq_true, reduceCtorEq, h18, hin, hs, n1_n, n2_n]
          exact nx
        | some b =>
          have hb2 := ha b rfl
          by_cases h2 : b.2 < st g t k
          · rw [nx_lt hb h2] at nx ⊢
            rw [n1_s, n2_s] at nx
            simp (disch := omega) only [l0, l1, l2, l3, l4, l5, l6, l7, l8, l9, l10, l11, l12, l16, l18, l19, l20, l21, l24, l96, l128, l100, l144, l200, l256, l288, l1536, l1728, l1800, bnd, nI_add, pk_mul, pI_sub, pI_m1, pT_le, pF_le, pT_lt, pF_lt, pT_eq, pF_eq, pF_m1, mF_eq, mT_eq, mT_lt, mF_le, lm1, rd_nI, wr_nI, cl_nI, pk_us, un_ne, pk_uLs, uL_ne, zI_uI, zI_uJ, zI_uA, zI_uB, zI_uR, zI_uN, zJ_uI, zJ_uJ, zJ_uA, zJ_uB, zJ_uR, zJ_uN, zA_uI, zA_uJ, zA_uA, zA_uB, zA_uR, zA_uN, zB_uI, zB_uJ, zB_uA, zB_uB, zB_uR, zB_uN, zR_uI, zR_uJ, zR_uA, zR_uB, zR_uR, zR_uN, zN_uI, zN_uJ, zN_uA, zN_uB, zN_uR, zN_uN, zI_ne, zJ_ne, zA_ne, zB_ne, zR_ne, zN_ne, bi_T, bi_F, nz16, ↓reduceIte, not_true_eq_false, not_false_eq_true, Bool.false_eq_true, reduceCtorEq, h18, hin, hs, n1_s, n2_s]
            exact nx
          · rw [nx_ge hb h2] at nx ⊢
            rw [n1_s, n2_s] at nx
            simp (disch := omega) only [l0, l1, l2, l3, l4, l5, l6, l7, l8, l9, l10, l11, l12, l16, l18, l19, l20, l21, l24, l96, l128, l100, l144, l200, l256, l288, l1536, l1728, l1800, bnd, nI_add, pk_mul, pI_sub, pI_m1, pT_le, pF_le, pT_lt, pF_lt, pT_eq, pF_eq, pF_m1, mF_eq, mT_eq, mT_lt, mF_le, lm1, rd_nI, wr_nI, cl_nI, pk_us, un_ne, pk_uLs, uL_ne, zI_uI, zI_uJ, zI_uA, zI_uB, zI_uR, zI_uN, zJ_uI, zJ_uJ, zJ_uA, zJ_uB, zJ_uR, zJ_uN, zA_uI, zA_uJ, zA_uA, zA_uB, zA_uR, zA_uN, zB_uI, zB_uJ, zB_uA, zB_uB, zB_uR, zB_uN, zR_uI, zR_uJ, zR_uA, zR_uB, zR_uR, zR_uN, zN_uI, zN_uJ, zN_uA, zN_uB, zN_uR, zN_uN, zI_ne, zJ_ne, zA_ne, zB_ne, zR_ne, zN_ne, bi_T, bi_F, nz16, ↓reduceIte, not_true_eq_false, not_false_eq_true, Bool.false_eq_true, reduceCtorEq, h18, hin, hs, n1_s, n2_s]
            exact nx
theorem m_most {σ : St} {g : Gh} {lim : Nat} (h : RI σ g lim) {t : Nat} (hal : al g t = true) : ∃ τ, fX12_next_P22 (nI t) σ mI (nI 0) (nI 0) = some (n1 ((List.range (gN g)).foldl (nxS g t) none), τ) ∧ SE σ τ := by
  have hg := h.1
  have hN := hg.1
  have ht := al_lt hg hal
  have key := it_for (β := St × Option (Nat × Nat)) (body := fun (kb : (St × Int32 × Int32 × Int32) → Option (Int32 × St)) (x : St × Int32 × Int32 × Int32) => fX12_next_L22 (nI t) (fun σ v2 v3 v4 => kb (σ, v2, v3, v4)) x.1 x.2.1 x.2.2.1 x.2.2.2) (gN g) (by omega) (fun k b => (b.1, n1 b.2, n2 b.2, nI k)) (fun _ b => SE σ b.1 ∧ nxI b.2) (fun k b z => ∃ τ, z = some (n1 (((List.range (gN g)).drop k).foldl (nxS g t) b.2), τ) ∧ SE σ τ) ?_ 0 (σ, none) (Nat.zero_le _) ⟨SE.rf σ, fun b hb => by cases hb⟩
  · exact key
  · rintro k ⟨τ, a⟩ hk ⟨se, ha⟩ kb hkb
    have se : SE σ τ := se
    have ha : nxI a := ha
    show ∃ υ, fX12_next_L22 _ _ τ (n1 a) (n2 a) (nI k) = _ ∧ _
    unfold fX12_next_L22
    have k2 := h.se se
    have h32 := k2.2.2.1.1
    by_cases hkn : k = gN g
    · have e1 : (List.range (gN g)).drop k = [] := List.drop_of_length_le (by rw [List.length_range]; omega)
      refine ⟨τ, ?_, se⟩
      rw [e1]
      simp (disch := omega) only [l0, l1, l2, l3, l4, l5, l6, l7, l8, l9, l10, l11, l12, l16, l18, l19, l20, l21, l24, l96, l128, l100, l144, l200, l256, l288, l1536, l1728, l1800, bnd, nI_add, pk_mul, pI_sub, pI_m1, pT_le, pF_le, pT_lt, pF_lt, pT_eq, pF_eq, pF_m1, mF_eq, mT_eq, mT_lt, mF_le, lm1, rd_nI, wr_nI, cl_nI, pk_us, un_ne, pk_uLs, uL_ne, zI_uI, zI_uJ, zI_uA, zI_uB, zI_uR, zI_uN, zJ_uI, zJ_uJ, zJ_uA, zJ_uB, zJ_uR, zJ_uN, zA_uI, zA_uJ, zA_uA, zA_uB, zA_uR, zA_uN, zB_uI, zB_uJ, zB_uA, zB_uB, zB_uR, zB_uN, zR_uI, zR_uJ, zR_uA, zR_uB, zR_uR, zR_uN, zN_uI, zN_uJ, zN_uA, zN_uB, zN_uR, zN_uN, zI_ne, zJ_ne, zA_ne, zB_ne, zR_ne, zN_ne, bi_T, bi_F, nz16, ↓reduceIte, not_true_eq_false, not_false_eq_true, Bool.false_eq_true, reduceCtorEq, h32]
      rfl
    · have hin := m_has (t := t) (r := k) (by omega) (by omega)
      rw [rng_drop (by omega), List.foldl_cons]
      have hi := nxI_step (t := t) hg ha (show k < 8 by omega)
      have hsl := st_le hg t k
      cases hb : t.testBit k with
      | true =>
        rw [hb] at hin
        obtain ⟨w, e, se2⟩ := hkb (τ, nxS g t a k) (by omega) ⟨se, hi⟩
        rw [nx_in hb] at e ⊢
        refine ⟨w, ?_, se2⟩
        simp (disch := omega) only [l0, l1, l2, l3, l4, l5, l6, l7, l8, l9, l10, l11, l12, l16, l18, l19, l20, l21, l24, l96, l128, l100, l144, l200, l256, l288, l1536, l1728, l1800, bnd, nI_add, pk_mul, pI_sub, pI_m1, pT_le, pF_le, pT_lt, pF_lt, pT_eq, pF_eq, pF_m1, mF_eq, mT_eq, mT_lt, mF_le, lm1, rd_nI, wr_nI, cl_nI, pk_us, un_ne, pk_uLs, uL_ne, zI_uI, zI_uJ, zI_uA, zI_uB, zI_uR, zI_uN, zJ_uI, zJ_uJ, zJ_uA, zJ_uB, zJ_uR, zJ_uN, zA_uI, zA_uJ, zA_uA, zA_uB, zA_uR, zA_uN, zB_uI, zB_uJ, zB_uA, zB_uB, zB_uR, zB_uN, zR_uI, zR_uJ, zR_uA, zR_uB, zR_uR, zR_uN, zN_uI, zN_uJ, zN_uA, zN_uB, zN_uR, zN_uN, zI_ne, zJ_ne, zA_ne, zB_ne, zR_ne, zN_ne, bi_T, bi_F, nz16, ↓reduceIte, not_true_eq_false, not_false_eq_true, Bool.false_eq_true, reduceCtorEq, h32, hin]
        exact e
      | false =>
        rw [hb] at hin
        obtain ⟨υ, d1, d2⟩ := m_settled k2 hal (show k < 8 by omega) hb
        obtain ⟨w, e, se2⟩ := hkb (υ, nxS g t a k) (by omega) ⟨se.tr d2, hi⟩
        refine ⟨w, ?_, se2⟩
        cases a with
        | none =>
          rw [nx_none hb] at e ⊢
          rw [n1_s, n2_s] at e
          simp (disch := omega) only [l0, l1, l2, l3, l4, l5, l6, l7, l8, l9, l10, l11, l12, l16, l18, l19, l20, l21, l24, l96, l128, l100, l144, l200, l256, l288, l1536, l1728, l1800, bnd, nI_add, pk_mul, pI_sub, pI_m1, pT_le, pF_le, pT_lt, pF_lt, pT_eq, pF_eq, pF_m1, mF_eq, mT_eq, mT_lt, mF_le, lm1, rd_nI, wr_nI, cl_nI, pk_us, un_ne, pk_uLs, uL_ne, zI_uI, zI_uJ, zI_uA, zI_uB, zI_uR, zI_uN, zJ_uI, zJ_uJ, zJ_uA, zJ_uB, zJ_uR, zJ_uN, zA_uI, zA_uJ, zA_uA, zA_uB, zA_uR, zA_uN, zB_uI, zB_uJ, zB_uA, zB_uB, zB_uR, zB_uN, zR_uI, zR_uJ, zR_uA, zR_uB, zR_uR, zR_uN, zN_uI, zN_uJ, zN_uA, zN_uB, zN_uR, zN_uN, zI_ne, zJ_ne, zA_ne, zB_ne, zR_ne, zN_ne, bi_T, bi_F, nz16, ↓reduceIte, not_true_eq_false, not_false_eq_true, Bool.false_eq_true, reduceCtorEq, h32, hin, d1, n1_n, n2_n]
          exact e
        | some b =>
          have hb2 := ha b rfl
          by_cases h2 : b.2 < st g t k
          · rw [nx_lt hb h2] at e ⊢
            rw [n1_s, n2_s] at e
            simp (disch := omega) only [l0, l1, l2, l3, l4, l5, l6, l7, l8, l9, l10, l11, l12, l16, l18, l19, l20, l21, l24, l96, l128, l100, l144, l200, l256, l288, l1536, l1728, l1800, bnd, nI_add, pk_mul, pI_sub, pI_m1, pT_le, pF_le, pT_lt, pF_lt, pT_eq, pF_eq, pF_m1, mF_eq, mT_eq, mT_lt, mF_le, lm1, rd_nI, wr_nI, cl_nI, pk_us, un_ne, pk_uLs, uL_ne, zI_uI, zI_uJ, zI_uA, zI_uB, zI_uR, zI_uN, zJ_uI, zJ_uJ, zJ_uA, zJ_uB, zJ_uR, zJ_uN, zA_uI, zA_uJ, zA_uA, zA_uB, zA_uR, zA_uN, zB_uI, zB_uJ, zB_uA, zB_uB, zB_uR, zB_uN, zR_uI, zR_uJ, zR_uA, zR_uB, zR_uR, zR_uN, zN_uI, zN_uJ, zN_uA, zN_uB, zN_uR, zN_uN, zI_ne, zJ_ne, zA_ne, zB_ne, zR_ne, zN_ne, bi_T, bi_F, nz16, ↓reduceIte, not_true_eq_false, not_false_eq_true, Bool.false_eq_true, reduceCtorEq, h32, hin, d1, n1_s, n2_s]
            exact e
          · rw [nx_ge hb h2] at e ⊢
            rw [n1_s, n2_s] at e
            simp (disch := omega) only [l0, l1, l2, l3, l4, l5, l6, l7, l8, l9, l10, l11, l12, l16, l18, l19, l20, l21, l24, l96, l128, l100, l144, l200, l256, l288, l1536, l1728, l1800, bnd, nI_add, pk_mul, pI_sub, pI_m1, pT_le, pF_le, pT_lt, pF_lt, pT_eq, pF_eq, pF_m1, mF_eq, mT_eq, mT_lt, mF_le, lm1, rd_nI, wr_nI, cl_nI, pk_us, un_ne, pk_uLs, uL_ne, zI_uI, zI_uJ, zI_uA, zI_uB, zI_uR, zI_uN, zJ_uI, zJ_uJ, zJ_uA, zJ_uB, zJ_uR, zJ_uN, zA_uI, zA_uJ, zA_uA, zA_uB, zA_uR, zA_uN, zB_uI, zB_uJ, zB_uA, zB_uB, zB_uR, zB_uN, zR_uI, zR_uJ, zR_uA, zR_uB, zR_uR, zR_uN, zN_uI, zN_uJ, zN_uA, zN_uB, zN_uR, zN_uN, zI_ne, zJ_ne, zA_ne, zB_ne, zR_ne, zN_ne, bi_T, bi_F, nz16, ↓reduceIte, not_true_eq_false, not_false_eq_true, Bool.false_eq_true, reduceCtorEq, h32, hin, d1, n1_s, n2_s]
            exact e
theorem t_next {σ : St} {g : Gh} {lim : Nat} (h : RI σ g lim) (p : Int32) : B1 σ (fX11_next σ p) (fun τ => fX12_next τ p) := by
  have s3 := se30 σ (nI 0)
  rcases all2 h p with ⟨t, ha, ht, rfl, f⟩ | f
  · have f1 := (f σ (SE.rf σ)).1
    have f2 := (f _ s3).2
    have c1 := c_most h.1 h.2.1 ht
    obtain ⟨υ, d1, d2⟩ := m_most (h.se s3) ha
    refine ⟨n1 ((List.range (gN g)).foldl (nxS g t) none), υ, ?_, ?_, s3.tr d2⟩
    · unfold fX11_next
      simp (disch := omega) only [l0, l1, l2, l3, l4, l5, l6, l7, l8, l9, l10, l11, l12, l16, l18, l19, l20, l21, l24, l96, l128, l100, l144, l200, l256, l288, l1536, l1728, l1800, bnd, nI_add, pk_mul, pI_sub, pI_m1, pT_le, pF_le, pT_lt, pF_lt, pT_eq, pF_eq, pF_m1, mF_eq, mT_eq, mT_lt, mF_le, lm1, rd_nI, wr_nI, cl_nI, pk_us, un_ne, pk_uLs, uL_ne, zI_uI, zI_uJ, zI_uA, zI_uB, zI_uR, zI_uN, zJ_uI, zJ_uJ, zJ_uA, zJ_uB, zJ_uR, zJ_uN, zA_uI, zA_uJ, zA_uA, zA_uB, zA_uR, zA_uN, zB_uI, zB_uJ, zB_uA, zB_uB, zB_uR, zB_uN, zR_uI, zR_uJ, zR_uA, zR_uB, zR_uR, zR_uN, zN_uI, zN_uJ, zN_uA, zN_uB, zN_uR, zN_uN, zI_ne, zJ_ne, zA_ne, zB_ne, zR_ne, zN_ne, bi_T, bi_F, nz16, ↓reduceIte, not_true_eq_false, not_false_eq_true, Bool.false_eq_true, reduceCtorEq, f1, c1]
    · show fX12_next σ (nI t) = _
      unfold fX12_next
      simp (disch := omega) only [l0, l1, l2, l3, l4, l5, l6, l7, l8, l9, l10, l11, l12, l16, l18, l19, l20, l21, l24, l96, l128, l100, l144, l200, l256, l288, l1536, l1728, l1800, bnd, nI_add, pk_mul, pI_sub, pI_m1, pT_le, pF_le, pT_lt, pF_lt, pT_eq, pF_eq, pF_m1, mF_eq, mT_eq, mT_lt, mF_le, lm1, rd_nI, wr_nI, cl_nI, pk_us, un_ne, pk_uLs, uL_ne, zI_uI, zI_uJ, zI_uA, zI_uB, zI_uR, zI_uN, zJ_uI, zJ_uJ, zJ_uA, zJ_uB, zJ_uR, zJ_uN, zA_uI, zA_uJ, zA_uA, zA_uB, zA_uR, zA_uN, zB_uI, zB_uJ, zB_uA, zB_uB, zB_uR, zB_uN, zR_uI, zR_uJ, zR_uA, zR_uB, zR_uR, zR_uN, zN_uI, zN_uJ, zN_uA, zN_uB, zN_uR, zN_uN, zI_ne, zJ_ne, zA_ne, zB_ne, zR_ne, zN_ne, bi_T, bi_F, nz16, ↓reduceIte, not_true_eq_false, not_false_eq_true, Bool.false_eq_true, reduceCtorEq, f2]
      exact d1
  · have f1 := (f σ (SE.rf σ)).1
    have f2 := (f _ s3).2
    refine B1.no mI ?_ ?_
    · unfold fX11_next
      simp (disch := omega) only [l0, l1, l2, l3, l4, l5, l6, l7, l8, l9, l10, l11, l12, l16, l18, l19, l20, l21, l24, l96, l128, l100, l144, l200, l256, l288, l1536, l1728, l1800, bnd, nI_add, pk_mul, pI_sub, pI_m1, pT_le, pF_le, pT_lt, pF_lt, pT_eq, pF_eq, pF_m1, mF_eq, mT_eq, mT_lt, mF_le, lm1, rd_nI, wr_nI, cl_nI, pk_us, un_ne, pk_uLs, uL_ne, zI_uI, zI_uJ, zI_uA, zI_uB, zI_uR, zI_uN, zJ_uI, zJ_uJ, zJ_uA, zJ_uB, zJ_uR, zJ_uN, zA_uI, zA_uJ, zA_uA, zA_uB, zA_uR, zA_uN, zB_uI, zB_uJ, zB_uA, zB_uB, zB_uR, zB_uN, zR_uI, zR_uJ, zR_uA, zR_uB, zR_uR, zR_uN, zN_uI, zN_uJ, zN_uA, zN_uB, zN_uR, zN_uN, zI_ne, zJ_ne, zA_ne, zB_ne, zR_ne, zN_ne, bi_T, bi_F, nz16, ↓reduceIte, not_true_eq_false, not_false_eq_true, Bool.false_eq_true, reduceCtorEq, f1]
    · unfold fX12_next
      simp (disch := omega) only [l0, l1, l2, l3, l4, l5, l6, l7, l8, l9, l10, l11, l12, l16, l18, l19, l20, l21, l24, l96, l128, l100, l144, l200, l256, l288, l1536, l1728, l1800, bnd, nI_add, pk_mul, pI_sub, pI_m1, pT_le, pF_le, pT_lt, pF_lt, pT_eq, pF_eq, pF_m1, mF_eq, mT_eq, mT_lt, mF_le, lm1, rd_nI, wr_nI, cl_nI, pk_us, un_ne, pk_uLs, uL_ne, zI_uI, zI_uJ, zI_uA, zI_uB, zI_uR, zI_uN, zJ_uI, zJ_uJ, zJ_uA, zJ_uB, zJ_uR, zJ_uN, zA_uI, zA_uJ, zA_uA, zA_uB, zA_uR, zA_uN, zB_uI, zB_uJ, zB_uA, zB_uB, zB_uR, zB_uN, zR_uI, zR_uJ, zR_uA, zR_uB, zR_uR, zR_uN, zN_uI, zN_uJ, zN_uA, zN_uB, zN_uR, zN_uN, zI_ne, zJ_ne, zA_ne, zB_ne, zR_ne, zN_ne, bi_T, bi_F, nz16, ↓reduceIte, not_true_eq_false, not_false_eq_true, Bool.false_eq_true, reduceCtorEq, f2]
