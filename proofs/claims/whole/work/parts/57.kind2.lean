/-! slips, nearest, kinds: both sides -/
def sl (g : Gh) (lim t s : Nat) : Bool := (sp g).any (fun o => ot t s o && decide (dg g s o ≤ lim))
theorem ot_eq {t s o : Nat} (ht : s / 16 < 8) (ho : o / 16 < 8) : (oth t (s / 16)).testBit (o / 16) = ot t s o := oth_bit t ht ho
theorem c_slips {σ : St} {g : Gh} (hg : okG g) (hj : JC σ g) {s t lim : Nat} (h : vd g s = true) (ht : t < 256) (hlim : lim < 100) (h20 : zI σ 20 = nI lim) : ∃ τ, fX0_slips σ (nI s) (nI t) = some (sl g lim t s, τ) ∧ SE σ τ := by
  have hs := vd_lt hg h
  have hl := sp_len hg
  unfold fX0_slips
  simp (disch := omega) only [l0, l1, l2, l3, l4, l5, l6, l7, l8, l9, l10, l11, l12, l16, l18, l19, l20, l21, l24, l96, l128, l100, l144, l200, l256, l288, l1536, l1728, l1800, bnd, nI_add, pk_mul, pI_sub, pI_m1, pT_le, pF_le, pT_lt, pF_lt, pT_eq, pF_eq, pF_m1, mF_eq, mT_eq, mT_lt, mF_le, lm1, rd_nI, wr_nI, cl_nI, pk_us, un_ne, pk_uLs, uL_ne, zI_uI, zI_uJ, zI_uA, zI_uB, zI_uR, zI_uN, zJ_uI, zJ_uJ, zJ_uA, zJ_uB, zJ_uR, zJ_uN, zA_uI, zA_uJ, zA_uA, zA_uB, zA_uR, zA_uN, zB_uI, zB_uJ, zB_uA, zB_uB, zB_uR, zB_uN, zR_uI, zR_uJ, zR_uA, zR_uB, zR_uR, zR_uN, zN_uI, zN_uJ, zN_uA, zN_uB, zN_uR, zN_uN, zI_ne, zJ_ne, zA_ne, zB_ne, zR_ne, zN_ne, bi_T, bi_F, nz16, ↓reduceIte, not_true_eq_false, not_false_eq_true, Bool.false_eq_true, reduceCtorEq, c_rollOf, oth_I]
  have key := it_for (β := St) (body := fun (kb : (St × Int32) → Option (Bool × St)) (x : St × Int32) => fX0_slips_L14 (nI s) (nI (oth t (s / 16))) (fun σ v4 => kb (σ, v4)) x.1 x.2) (sp g).length (by omega) (fun k τ => (τ, nI k)) (fun _ τ => SE σ τ) (fun k _ r => ∃ τ, r = some (((sp g).drop k).any (fun o => ot t s o && decide (dg g s o ≤ lim)), τ) ∧ SE σ τ) ?_ 0 σ (Nat.zero_le _) (SE.rf σ)
  · exact key
  · intro k τ hk se kb hkb
    show ∃ υ, fX0_slips_L14 _ _ _ τ (nI k) = _ ∧ _
    unfold fX0_slips_L14
    have hj2 := hj.se se
    by_cases hkn : k = (sp g).length
    · refine ⟨τ, ?_, se⟩
      rw [hkn, List.drop_length]
      simp (disch := omega) only [l0, l1, l2, l3, l4, l5, l6, l7, l8, l9, l10, l11, l12, l16, l18, l19, l20, l21, l24, l96, l128, l100, l144, l200, l256, l288, l1536, l1728, l1800, bnd, nI_add, pk_mul, pI_sub, pI_m1, pT_le, pF_le, pT_lt, pF_lt, pT_eq, pF_eq, pF_m1, mF_eq, mT_eq, mT_lt, mF_le, lm1, rd_nI, wr_nI, cl_nI, pk_us, un_ne, pk_uLs, uL_ne, zI_uI, zI_uJ, zI_uA, zI_uB, zI_uR, zI_uN, zJ_uI, zJ_uJ, zJ_uA, zJ_uB, zJ_uR, zJ_uN, zA_uI, zA_uJ, zA_uA, zA_uB, zA_uR, zA_uN, zB_uI, zB_uJ, zB_uA, zB_uB, zB_uR, zB_uN, zR_uI, zR_uJ, zR_uA, zR_uB, zR_uR, zR_uN, zN_uI, zN_uJ, zN_uA, zN_uB, zN_uR, zN_uN, zI_ne, zJ_ne, zA_ne, zB_ne, zR_ne, zN_ne, bi_T, bi_F, nz16, ↓reduceIte, not_true_eq_false, not_false_eq_true, Bool.false_eq_true, reduceCtorEq, c_speeches hj2]
      rfl
    · have hv := sp_at (g := g) (i := k) (by omega)
      have hvl := vd_lt hg hv
      have hat := c_speechAt hg hj2 (i := k) (by omega)
      have hof := c_isOf hg (t := oth t (s / 16)) (by have := oth_lt (r := s / 16) ht; omega) hv
      rw [ot_eq (by omega) (by omega)] at hof
      rw [drop_get (by omega), List.any_cons]
      generalize (sp g).getD k 0 = o at *
      cases h1 : ot t s o with
      | false =>
        rw [h1] at hof
        have := hkb τ (by omega) se
        simp (disch := omega) only [l0, l1, l2, l3, l4, l5, l6, l7, l8, l9, l10, l11, l12, l16, l18, l19, l20, l21, l24, l96, l128, l100, l144, l200, l256, l288, l1536, l1728, l1800, bnd, nI_add, pk_mul, pI_sub, pI_m1, pT_le, pF_le, pT_lt, pF_lt, pT_eq, pF_eq, pF_m1, mF_eq, mT_eq, mT_lt, mF_le, lm1, rd_nI, wr_nI, cl_nI, pk_us, un_ne, pk_uLs, uL_ne, zI_uI, zI_uJ, zI_uA, zI_uB, zI_uR, zI_uN, zJ_uI, zJ_uJ, zJ_uA, zJ_uB, zJ_uR, zJ_uN, zA_uI, zA_uJ, zA_uA, zA_uB, zA_uR, zA_uN, zB_uI, zB_uJ, zB_uA, zB_uB, zB_uR, zB_uN, zR_uI, zR_uJ, zR_uA, zR_uB, zR_uR, zR_uN, zN_uI, zN_uJ, zN_uA, zN_uB, zN_uR, zN_uN, zI_ne, zJ_ne, zA_ne, zB_ne, zR_ne, zN_ne, bi_T, bi_F, nz16, ↓reduceIte, not_true_eq_false, not_false_eq_true, Bool.false_eq_true, reduceCtorEq, c_speeches hj2, hat, hof, Bool.false_and, Bool.false_or]
        exact this
      | true =>
        rw [h1] at hof
        obtain ⟨υ, e, se2⟩ := c_dist hg hj2 h hv
        have hd := dg_le hg h hv
        have h20' : zI υ 20 = nI lim := by rw [(se.tr se2).i 20 (by decide), h20]
        by_cases h2 : dg g s o ≤ lim
        · refine ⟨υ, ?_, se.tr se2⟩
          simp (disch := omega) only [l0, l1, l2, l3, l4, l5, l6, l7, l8, l9, l10, l11, l12, l16, l18, l19, l20, l21, l24, l96, l128, l100, l144, l200, l256, l288, l1536, l1728, l1800, bnd, nI_add, pk_mul, pI_sub, pI_m1, pT_le, pF_le, pT_lt, pF_lt, pT_eq, pF_eq, pF_m1, mF_eq, mT_eq, mT_lt, mF_le, lm1, rd_nI, wr_nI, cl_nI, pk_us, un_ne, pk_uLs, uL_ne, zI_uI, zI_uJ, zI_uA, zI_uB, zI_uR, zI_uN, zJ_uI, zJ_uJ, zJ_uA, zJ_uB, zJ_uR, zJ_uN, zA_uI, zA_uJ, zA_uA, zA_uB, zA_uR, zA_uN, zB_uI, zB_uJ, zB_uA, zB_uB, zB_uR, zB_uN, zR_uI, zR_uJ, zR_uA, zR_uB, zR_uR, zR_uN, zN_uI, zN_uJ, zN_uA, zN_uB, zN_uR, zN_uN, zI_ne, zJ_ne, zA_ne, zB_ne, zR_ne, zN_ne, bi_T, bi_F, nz16, ↓reduceIte, not_true_eq_false, not_false_eq_true, Bool.false_eq_true, reduceCtorEq, c_speeches hj2, hat, hof, e, h20', decide_eq_true h2, Bool.true_and, Bool.true_or]
        · obtain ⟨w, e3, se3⟩ := hkb υ (by omega) (se.tr se2)
          refine ⟨w, ?_, se3⟩
          simp (disch := omega) only [l0, l1, l2, l3, l4, l5, l6, l7, l8, l9, l10, l11, l12, l16, l18, l19, l20, l21, l24, l96, l128, l100, l144, l200, l256, l288, l1536, l1728, l1800, bnd, nI_add, pk_mul, pI_sub, pI_m1, pT_le, pF_le, pT_lt, pF_lt, pT_eq, pF_eq, pF_m1, mF_eq, mT_eq, mT_lt, mF_le, lm1, rd_nI, wr_nI, cl_nI, pk_us, un_ne, pk_uLs, uL_ne, zI_uI, zI_uJ, zI_uA, zI_uB, zI_uR, zI_uN, zJ_uI, zJ_uJ, zJ_uA, zJ_uB, zJ_uR, zJ_uN, zA_uI, zA_uJ, zA_uA, zA_uB, zA_uR, zA_uN, zB_uI, zB_uJ, zB_uA, zB_uB, zB_uR, zB_uN, zR_uI, zR_uJ, zR_uA, zR_uB, zR_uR, zR_uN, zN_uI, zN_uJ, zN_uA, zN_uB, zN_uR, zN_uN, zI_ne, zJ_ne, zA_ne, zB_ne, zR_ne, zN_ne, bi_T, bi_F, nz16, ↓reduceIte, not_true_eq_false, not_false_eq_true, Bool.false_eq_true, reduceCtorEq, c_speeches hj2, hat, hof, e, h20', decide_eq_false h2, Bool.true_and, Bool.false_or]
          exact e3
/-- the kind of a cue -/
def kd (g : Gh) (lim t s : Nat) : Nat :=
  if (gC g s).length = 0 then 0 else if mb g t s = 0 then (if own g s = true then 3 else if sl g lim t s = true then 4 else 5) else if mb g t s = 1 then 1 else 2
theorem kd_le (g : Gh) (lim t s : Nat) : kd g lim t s ≤ 5 := by
  unfold kd
  repeat' split
  all_goals omega
theorem c_kindOf {σ : St} {g : Gh} (hg : okG g) (hj : JC σ g) {s t lim : Nat} (h : vd g s = true) (ht : t < 256) (hlim : lim < 100) (h20 : zI σ 20 = nI lim) : ∃ τ, fX0_kindOf σ (nI s) (nI t) = some (nI (kd g lim t s), τ) ∧ SE σ τ := by
  have hc2 := (vd_ok hg h).1
  have hm := mb_le hg t s
  unfold fX0_kindOf kd
  by_cases h0 : (gC g s).length = 0
  · rw [if_pos h0]
    refine ⟨σ, ?_, SE.rf σ⟩
    simp (disch := omega) only [l0, l1, l2, l3, l4, l5, l6, l7, l8, l9, l10, l11, l12, l16, l18, l19, l20, l21, l24, l96, l128, l100, l144, l200, l256, l288, l1536, l1728, l1800, bnd, nI_add, pk_mul, pI_sub, pI_m1, pT_le, pF_le, pT_lt, pF_lt, pT_eq, pF_eq, pF_m1, mF_eq, mT_eq, mT_lt, mF_le, lm1, rd_nI, wr_nI, cl_nI, pk_us, un_ne, pk_uLs, uL_ne, zI_uI, zI_uJ, zI_uA, zI_uB, zI_uR, zI_uN, zJ_uI, zJ_uJ, zJ_uA, zJ_uB, zJ_uR, zJ_uN, zA_uI, zA_uJ, zA_uA, zA_uB, zA_uR, zA_uN, zB_uI, zB_uJ, zB_uA, zB_uB, zB_uR, zB_uN, zR_uI, zR_uJ, zR_uA, zR_uB, zR_uR, zR_uN, zN_uI, zN_uJ, zN_uA, zN_uB, zN_uR, zN_uN, zI_ne, zJ_ne, zA_ne, zB_ne, zR_ne, zN_ne, bi_T, bi_F, nz16, ↓reduceIte, not_true_eq_false, not_false_eq_true, Bool.false_eq_true, reduceCtorEq, c_cw hg hj h]
  · rw [if_neg h0]
    by_cases h1 : mb g t s = 0
    · rw [if_pos h1]
      have ho := c_isOwn hg hj h
      cases h2 : own g s with
      | true =>
        rw [h2] at ho
        refine ⟨σ, ?_, SE.rf σ⟩
        simp (disch := omega) only [l0, l1, l2, l3, l4, l5, l6, l7, l8, l9, l10, l11, l12, l16, l18, l19, l20, l21, l24, l96, l128, l100, l144, l200, l256, l288, l1536, l1728, l1800, bnd, nI_add, pk_mul, pI_sub, pI_m1, pT_le, pF_le, pT_lt, pF_lt, pT_eq, pF_eq, pF_m1, mF_eq, mT_eq, mT_lt, mF_le, lm1, rd_nI, wr_nI, cl_nI, pk_us, un_ne, pk_uLs, uL_ne, zI_uI, zI_uJ, zI_uA, zI_uB, zI_uR, zI_uN, zJ_uI, zJ_uJ, zJ_uA, zJ_uB, zJ_uR, zJ_uN, zA_uI, zA_uJ, zA_uA, zA_uB, zA_uR, zA_uN, zB_uI, zB_uJ, zB_uA, zB_uB, zB_uR, zB_uN, zR_uI, zR_uJ, zR_uA, zR_uB, zR_uR, zR_uN, zN_uI, zN_uJ, zN_uA, zN_uB, zN_uR, zN_uN, zI_ne, zJ_ne, zA_ne, zB_ne, zR_ne, zN_ne, bi_T, bi_F, nz16, ↓reduceIte, not_true_eq_false, not_false_eq_true, Bool.false_eq_true, reduceCtorEq, c_cw hg hj h, c_metBy hg hj h ht, ho, if_true]
      | false =>
        rw [h2] at ho
        obtain ⟨τ, e, se⟩ := c_slips hg hj h ht hlim h20
        refine ⟨τ, ?_, se⟩
        cases h3 : sl g lim t s with
        | true =>
          rw [h3] at e
          simp (disch := omega) only [l0, l1, l2, l3, l4, l5, l6, l7, l8, l9, l10, l11, l12, l16, l18, l19, l20, l21, l24, l96, l128, l100, l144, l200, l256, l288, l1536, l1728, l1800, bnd, nI_add, pk_mul, pI_sub, pI_m1, pT_le, pF_le, pT_lt, pF_lt, pT_eq, pF_eq, pF_m1, mF_eq, mT_eq, mT_lt, mF_le, lm1, rd_nI, wr_nI, cl_nI, pk_us, un_ne, pk_uLs, uL_ne, zI_uI, zI_uJ, zI_uA, zI_uB, zI_uR, zI_uN, zJ_uI, zJ_uJ, zJ_uA, zJ_uB, zJ_uR, zJ_uN, zA_uI, zA_uJ, zA_uA, zA_uB, zA_uR, zA_uN, zB_uI, zB_uJ, zB_uA, zB_uB, zB_uR, zB_uN, zR_uI, zR_uJ, zR_uA, zR_uB, zR_uR, zR_uN, zN_uI, zN_uJ, zN_uA, zN_uB, zN_uR, zN_uN, zI_ne, zJ_ne, zA_ne, zB_ne, zR_ne, zN_ne, bi_T, bi_F, nz16, ↓reduceIte, not_true_eq_false, not_false_eq_true, Bool.false_eq_true, reduceCtorEq, c_cw hg hj h, c_metBy hg hj h ht, ho, e, if_true, if_false]
        | false =>
          rw [h3] at e
          simp (disch := omega) only [l0, l1, l2, l3, l4, l5, l6, l7, l8, l9, l10, l11, l12, l16, l18, l19, l20, l21, l24, l96, l128, l100, l144, l200, l256, l288, l1536, l1728, l1800, bnd, nI_add, pk_mul, pI_sub, pI_m1, pT_le, pF_le, pT_lt, pF_lt, pT_eq, pF_eq, pF_m1, mF_eq, mT_eq, mT_lt, mF_le, lm1, rd_nI, wr_nI, cl_nI, pk_us, un_ne, pk_uLs, uL_ne, zI_uI, zI_uJ, zI_uA, zI_uB, zI_uR, zI_uN, zJ_uI, zJ_uJ, zJ_uA, zJ_uB, zJ_uR, zJ_uN, zA_uI, zA_uJ, zA_uA, zA_uB, zA_uR, zA_uN, zB_uI, zB_uJ, zB_uA, zB_uB, zB_uR, zB_uN, zR_uI, zR_uJ, zR_uA, zR_uB, zR_uR, zR_uN, zN_uI, zN_uJ, zN_uA, zN_uB, zN_uR, zN_uN, zI_ne, zJ_ne, zA_ne, zB_ne, zR_ne, zN_ne, bi_T, bi_F, nz16, ↓reduceIte, not_true_eq_false, not_false_eq_true, Bool.false_eq_true, reduceCtorEq, c_cw hg hj h, c_metBy hg hj h ht, ho, e, if_false]
    · rw [if_neg h1]
      refine ⟨σ, ?_, SE.rf σ⟩
      by_cases h2 : mb g t s = 1
      · rw [if_pos h2]
        simp (disch := omega) only [l0, l1, l2, l3, l4, l5, l6, l7, l8, l9, l10, l11, l12, l16, l18, l19, l20, l21, l24, l96, l128, l100, l144, l200, l256, l288, l1536, l1728, l1800, bnd, nI_add, pk_mul, pI_sub, pI_m1, pT_le, pF_le, pT_lt, pF_lt, pT_eq, pF_eq, pF_m1, mF_eq, mT_eq, mT_lt, mF_le, lm1, rd_nI, wr_nI, cl_nI, pk_us, un_ne, pk_uLs, uL_ne, zI_uI, zI_uJ, zI_uA, zI_uB, zI_uR, zI_uN, zJ_uI, zJ_uJ, zJ_uA, zJ_uB, zJ_uR, zJ_uN, zA_uI, zA_uJ, zA_uA, zA_uB, zA_uR, zA_uN, zB_uI, zB_uJ, zB_uA, zB_uB, zB_uR, zB_uN, zR_uI, zR_uJ, zR_uA, zR_uB, zR_uR, zR_uN, zN_uI, zN_uJ, zN_uA, zN_uB, zN_uR, zN_uN, zI_ne, zJ_ne, zA_ne, zB_ne, zR_ne, zN_ne, bi_T, bi_F, nz16, ↓reduceIte, not_true_eq_false, not_false_eq_true, Bool.false_eq_true, reduceCtorEq, c_cw hg hj h, c_metBy hg hj h ht]
      · rw [if_neg h2]
        simp (disch := omega) only [l0, l1, l2, l3, l4, l5, l6, l7, l8, l9, l10, l11, l12, l16, l18, l19, l20, l21, l24, l96, l128, l100, l144, l200, l256, l288, l1536, l1728, l1800, bnd, nI_add, pk_mul, pI_sub, pI_m1, pT_le, pF_le, pT_lt, pF_lt, pT_eq, pF_eq, pF_m1, mF_eq, mT_eq, mT_lt, mF_le, lm1, rd_nI, wr_nI, cl_nI, pk_us, un_ne, pk_uLs, uL_ne, zI_uI, zI_uJ, zI_uA, zI_uB, zI_uR, zI_uN, zJ_uI, zJ_uJ, zJ_uA, zJ_uB, zJ_uR, zJ_uN, zA_uI, zA_uJ, zA_uA, zA_uB, zA_uR, zA_uN, zB_uI, zB_uJ, zB_uA, zB_uB, zB_uR, zB_uN, zR_uI, zR_uJ, zR_uA, zR_uB, zR_uR, zR_uN, zN_uI, zN_uJ, zN_uA, zN_uB, zN_uR, zN_uN, zI_ne, zJ_ne, zA_ne, zB_ne, zR_ne, zN_ne, bi_T, bi_F, nz16, ↓reduceIte, not_true_eq_false, not_false_eq_true, Bool.false_eq_true, reduceCtorEq, c_cw hg hj h, c_metBy hg hj h ht]
/-! nearest -/
def neS (g : Gh) (t s : Nat) (a : Option (Nat × Nat)) (o : Nat) : Option (Nat × Nat) :=
  if ot t s o = true then (match a with | none => some (o, dg g s o) | some b => if dg g s o < b.2 then some (o, dg g s o) else some b) else a
def ne (g : Gh) (t s : Nat) : Option (Nat × Nat) := (sp g).foldl (neS g t s) none
def n1 (a : Option (Nat × Nat)) : Int32 := match a with | none => mI | some b => nI b.1
def n2 (a : Option (Nat × Nat)) : Int32 := match a with | none => nI 0 | some b => nI b.2
/-- what is found is a speech, told with how far it is -/
def neI (g : Gh) (t s : Nat) (a : Option (Nat × Nat)) : Prop := ∀ b, a = some b → vd g b.1 = true ∧ ot t s b.1 = true ∧ b.2 = dg g s b.1
theorem neI_step {g : Gh} {t s o : Nat} {a : Option (Nat × Nat)} (ha : neI g t s a) (ho : vd g o = true) : neI g t s (neS g t s a o) := by
  unfold neS
  split
  · rename_i h1
    cases a with
    | none =>
      intro b hb
      cases hb
      exact ⟨ho, h1, rfl⟩
    | some b =>
      simp only
      split
      · intro c hc
        cases hc
        exact ⟨ho, h1, rfl⟩
      · exact ha
  · exact ha
def nle (lim : Nat) (a : Option (Nat × Nat)) : Bool := match a with | none => false | some b => decide (b.2 ≤ lim)
theorem nle_n (lim : Nat) : nle lim none = false := rfl
theorem nle_s (lim : Nat) (b : Nat × Nat) : nle lim (some b) = decide (b.2 ≤ lim) := rfl
theorem ne_any {g : Gh} {t s lim : Nat} : ∀ (l : List Nat) (a : Option (Nat × Nat)), nle lim (l.foldl (neS g t s) a) = (nle lim a || l.any (fun o => ot t s o && decide (dg g s o ≤ lim))) := by
  intro l
  induction l with
  | nil => intro a; simp
  | cons o l ih =>
    intro a
    rw [List.foldl_cons, ih, List.any_cons, ← Bool.or_assoc]
    congr 1
    unfold neS
    cases h1 : ot t s o with
    | false => simp
    | true =>
      cases a with
      | none => simp [nle]
      | some b =>
        simp only [if_true, Bool.true_and]
        by_cases h2 : dg g s o < b.2
        · rw [if_pos h2, nle_s, nle_s]
          by_cases h3 : dg g s o ≤ lim
          · simp [h3]
          · have h4 : ¬ b.2 ≤ lim := by omega
            simp [h3, h4]
        · rw [if_neg h2, nle_s]
          by_cases h3 : b.2 ≤ lim
          · simp [h3]
          · have h4 : ¬ dg g s o ≤ lim := by omega
            simp [h3, h4]
theorem ne_inv {g : Gh} {t s : Nat} : ∀ (l : List Nat) (a : Option (Nat × Nat)), (∀ o, o ∈ l → vd g o = true) → neI g t s a → neI g t s (l.foldl (neS g t s) a)
  | [], _, _, h => h
  | o :: l, a, hl, h => ne_inv l (neS g t s a o) (fun x hx => hl x (List.mem_cons_of_mem _ hx)) (neI_step h (hl o List.mem_cons_self))
theorem ne_ok {g : Gh} {t s : Nat} : neI g t s (ne g t s) := ne_inv (sp g) none (fun o ho => (sp_mem.mp ho).2) (fun b hb => by cases hb)
theorem c_leastFar {σ : St} {g : Gh} (hg : okG g) (hj : JC σ g) {s t : Nat} (h : vd g s = true) (ht : t < 256) : ∃ τ, fX0_leastFar σ (nI s) (nI t) = some (n1 (ne g t s), τ) ∧ SE σ τ := by
  have hs := vd_lt hg h
  have hl := sp_len hg
  unfold fX0_leastFar
  simp (disch := omega) only [l0, l1, l2, l3, l4, l5, l6, l7, l8, l9, l10, l11, l12, l16, l18, l19, l20, l21, l24, l96, l128, l100, l144, l200, l256, l288, l1536, l1728, l1800, bnd, nI_add, pk_mul, pI_sub, pI_m1, pT_le, pF_le, pT_lt, pF_lt, pT_eq, pF_eq, pF_m1, mF_eq, mT_eq, mT_lt, mF_le, lm1, rd_nI, wr_nI, cl_nI, pk_us, un_ne, pk_uLs, uL_ne, zI_uI, zI_uJ, zI_uA, zI_uB, zI_uR, zI_uN, zJ_uI, zJ_uJ, zJ_uA, zJ_uB, zJ_uR, zJ_uN, zA_uI, zA_uJ, zA_uA, zA_uB, zA_uR, zA_uN, zB_uI, zB_uJ, zB_uA, zB_uB, zB_uR, zB_uN, zR_uI, zR_uJ, zR_uA, zR_uB, zR_uR, zR_uN, zN_uI, zN_uJ, zN_uA, zN_uB, zN_uR, zN_uN, zI_ne, zJ_ne, zA_ne, zB_ne, zR_ne, zN_ne, bi_T, bi_F, nz16, ↓reduceIte, not_true_eq_false, not_false_eq_true, Bool.false_eq_true, reduceCtorEq, c_rollOf, oth_I]
  have key := it_for (β := St × Option (Nat × Nat)) (body := fun (kb : (St × Int32 × Int32 × Int32) → Option (Int32 × St)) (x : St × Int32 × Int32 × Int32) => fX0_leastFar_L20 (nI s) (nI (oth t (s / 16))) (fun σ v4 v5 v6 => kb (σ, v4, v5, v6)) x.1 x.2.1 x.2.2.1 x.2.2.2) (sp g).length (by omega) (fun k b => (b.1, n1 b.2, n2 b.2, nI k)) (fun _ b => SE σ b.1 ∧ neI g t s b.2) (fun k b r => ∃ τ, r = some (n1 (((sp g).drop k).foldl (neS g t s) b.2), τ) ∧ SE σ τ) ?_ 0 (σ, none) (Nat.zero_le _) ⟨SE.rf σ, fun b hb => by cases hb⟩
  · exact key
  · rintro k ⟨τ, a⟩ hk ⟨se, ha⟩ kb hkb
    show ∃ υ, fX0_leastFar_L20 _ _ _ τ (n1 a) (n2 a) (nI k) = _ ∧ _
    unfold fX0_leastFar_L20
    have se : SE σ τ := se
    have hj2 := hj.se se
    by_cases hkn : k = (sp g).length
    · refine ⟨τ, ?_, se⟩
      rw [hkn, List.drop_length]
      simp (disch := omega) only [l0, l1, l2, l3, l4, l5, l6, l7, l8, l9, l10, l11, l12, l16, l18, l19, l20, l21, l24, l96, l128, l100, l144, l200, l256, l288, l1536, l1728, l1800, bnd, nI_add, pk_mul, pI_sub, pI_m1, pT_le, pF_le, pT_lt, pF_lt, pT_eq, pF_eq, pF_m1, mF_eq, mT_eq, mT_lt, mF_le, lm1, rd_nI, wr_nI, cl_nI, pk_us, un_ne, pk_uLs, uL_ne, zI_uI, zI_uJ, zI_uA, zI_uB, zI_uR, zI_uN, zJ_uI, zJ_uJ, zJ_uA, zJ_uB, zJ_uR, zJ_uN, zA_uI, zA_uJ, zA_uA, zA_uB, zA_uR, zA_uN, zB_uI, zB_uJ, zB_uA, zB_uB, zB_uR, zB_uN, zR_uI, zR_uJ, zR_uA, zR_uB, zR_uR, zR_uN, zN_uI, zN_uJ, zN_uA, zN_uB, zN_uR, zN_uN, zI_ne, zJ_ne, zA_ne, zB_ne, zR_ne, zN_ne, bi_T, bi_F, nz16, ↓reduceIte, not_true_eq_false, not_false_eq_true, Bool.false_eq_true, reduceCtorEq, c_speeches hj2]
      rfl
    · have hv := sp_at (g := g) (i := k) (by omega)
      have hvl := vd_lt hg hv
      have hat := c_speechAt hg hj2 (i := k) (by omega)
      have hof := c_isOf hg (t := oth t (s / 16)) (by have := oth_lt (r := s / 16) ht; omega) hv
      rw [ot_eq (by omega) (by omega)] at hof
      rw [drop_get (by omega), List.foldl_cons]
      have hst := neI_step (t := t) (s := s) ha hv
      generalize (sp g).getD k 0 = o at *
      cases h1 : ot t s o with
      | false =>
        rw [h1] at hof
        have e1 : neS g t s a o = a := by unfold neS; rw [h1]; rfl
        obtain ⟨υ, e, se2⟩ := hkb (τ, a) (by omega) ⟨se, ha⟩
        refine ⟨υ, ?_, se2⟩
        simp (disch := omega) only [l0, l1, l2, l3, l4, l5, l6, l7, l8, l9, l10, l11, l12, l16, l18, l19, l20, l21, l24, l96, l128, l100, l144, l200, l256, l288, l1536, l1728, l1800, bnd, nI_add, pk_mul, pI_sub, pI_m1, pT_le, pF_le, pT_lt, pF_lt, pT_eq, pF_eq, pF_m1, mF_eq, mT_eq, mT_lt, mF_le, lm1, rd_nI, wr_nI, cl_nI, pk_us, un_ne, pk_uLs, uL_ne, zI_uI, zI_uJ, zI_uA, zI_uB, zI_uR, zI_uN, zJ_uI, zJ_uJ, zJ_uA, zJ_uB, zJ_uR, zJ_uN, zA_uI, zA_uJ, zA_uA, zA_uB, zA_uR, zA_uN, zB_uI, zB_uJ, zB_uA, zB_uB, zB_uR, zB_uN, zR_uI, zR_uJ, zR_uA, zR_uB, zR_uR, zR_uN, zN_uI, zN_uJ, zN_uA, zN_uB, zN_uR, zN_uN, zI_ne, zJ_ne, zA_ne, zB_ne, zR_ne, zN_ne, bi_T, bi_F, nz16, ↓reduceIte, not_true_eq_false, not_false_eq_true, Bool.false_eq_true, reduceCtorEq, c_speeches hj2, hat, hof, e1]
        exact e
      | true =>
        rw [h1] at hof
        obtain ⟨υ, e, se2⟩ := c_dist hg hj2 h hv
        have hd := dg_le hg h hv
        cases a with
        | none =>
          have e1 : neS g t s none o = some (o, dg g s o) := by unfold neS; rw [h1]; rfl
          rw [e1] at hst
          obtain ⟨w, e3, se3⟩ := hkb (υ, some (o, dg g s o)) (by omega) ⟨se.tr se2, hst⟩
          refine ⟨w, ?_, se3⟩
          have e4 : (n1 none = mI) = True := eq_true rfl
          simp (disch := omega) only [l0, l1, l2, l3, l4, l5, l6, l7, l8, l9, l10, l11, l12, l16, l18, l19, l20, l21, l24, l96, l128, l100, l144, l200, l256, l288, l1536, l1728, l1800, bnd, nI_add, pk_mul, pI_sub, pI_m1, pT_le, pF_le, pT_lt, pF_lt, pT_eq, pF_eq, pF_m1, mF_eq, mT_eq, mT_lt, mF_le, lm1, rd_nI, wr_nI, cl_nI, pk_us, un_ne, pk_uLs, uL_ne, zI_uI, zI_uJ, zI_uA, zI_uB, zI_uR, zI_uN, zJ_uI, zJ_uJ, zJ_uA, zJ_uB, zJ_uR, zJ_uN, zA_uI, zA_uJ, zA_uA, zA_uB, zA_uR, zA_uN, zB_uI, zB_uJ, zB_uA, zB_uB, zB_uR, zB_uN, zR_uI, zR_uJ, zR_uA, zR_uB, zR_uR, zR_uN, zN_uI, zN_uJ, zN_uA, zN_uB, zN_uR, zN_uN, zI_ne, zJ_ne, zA_ne, zB_ne, zR_ne, zN_ne, bi_T, bi_F, nz16, ↓reduceIte, not_true_eq_false, not_false_eq_true, Bool.false_eq_true, reduceCtorEq, c_speeches hj2, hat, hof, e, e1, e4]
          exact e3
        | some b =>
          have hb := ha b rfl
          have hbl := vd_lt hg hb.1
          have hbd := dg_le hg h hb.1
          have e5 : n1 (some b) = nI b.1 := rfl
          have e6 : n2 (some b) = nI b.2 := rfl
          have hb2 := hb.2.2
          by_cases h2 : dg g s o < b.2
          · have e1 : neS g t s (some b) o = some (o, dg g s o) := by
              unfold neS; rw [h1]; simp only [if_true]; rw [if_pos h2]
            rw [e1] at hst
            obtain ⟨w, e3, se3⟩ := hkb (υ, some (o, dg g s o)) (by omega) ⟨se.tr se2, hst⟩
            refine ⟨w, ?_, se3⟩
            simp (disch := omega) only [l0, l1, l2, l3, l4, l5, l6, l7, l8, l9, l10, l11, l12, l16, l18, l19, l20, l21, l24, l96, l128, l100, l144, l200, l256, l288, l1536, l1728, l1800, bnd, nI_add, pk_mul, pI_sub, pI_m1, pT_le, pF_le, pT_lt, pF_lt, pT_eq, pF_eq, pF_m1, mF_eq, mT_eq, mT_lt, mF_le, lm1, rd_nI, wr_nI, cl_nI, pk_us, un_ne, pk_uLs, uL_ne, zI_uI, zI_uJ, zI_uA, zI_uB, zI_uR, zI_uN, zJ_uI, zJ_uJ, zJ_uA, zJ_uB, zJ_uR, zJ_uN, zA_uI, zA_uJ, zA_uA, zA_uB, zA_uR, zA_uN, zB_uI, zB_uJ, zB_uA, zB_uB, zB_uR, zB_uN, zR_uI, zR_uJ, zR_uA, zR_uB, zR_uR, zR_uN, zN_uI, zN_uJ, zN_uA, zN_uB, zN_uR, zN_uN, zI_ne, zJ_ne, zA_ne, zB_ne, zR_ne, zN_ne, bi_T, bi_F, nz16, ↓reduceIte, not_true_eq_false, not_false_eq_true, Bool.false_eq_true, reduceCtorEq, c_speeches hj2, hat, hof, e, e1, e5, e6]
            exact e3
          · have e1 : neS g t s (some b) o = some b := by
              unfold neS; rw [h1]; simp only [if_true]; rw [if_neg h2]
            rw [e1] at hst
            obtain ⟨w, e3, se3⟩ := hkb (υ, some b) (by omega) ⟨se.tr se2, hst⟩
            refine ⟨w, ?_, se3⟩
            simp (disch := omega) only [l0, l1, l2, l3, l4, l5, l6, l7, l8, l9, l10, l11, l12, l16, l18, l19, l20, l21, l24, l96, l128, l100, l144, l200, l256, l288, l1536, l1728, l1800, bnd, nI_add, pk_mul, pI_sub, pI_m1, pT_le, pF_le, pT_lt, pF_lt, pT_eq, pF_eq, pF_m1, mF_eq, mT_eq, mT_lt, mF_le, lm1, rd_nI, wr_nI, cl_nI, pk_us, un_ne, pk_uLs, uL_ne, zI_uI, zI_uJ, zI_uA, zI_uB, zI_uR, zI_uN, zJ_uI, zJ_uJ, zJ_uA, zJ_uB, zJ_uR, zJ_uN, zA_uI, zA_uJ, zA_uA, zA_uB, zA_uR, zA_uN, zB_uI, zB_uJ, zB_uA, zB_uB, zB_uR, zB_uN, zR_uI, zR_uJ, zR_uA, zR_uB, zR_uR, zR_uN, zN_uI, zN_uJ, zN_uA, zN_uB, zN_uR, zN_uN, zI_ne, zJ_ne, zA_ne, zB_ne, zR_ne, zN_ne, bi_T, bi_F, nz16, ↓reduceIte, not_true_eq_false, not_false_eq_true, Bool.false_eq_true, reduceCtorEq, c_speeches hj2, hat, hof, e, e1, e5, e6]
            exact e3
