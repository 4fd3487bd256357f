/-! speech -/
def lastW (g : Gh) (s : Nat) : Wd := (gW g s).getD ((gW g s).length - 1) []
theorem c_lastWord {σ : St} {g : Gh} (hg : okG g) (hj : JC σ g) {s : Nat} (h : vd g s = true) : fX7_lastWord σ (nI s) = some (lN (enc (lastW g s))) := by
  have hw := (vd_ok hg h).2.1
  have hw12 := (vd_ok hg h).2.2.1
  have hx := c_word hg hj h (k := (gW g s).length - 1) (by omega)
  unfold fX7_lastWord
  simp (disch := omega) only [l0, l1, l2, l3, l4, l5, l6, l7, l8, l9, l10, l11, l12, l16, l18, l19, l20, l21, l24, l96, l128, l100, l144, l200, l256, l288, l1536, l1728, l1800, bnd, nI_add, pk_mul, pI_sub, pI_m1, pT_le, pF_le, pT_lt, pF_lt, pT_eq, pF_eq, pF_m1, mF_eq, mT_eq, mT_lt, mF_le, lm1, rd_nI, wr_nI, cl_nI, pk_us, un_ne, pk_uLs, uL_ne, zI_uI, zI_uJ, zI_uA, zI_uB, zI_uR, zI_uN, zJ_uI, zJ_uJ, zJ_uA, zJ_uB, zJ_uR, zJ_uN, zA_uI, zA_uJ, zA_uA, zA_uB, zA_uR, zA_uN, zB_uI, zB_uJ, zB_uA, zB_uB, zB_uR, zB_uN, zR_uI, zR_uJ, zR_uA, zR_uB, zR_uR, zR_uN, zN_uI, zN_uJ, zN_uA, zN_uB, zN_uR, zN_uN, zI_ne, zJ_ne, zA_ne, zB_ne, zR_ne, zN_ne, bi_T, bi_F, nz16, ↓reduceIte, not_true_eq_false, not_false_eq_true, Bool.false_eq_true, reduceCtorEq, c_ww hg hj h, hx]
  rfl
theorem lastW_ok {g : Gh} (hg : okG g) {s : Nat} (h : vd g s = true) : okW (lastW g s) := (vd_ok hg h).2.2.2.2 _ (getD_mem (by have := (vd_ok hg h).2.1; omega))
/-- what a speech is told: 0 its words, 1 its cue's, 2 letters of its last -/
def tellS (g : Gh) (s w : Nat) : Nat := if w = 0 then (gW g s).length else if w = 1 then (gC g s).length else (lastW g s).length
theorem tellS_le {g : Gh} (hg : okG g) {s w : Nat} (h : vd g s = true) : tellS g s w ≤ 12 := by
  have h1 := (vd_ok hg h).1
  have h2 := (vd_ok hg h).2.2.1
  have h3 := (lastW_ok hg h).2.1
  unfold tellS
  split
  · omega
  · split <;> omega
theorem t_speech {σ : St} {g : Gh} {lim : Nat} (h : RI σ g lim) (p q : Int32) : (∃ v f υ, v ≤ 12 ∧ fL_speech_88 σ p q = some (nI 0, uB σ 88 f) ∧ f 0 = lN v ∧ fX12_speech (uB σ 88 f) p q = some (nI v, υ) ∧ SE σ υ ∧ zI υ 30 = nI 0 ∧ zB υ 88 = f) ∨ ∃ υ, fL_speech_88 σ p q = some (nI 1, uN (uN σ 0 (zN σ 0 + 1)) 1 (zN σ 1 + 6)) ∧ fX12_speech (uN (uN σ 0 (zN σ 0 + 1)) 1 (zN σ 1 + 6)) p q = some (nI 0, υ) ∧ υ = uI (uN (uN σ 0 (zN σ 0 + 1)) 1 (zN σ 1 + 6)) 30 (nI 1) := by
  have hg := h.1
  -- refused
  have no : (¬ ((∃ s, vd g s = true ∧ p = nI s) ∧ ∃ w, w ≤ 2 ∧ q = nI w)) → ∃ υ, fL_speech_88 σ p q = some (nI 1, uN (uN σ 0 (zN σ 0 + 1)) 1 (zN σ 1 + 6)) ∧ fX12_speech (uN (uN σ 0 (zN σ 0 + 1)) 1 (zN σ 1 + 6)) p q = some (nI 0, υ) ∧ υ = uI (uN (uN σ 0 (zN σ 0 + 1)) 1 (zN σ 1 + 6)) 30 (nI 1) := by
    intro hn
    have hr : RI (uN (uN σ 0 (zN σ 0 + 1)) 1 (zN σ 1 + 6)) g lim := h
    refine ⟨_, ?_, ?_, rfl⟩
    · unfold fL_speech_88
      rcases has2 h p with ⟨s, hv, hs, rfl, e⟩ | e
      · rw [(e σ (SE.rf σ)).1, bnd, if_neg]
        · rfl
        · rintro ⟨_, h0, h2⟩
          apply hn
          refine ⟨⟨s, hv, rfl⟩, ?_⟩
          rcases i32_of q with hq | ⟨w, hw, rfl⟩
          · exact (Int32.lt_irrefl (Int32.lt_of_lt_of_le hq h0)).elim
          · refine ⟨w, ?_, rfl⟩
            have h2' : nI w ≤ nI 2 := h2
            exact (nI_leI (by omega) (by omega)).mp h2'
      · rw [(e σ (SE.rf σ)).1, bnd, if_neg (fun x => absurd x.1 (by decide))]
        rfl
    · rcases has2 hr p with ⟨s, hv, hs, rfl, e⟩ | e
      · have e1 := (e _ (SE.rf _)).2
        rcases i32_of q with hq | ⟨w, hw, rfl⟩
        · unfold fX12_speech
          simp (disch := omega) only [l0, l1, l2, l3, l4, l5, l6, l7, l8, l9, l10, l11, l12, l16, l18, l19, l20, l21, l24, l96, l128, l100, l144, l200, l256, l288, l1536, l1728, l1800, bnd, nI_add, pk_mul, pI_sub, pI_m1, pT_le, pF_le, pT_lt, pF_lt, pT_eq, pF_eq, pF_m1, mF_eq, mT_eq, mT_lt, mF_le, lm1, rd_nI, wr_nI, cl_nI, pk_us, un_ne, pk_uLs, uL_ne, zI_uI, zI_uJ, zI_uA, zI_uB, zI_uR, zI_uN, zJ_uI, zJ_uJ, zJ_uA, zJ_uB, zJ_uR, zJ_uN, zA_uI, zA_uJ, zA_uA, zA_uB, zA_uR, zA_uN, zB_uI, zB_uJ, zB_uA, zB_uB, zB_uR, zB_uN, zR_uI, zR_uJ, zR_uA, zR_uB, zR_uR, zR_uN, zN_uI, zN_uJ, zN_uA, zN_uB, zN_uR, zN_uN, zI_ne, zJ_ne, zA_ne, zB_ne, zR_ne, zN_ne, bi_T, bi_F, nz16, ↓reduceIte, not_true_eq_false, not_false_eq_true, Bool.false_eq_true, reduceCtorEq, e1, m_isInN hq]
        · have hin := m_isIn (a := w) (b := 0) (c := 2) (by omega) (by omega) (by omega)
          have h2 : ¬ w ≤ 2 := fun x => hn ⟨⟨s, hv, rfl⟩, w, x, rfl⟩
          rw [decide_eq_false (fun x => h2 x.2)] at hin
          unfold fX12_speech
          simp (disch := omega) only [l0, l1, l2, l3, l4, l5, l6, l7, l8, l9, l10, l11, l12, l16, l18, l19, l20, l21, l24, l96, l128, l100, l144, l200, l256, l288, l1536, l1728, l1800, bnd, nI_add, pk_mul, pI_sub, pI_m1, pT_le, pF_le, pT_lt, pF_lt, pT_eq, pF_eq, pF_m1, mF_eq, mT_eq, mT_lt, mF_le, lm1, rd_nI, wr_nI, cl_nI, pk_us, un_ne, pk_uLs, uL_ne, zI_uI, zI_uJ, zI_uA, zI_uB, zI_uR, zI_uN, zJ_uI, zJ_uJ, zJ_uA, zJ_uB, zJ_uR, zJ_uN, zA_uI, zA_uJ, zA_uA, zA_uB, zA_uR, zA_uN, zB_uI, zB_uJ, zB_uA, zB_uB, zB_uR, zB_uN, zR_uI, zR_uJ, zR_uA, zR_uB, zR_uR, zR_uN, zN_uI, zN_uJ, zN_uA, zN_uB, zN_uR, zN_uN, zI_ne, zJ_ne, zA_ne, zB_ne, zR_ne, zN_ne, bi_T, bi_F, nz16, ↓reduceIte, not_true_eq_false, not_false_eq_true, Bool.false_eq_true, reduceCtorEq, e1, hin]
      · have e1 := (e _ (SE.rf _)).2
        unfold fX12_speech
        simp (disch := omega) only [l0, l1, l2, l3, l4, l5, l6, l7, l8, l9, l10, l11, l12, l16, l18, l19, l20, l21, l24, l96, l128, l100, l144, l200, l256, l288, l1536, l1728, l1800, bnd, nI_add, pk_mul, pI_sub, pI_m1, pT_le, pF_le, pT_lt, pF_lt, pT_eq, pF_eq, pF_m1, mF_eq, mT_eq, mT_lt, mF_le, lm1, rd_nI, wr_nI, cl_nI, pk_us, un_ne, pk_uLs, uL_ne, zI_uI, zI_uJ, zI_uA, zI_uB, zI_uR, zI_uN, zJ_uI, zJ_uJ, zJ_uA, zJ_uB, zJ_uR, zJ_uN, zA_uI, zA_uJ, zA_uA, zA_uB, zA_uR, zA_uN, zB_uI, zB_uJ, zB_uA, zB_uB, zB_uR, zB_uN, zR_uI, zR_uJ, zR_uA, zR_uB, zR_uR, zR_uN, zN_uI, zN_uJ, zN_uA, zN_uB, zN_uR, zN_uN, zI_ne, zJ_ne, zA_ne, zB_ne, zR_ne, zN_ne, bi_T, bi_F, nz16, ↓reduceIte, not_true_eq_false, not_false_eq_true, Bool.false_eq_true, reduceCtorEq, e1]
  by_cases hy : (∃ s, vd g s = true ∧ p = nI s) ∧ ∃ w, w ≤ 2 ∧ q = nI w
  · refine Or.inl ?_
    obtain ⟨⟨s, hv, rfl⟩, w, hw, rfl⟩ := hy
    have hs := vd_lt hg hv
    have hw12 := (vd_ok hg hv).2.2.1
    have hw1 := (vd_ok hg hv).2.1
    have hc2 := (vd_ok hg hv).1
    have hl := lastW_ok hg hv
    have hl8 := hl.2.1
    have hle := tellS_le (w := w) hg hv
    have seB : ∀ f, SE σ (uB σ 88 f) := fun f => SE.uB (by decide)
    have hc := c_has hg h.2.1 (s := s) (by omega)
    rw [hv] at hc
    have t0 : tellS g s 0 = (gW g s).length := rfl
    have t1 : tellS g s 1 = (gC g s).length := rfl
    have t2 : tellS g s 2 = (lastW g s).length := rfl
    have hval : (if nI w = 0 then fX7_wordsOf σ (nI s) else if nI w = 1 then fX7_cueWordsOf σ (nI s) else (fX7_lastWord σ (nI s)).bind fun w => fX10_letters w) = some (nI (tellS g s w)) := by
      by_cases w0 : w = 0
      · rw [w0, t0, if_pos (show (nI 0 : Int32) = 0 from rfl), c_ww hg h.2.1 hv]
      · by_cases w1 : w = 1
        · rw [w1, t1, if_neg (show ¬ (nI 1 : Int32) = 0 by decide), if_pos (show (nI 1 : Int32) = 1 from rfl), c_cw hg h.2.1 hv]
        · have w2 : w = 2 := by omega
          rw [w2, t2, if_neg (show ¬ (nI 2 : Int32) = 0 by decide), if_neg (show ¬ (nI 2 : Int32) = 1 by decide), c_lastWord hg h.2.1 hv, bnd, c_letters (okL_of hl)]
    have c0 : (true = true ∧ 0 ≤ nI w ∧ nI w ≤ 2) := ⟨rfl, nI_pos' (by omega), nI_le (b := 2) hw (by omega)⟩
    obtain ⟨f, hf⟩ : ∃ f, f = vp_updL (zB σ 88) 0 (lN (tellS g s w)) := ⟨_, rfl⟩
    refine ⟨tellS g s w, f, uI (uB σ 88 f) 30 (nI 0), hle, ?_, by rw [hf]; exact pk_uLs, ?_, (seB _).tr (se30 _ (nI 0)), rfl, rfl⟩
    · unfold fL_speech_88
      rw [hc, bnd, if_pos c0, hval, bnd, nI_l (by omega), hf]
      rfl
    · have hm := (h.se (seB f)).2.2.1
      have e1 := m_isSpeech hg hm (s := s) (by omega)
      rw [hv] at e1
      have hin := m_isIn (a := w) (b := 0) (c := 2) (by omega) (by omega) (by omega)
      rw [decide_eq_true ⟨by omega, hw⟩] at hin
      have b1 := (hm.2.2 s hv).1
      have b2 := (hm.2.2 s hv).2.1
      obtain ⟨fr0, -, -, b3, -⟩ := (hm.2.2 s hv).2.2.2 ((gW g s).length - 1) (by omega)
      rw [zA_uB] at b1 b2 b3
      unfold fX12_speech
      by_cases w0 : w = 0
      · subst w0
        simp (disch := omega) only [l0, l1, l2, l3, l4, l5, l6, l7, l8, l9, l10, l11, l12, l16, l18, l19, l20, l21, l24, l96, l128, l100, l144, l200, l256, l288, l1536, l1728, l1800, bnd, nI_add, pk_mul, pI_sub, pI_m1, pT_le, pF_le, pT_lt, pF_lt, pT_eq, pF_eq, pF_m1, mF_eq, mT_eq, mT_lt, mF_le, lm1, rd_nI, wr_nI, cl_nI, pk_us, un_ne, pk_uLs, uL_ne, zI_uI, zI_uJ, zI_uA, zI_uB, zI_uR, zI_uN, zJ_uI, zJ_uJ, zJ_uA, zJ_uB, zJ_uR, zJ_uN, zA_uI, zA_uJ, zA_uA, zA_uB, zA_uR, zA_uN, zB_uI, zB_uJ, zB_uA, zB_uB, zB_uR, zB_uN, zR_uI, zR_uJ, zR_uA, zR_uB, zR_uR, zR_uN, zN_uI, zN_uJ, zN_uA, zN_uB, zN_uR, zN_uN, zI_ne, zJ_ne, zA_ne, zB_ne, zR_ne, zN_ne, bi_T, bi_F, nz16, ↓reduceIte, not_true_eq_false, not_false_eq_true, Bool.false_eq_true, reduceCtorEq, e1, hin, b2, t0]
      · by_cases w1 : w = 1
        · subst w1
          simp (disch := omega) only [l0, l1, l2, l3, l4, l5, l6, l7, l8, l9, l10, l11, l12, l16, l18, l19, l20, l21, l24, l96, l128, l100, l144, l200, l256, l288, l1536, l1728, l1800, bnd, nI_add, pk_mul, pI_sub, pI_m1, pT_le, pF_le, pT_lt, pF_lt, pT_eq, pF_eq, pF_m1, mF_eq, mT_eq, mT_lt, mF_le, lm1, rd_nI, wr_nI, cl_nI, pk_us, un_ne, pk_uLs, uL_ne, zI_uI, zI_uJ, zI_uA, zI_uB, zI_uR, zI_uN, zJ_uI, zJ_uJ, zJ_uA, zJ_uB, zJ_uR, zJ_uN, zA_uI, zA_uJ, zA_uA, zA_uB, zA_uR, zA_uN, zB_uI, zB_uJ, zB_uA, zB_uB, zB_uR, zB_uN, zR_uI, zR_uJ, zR_uA, zR_uB, zR_uR, zR_uN, zN_uI, zN_uJ, zN_uA, zN_uB, zN_uR, zN_uN, zI_ne, zJ_ne, zA_ne, zB_ne, zR_ne, zN_ne, bi_T, bi_F, nz16, ↓reduceIte, not_true_eq_false, not_false_eq_true, Bool.false_eq_true, reduceCtorEq, e1, hin, b1, t1]
        · have w2 : w = 2 := by omega
          subst w2
          have hix : 12 * s + (gW g s).length - 1 = 12 * s + ((gW g s).length - 1) := by omega
          simp (disch := omega) only [l0, l1, l2, l3, l4, l5, l6, l7, l8, l9, l10, l11, l12, l16, l18, l19, l20, l21, l24, l96, l128, l100, l144, l200, l256, l288, l1536, l1728, l1800, bnd, nI_add, pk_mul, pI_sub, pI_m1, pT_le, pF_le, pT_lt, pF_lt, pT_eq, pF_eq, pF_m1, mF_eq, mT_eq, mT_lt, mF_le, lm1, rd_nI, wr_nI, cl_nI, pk_us, un_ne, pk_uLs, uL_ne, zI_uI, zI_uJ, zI_uA, zI_uB, zI_uR, zI_uN, zJ_uI, zJ_uJ, zJ_uA, zJ_uB, zJ_uR, zJ_uN, zA_uI, zA_uJ, zA_uA, zA_uB, zA_uR, zA_uN, zB_uI, zB_uJ, zB_uA, zB_uB, zB_uR, zB_uN, zR_uI, zR_uJ, zR_uA, zR_uB, zR_uR, zR_uN, zN_uI, zN_uJ, zN_uA, zN_uB, zN_uR, zN_uN, zI_ne, zJ_ne, zA_ne, zB_ne, zR_ne, zN_ne, bi_T, bi_F, nz16, ↓reduceIte, not_true_eq_false, not_false_eq_true, Bool.false_eq_true, reduceCtorEq, e1, hin, b2, t2]
          rw [hix, b3]
          rfl
  · exact Or.inr (no hy)
