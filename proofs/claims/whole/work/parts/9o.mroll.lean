/-! the model reads a roll *-/
theorem RC.fr {σ τ : St} {bs : List Nat} {s a f l m : Nat} {ws : List Wd} {A B K N : List Nat} (h : RC σ bs s ws a f l m) (g : FR A B K N σ τ) (ha : a ∉ A) (hf : f ∉ A) (hl : l ∉ A) : RC τ bs s ws a f l m := by
  unfold RC
  rw [g.1 a ha, g.1 f hf, g.1 l hl]
  exact h
theorem m_readCue {σ : St} {bs : List Nat} {p s : Nat} (h : MX σ 55 0 bs p) (hs : s < 144) : ∃ υ, FR [61, 63, 64] [] [37, 38] [] σ υ ∧ on1 σ υ 61 s ∧ onm σ υ 63 2 s ∧ onm σ υ 64 2 s ∧ fX12_readCue σ (nI s) = some υ ∧ ((∃ p' ws, MX υ 55 0 bs p' ∧ RC υ bs s ws 61 63 64 2 ∧ (∀ w, w ∈ ws → okW w) ∧ ws.length ≤ 2 ∧ pIc (.inr (tkR Jr 8 gr bs p)) = (ws.map enc, .inr (tkR Jr 8 gr bs p'))) ∨ (∃ f, zI υ 38 = nI f ∧ f < 1000 ∧ nd 62 (pIc (.inr (tkR Jr 8 gr bs p))).2 = .inl f)) := by
  obtain ⟨s1, hs1⟩ : ∃ s1, s1 = uA σ 61 (upd (zA σ 61) s (nI 0)) := ⟨_, rfl⟩
  have hF1 : FR [61] [] [] [] σ s1 := by rw [hs1]; exact FR.uA (FR.rf _ _ _ _ _) (by decide)
  have hM1 : MX s1 55 0 bs p := h.fr hF1 (by decide) (by decide)
  have o1 : on1 σ s1 61 s := fun j hj => by rw [hs1, zA_uA, un_ne hj]
  obtain ⟨p', s2, h1, h2, h3, h4, h5, h6, h7⟩ := m_look hM1
  have hb := h.2.2.2.2.2.2.2.2.2
  have hlk := lk_tok (J := Jr) (M := 8) (gr := gr) hb h2 h5 (v := 45) (by decide) (by decide)
  have htk := tk_head (J := Jr) (M := 8) (gr := gr) h2 h5
  have et : tkR Jr 8 gr bs p = tkR Jr 8 gr bs p' := h6 Jr 8 gr (by decide)
  rw [et]
  have h61 : zA s2 61 s = nI 0 := by rw [h3.1 61 (by decide), hs1, zA_uA, pk_us]
  have h37 := h4.2.2.2.2.1
  unfold fX12_readCue
  by_cases he : (hd (tkR Jr 8 gr bs p')).1 = 45
  · have e2 := hlk.mpr he
    have etl : (tkR Jr 8 gr bs p').tail = tkR Jr 8 gr bs (p' + 1) ∧ p' + 1 ≤ bs.length := by
      rcases htk.2 with ⟨h8, h9⟩ | ⟨h8, h9, h10⟩ | ⟨h8, h9, h10⟩
      · omega
      · omega
      · rw [h10]; exact ⟨rfl, h8⟩
    refine ⟨uI s2 37 (nI (p' + 1)), FR.uI ((hF1.mono (by decide) (by decide) (by decide) (by decide)).tr (h3.mono (by decide) (by decide) (by decide) (by decide))) (by decide), (fun j hj => by rw [zA_uI, h3.1 61 (by decide)]; exact o1 j hj), (fun j _ => by rw [zA_uI, h3.1 63 (by decide), hF1.1 63 (by decide)]), (fun j _ => by rw [zA_uI, h3.1 64 (by decide), hF1.1 64 (by decide)]), ?_, .inl ⟨p' + 1, [], h4.at etl.2, ⟨by rw [zA_uI]; exact h61, fun k hk => absurd hk (Nat.not_lt_zero _)⟩, (fun w hw => nomatch hw), Nat.zero_le _, ?_⟩⟩
    · rw [hs1] at h7
      simp (disch := omega) only [l0, l1, l2, l3, l4, l5, l6, l7, l8, l9, l10, l11, l12, l16, l18, l19, l20, l21, l24, l96, l128, l100, l144, l200, l256, l288, l1536, l1728, l1800, bnd, nI_add, pk_mul, pI_sub, pI_m1, pT_le, pF_le, pT_lt, pF_lt, pT_eq, pF_eq, pF_m1, mF_eq, mT_eq, mT_lt, mF_le, lm1, rd_nI, wr_nI, cl_nI, pk_us, un_ne, pk_uLs, uL_ne, zI_uI, zI_uJ, zI_uA, zI_uB, zI_uR, zI_uN, zJ_uI, zJ_uJ, zJ_uA, zJ_uB, zJ_uR, zJ_uN, zA_uI, zA_uJ, zA_uA, zA_uB, zA_uR, zA_uN, zB_uI, zB_uJ, zB_uA, zB_uB, zB_uR, zB_uN, zR_uI, zR_uJ, zR_uA, zR_uB, zR_uR, zR_uN, zN_uI, zN_uJ, zN_uA, zN_uB, zN_uR, zN_uN, zI_ne, zJ_ne, zA_ne, zB_ne, zR_ne, zN_ne, bi_T, bi_F, nz16, ↓reduceIte, not_true_eq_false, not_false_eq_true, Bool.false_eq_true, reduceCtorEq, h7, l45, e2, h37]
    · have e3 : tb 45 (.inr (tkR Jr 8 gr bs p')) = true := decide_eq_true he
      unfold pIc
      rw [if_pos e3]
      show ([], Sum.inr (tkR Jr 8 gr bs p').tail) = _
      rw [etl.1]
      rfl
  · have e2 : ¬ lk bs p' = nI 45 := fun x => he (hlk.mp x)
    have e3 : ¬ tb 45 (.inr (tkR Jr 8 gr bs p')) = true := fun x => he (of_decide_eq_true x)
    obtain ⟨υ, h8, h9, h10, h11, h12, h13⟩ := m_words_61 h4 hs h5 h61
    refine ⟨υ, ((hF1.mono (by decide) (by decide) (by decide) (by decide)).tr (h3.mono (by decide) (by decide) (by decide) (by decide))).tr h8, (fun j hj => by rw [h9 j hj, h3.1 61 (by decide)]; exact o1 j hj), (fun j hj => by rw [h10 j hj, h3.1 63 (by decide), hF1.1 63 (by decide)]), (fun j hj => by rw [h11 j hj, h3.1 64 (by decide), hF1.1 64 (by decide)]), ?_, ?_⟩
    · rw [hs1] at h7
      rw [← h12]
      simp (disch := omega) only [l0, l1, l2, l3, l4, l5, l6, l7, l8, l9, l10, l11, l12, l16, l18, l19, l20, l21, l24, l96, l128, l100, l144, l200, l256, l288, l1536, l1728, l1800, bnd, nI_add, pk_mul, pI_sub, pI_m1, pT_le, pF_le, pT_lt, pF_lt, pT_eq, pF_eq, pF_m1, mF_eq, mT_eq, mT_lt, mF_le, lm1, rd_nI, wr_nI, cl_nI, pk_us, un_ne, pk_uLs, uL_ne, zI_uI, zI_uJ, zI_uA, zI_uB, zI_uR, zI_uN, zJ_uI, zJ_uJ, zJ_uA, zJ_uB, zJ_uR, zJ_uN, zA_uI, zA_uJ, zA_uA, zA_uB, zA_uR, zA_uN, zB_uI, zB_uJ, zB_uA, zB_uB, zB_uR, zB_uN, zR_uI, zR_uJ, zR_uA, zR_uB, zR_uR, zR_uN, zN_uI, zN_uJ, zN_uA, zN_uB, zN_uR, zN_uN, zI_ne, zJ_ne, zA_ne, zB_ne, zR_ne, zN_ne, bi_T, bi_F, nz16, ↓reduceIte, not_true_eq_false, not_false_eq_true, Bool.false_eq_true, reduceCtorEq, h7, l45, if_neg e2]
    · have ec : pIc (.inr (tkR Jr 8 gr bs p')) = wd 2 (.inr (tkR Jr 8 gr bs p')) := if_neg e3
      rw [ec]
      rcases h13 with ⟨p2, ws, h14, h15, h16, h17, h18, h19⟩ | ⟨f, h14, h15, h16⟩
      · refine .inl ⟨p2, ws, h14, h15, h16, h18, ?_⟩
        show (if (pW 2 (tkR Jr 8 gr bs p')).1 = [] then _ else _) = _
        have hne : ws.map enc ≠ [] := fun e => h17 (by
          have := congrArg List.length e
          rw [List.length_map] at this
          exact List.eq_nil_of_length_eq_zero this)
        rw [h19, if_neg hne]
      · refine .inr ⟨f, h14, h15, ?_⟩
        show nd 62 (if (pW 2 (tkR Jr 8 gr bs p')).1 = [] then _ else _ : List Nat × Sx).2 = _
        rcases h16 with ⟨h17, h18⟩ | ⟨h17, h18, h19⟩
        · rw [if_pos h17]
          show Sum.inl (hd (tkR Jr 8 gr bs p')).2 = _
          rw [h18]
        · rw [if_neg h17]
          show (if (hd (pW 2 (tkR Jr 8 gr bs p')).2).1 = 62 then _ else _) = _
          rw [if_neg (by omega), h18]
theorem m_readSpeech {σ : St} {bs : List Nat} {p s : Nat} (h : MX σ 55 0 bs p) (hs : s < 144) : ∃ υ, FR [62, 65, 66] [] [37, 38] [] σ υ ∧ on1 σ υ 62 s ∧ onm σ υ 65 12 s ∧ onm σ υ 66 12 s ∧ fX12_readSpeech σ (nI s) = some υ ∧ ((∃ p' ws, MX υ 55 0 bs p' ∧ RC υ bs s ws 62 65 66 12 ∧ (∀ w, w ∈ ws → okW w) ∧ ws ≠ [] ∧ ws.length ≤ 12 ∧ wd 12 (.inr (tkR Jr 8 gr bs p)) = (ws.map enc, .inr (tkR Jr 8 gr bs p'))) ∨ (∃ f, zI υ 38 = nI f ∧ f < 1000 ∧ fx (wd 12 (.inr (tkR Jr 8 gr bs p))).2 = nI f ∧ tb 59 (wd 12 (.inr (tkR Jr 8 gr bs p))).2 = false)) := by
  obtain ⟨s1, hs1⟩ : ∃ s1, s1 = uA σ 62 (upd (zA σ 62) s (nI 0)) := ⟨_, rfl⟩
  have hF1 : FR [62] [] [] [] σ s1 := by rw [hs1]; exact FR.uA (FR.rf _ _ _ _ _) (by decide)
  have hM1 : MX s1 55 0 bs p := h.fr hF1 (by decide) (by decide)
  have o1 : on1 σ s1 62 s := fun j hj => by rw [hs1, zA_uA, un_ne hj]
  obtain ⟨p', s2, h1, h2, h3, h4, h5, h6, h7⟩ := m_look hM1
  have et : tkR Jr 8 gr bs p = tkR Jr 8 gr bs p' := h6 Jr 8 gr (by decide)
  rw [et]
  have h61 : zA s2 62 s = nI 0 := by rw [h3.1 62 (by decide), hs1, zA_uA, pk_us]
  unfold fX12_readSpeech
  obtain ⟨υ, h8, h9, h10, h11, h12, h13⟩ := m_words_62 h4 hs h5 h61
  refine ⟨υ, ((hF1.mono (by decide) (by decide) (by decide) (by decide)).tr (h3.mono (by decide) (by decide) (by decide) (by decide))).tr h8, (fun j hj => by rw [h9 j hj, h3.1 62 (by decide)]; exact o1 j hj), (fun j hj => by rw [h10 j hj, h3.1 65 (by decide), hF1.1 65 (by decide)]), (fun j hj => by rw [h11 j hj, h3.1 66 (by decide), hF1.1 66 (by decide)]), ?_, ?_⟩
  · rw [hs1] at h7
    rw [← h12]
    simp (disch := omega) only [l0, l1, l2, l3, l4, l5, l6, l7, l8, l9, l10, l11, l12, l16, l18, l19, l20, l21, l24, l96, l128, l100, l144, l200, l256, l288, l1536, l1728, l1800, bnd, nI_add, pk_mul, pI_sub, pI_m1, pT_le, pF_le, pT_lt, pF_lt, pT_eq, pF_eq, pF_m1, mF_eq, mT_eq, mT_lt, mF_le, lm1, rd_nI, wr_nI, cl_nI, pk_us, un_ne, pk_uLs, uL_ne, zI_uI, zI_uJ, zI_uA, zI_uB, zI_uR, zI_uN, zJ_uI, zJ_uJ, zJ_uA, zJ_uB, zJ_uR, zJ_uN, zA_uI, zA_uJ, zA_uA, zA_uB, zA_uR, zA_uN, zB_uI, zB_uJ, zB_uA, zB_uB, zB_uR, zB_uN, zR_uI, zR_uJ, zR_uA, zR_uB, zR_uR, zR_uN, zN_uI, zN_uJ, zN_uA, zN_uB, zN_uR, zN_uN, zI_ne, zJ_ne, zA_ne, zB_ne, zR_ne, zN_ne, bi_T, bi_F, nz16, ↓reduceIte, not_true_eq_false, not_false_eq_true, Bool.false_eq_true, reduceCtorEq, h7]
  · rcases h13 with ⟨p2, ws, h14, h15, h16, h17, h18, h19⟩ | ⟨f, h14, h15, h16⟩
    · refine .inl ⟨p2, ws, h14, h15, h16, h17, h18, ?_⟩
      show (if (pW 12 (tkR Jr 8 gr bs p')).1 = [] then _ else _) = _
      have hne : ws.map enc ≠ [] := fun e => h17 (by
        have := congrArg List.length e
        rw [List.length_map] at this
        exact List.eq_nil_of_length_eq_zero this)
      rw [h19, if_neg hne]
    · refine .inr ⟨f, h14, h15, ?_⟩
      have e : wd 12 (.inr (tkR Jr 8 gr bs p')) = if (pW 12 (tkR Jr 8 gr bs p')).1 = [] then ([], .inl (hd (tkR Jr 8 gr bs p')).2) else ((pW 12 (tkR Jr 8 gr bs p')).1, .inr (pW 12 (tkR Jr 8 gr bs p')).2) := rfl
      rw [e]
      rcases h16 with ⟨h17, h18⟩ | ⟨h17, h18, h19⟩
      · rw [if_pos h17]
        refine ⟨?_, rfl⟩
        show nI (hd (tkR Jr 8 gr bs p')).2 = _
        rw [h18]
      · rw [if_neg h17]
        refine ⟨?_, decide_eq_false (by omega)⟩
        show (if (hd (pW 12 (tkR Jr 8 gr bs p')).2).1 = 256 then _ else _) = _
        rw [if_neg (by omega), h18]
abbrev It : Type := List Wd × List Wd
def encI (e : It) : List Nat × List Nat := (e.1.map enc, e.2.map enc)
def RIt (y : St) (bs : List Nat) (roll : Nat) (gi : List It) : Prop := ∀ k, k < gi.length → RC y bs (16 * roll + k) (gi.getD k ([], [])).1 61 63 64 2 ∧ RC y bs (16 * roll + k) (gi.getD k ([], [])).2 62 65 66 12
def okIt (e : It) : Prop := okS e.1 e.2
/-- nothing but the roll's own *-/
def onR (σ τ : St) (roll : Nat) : Prop := on1 σ τ 60 roll ∧ onm σ τ 61 16 roll ∧ onm σ τ 62 16 roll ∧ onm σ τ 63 32 roll ∧ onm σ τ 64 32 roll ∧ onm σ τ 65 192 roll ∧ onm σ τ 66 192 roll
theorem onR.tr {σ τ υ : St} {roll : Nat} (h : onR σ τ roll) (k : onR τ υ roll) : onR σ υ roll :=
  ⟨fun j hj => (k.1 j hj).trans (h.1 j hj), fun j hj => (k.2.1 j hj).trans (h.2.1 j hj), fun j hj => (k.2.2.1 j hj).trans (h.2.2.1 j hj), fun j hj => (k.2.2.2.1 j hj).trans (h.2.2.2.1 j hj), fun j hj => (k.2.2.2.2.1 j hj).trans (h.2.2.2.2.1 j hj), fun j hj => (k.2.2.2.2.2.1 j hj).trans (h.2.2.2.2.2.1 j hj), fun j hj => (k.2.2.2.2.2.2 j hj).trans (h.2.2.2.2.2.2 j hj)⟩
theorem onR.fr {σ τ : St} {roll : Nat} {A B K N : List Nat} (h : FR A B K N σ τ) (hA : ∀ q, q ∈ [60, 61, 62, 63, 64, 65, 66] → q ∉ A) : onR σ τ roll :=
  ⟨fun j _ => by rw [h.1 60 (hA 60 (by decide))], fun j _ => by rw [h.1 61 (hA 61 (by decide))], fun j _ => by rw [h.1 62 (hA 62 (by decide))], fun j _ => by rw [h.1 63 (hA 63 (by decide))], fun j _ => by rw [h.1 64 (hA 64 (by decide))], fun j _ => by rw [h.1 65 (hA 65 (by decide))], fun j _ => by rw [h.1 66 (hA 66 (by decide))]⟩
theorem pIc_inl (f : Nat) : pIc (.inl f) = ([], .inl f) := by
  unfold pIc
  rw [if_neg (show ¬ tb 45 (.inl f) = true from fun h => by cases h)]
  rfl
/-- where the steps ahead of the speech fail, the reading ends so *-/
theorem pItems_bad {n f : Nat} {x : Sx} (h : nd 62 (pIc x).2 = .inl f) : (pItems (n + 1) x).2 = .inl f := by
  have e : (pIw x).2 = .inl f := by
    unfold pIw
    rw [h]
    rfl
  show (if 0 < n ∧ tb 59 (pIw x).2 = true then _ else _ : List (List Nat × List Nat) × Sx).2 = _
  rw [e, if_neg (fun h => by cases h.2)]
theorem m_readRoll {σ : St} {bs : List Nat} {roll : Nat} (h31 : zI σ 31 = nI bs.length) (h55 : hB (zA σ 55) bs) (hl : bs.length ≤ 200) (hb : ∀ b, b ∈ bs → 1 ≤ b ∧ b < 256) (hr : roll ≤ 8) : ∃ υ, FR [60, 61, 62, 63, 64, 65, 66] [] [35, 36, 37, 38] [] (uR σ 3 55) υ ∧ onR σ υ roll ∧ fX12_readRoll σ (nI roll) = some υ ∧ zI υ 38 = fx (pRoll bs).2 ∧ (fx (pRoll bs).2 = mI → ∃ gi : List It, (pRoll bs).1 = gi.map encI ∧ (∀ e, e ∈ gi → okIt e) ∧ zA υ 60 roll = nI gi.length ∧ 1 ≤ gi.length ∧ gi.length ≤ 12 ∧ RIt υ bs roll gi) := by
  obtain ⟨s2, hs2⟩ : ∃ s2, s2 = uA (uI (uI (uI (uI (uR σ 3 55) 35 (nI 0)) 36 (nI bs.length)) 37 (nI 0)) 38 mI) 60 (upd (zA σ 60) roll (nI 0)) := ⟨_, rfl⟩
  have hF2 : FR [60] [] [35, 36, 37, 38] [] (uR σ 3 55) s2 := by
    rw [hs2]
    exact FR.uA (FR.uI (FR.uI (FR.uI (FR.uI (FR.rf _ _ _ _ _) (by decide)) (by decide)) (by decide)) (by decide)) (by decide)
  have hM2 : MX s2 55 0 bs 0 := by
    rw [hs2]
    refine ⟨?_, .inl ⟨rfl, by omega⟩, ?_, ?_, ?_, ?_, fun j hj => ?_, Nat.zero_le _, hl, hb⟩
    · simp (disch := omega) only [l0, l1, l2, l3, l4, l5, l6, l7, l8, l9, l10, l11, l12, l16, l18, l19, l20, l21, l24, l96, l128, l100, l144, l200, l256, l288, l1536, l1728, l1800, bnd, nI_add, pk_mul, pI_sub, pI_m1, pT_le, pF_le, pT_lt, pF_lt, pT_eq, pF_eq, pF_m1, mF_eq, mT_eq, mT_lt, mF_le, lm1, rd_nI, wr_nI, cl_nI, pk_us, un_ne, pk_uLs, uL_ne, zI_uI, zI_uJ, zI_uA, zI_uB, zI_uR, zI_uN, zJ_uI, zJ_uJ, zJ_uA, zJ_uB, zJ_uR, zJ_uN, zA_uI, zA_uJ, zA_uA, zA_uB, zA_uR, zA_uN, zB_uI, zB_uJ, zB_uA, zB_uB, zB_uR, zB_uN, zR_uI, zR_uJ, zR_uA, zR_uB, zR_uR, zR_uN, zN_uI, zN_uJ, zN_uA, zN_uB, zN_uR, zN_uN, zI_ne, zJ_ne, zA_ne, zB_ne, zR_ne, zN_ne, bi_T, bi_F, nz16, ↓reduceIte, not_true_eq_false, not_false_eq_true, Bool.false_eq_true, reduceCtorEq]
    · simp (disch := omega) only [l0, l1, l2, l3, l4, l5, l6, l7, l8, l9, l10, l11, l12, l16, l18, l19, l20, l21, l24, l96, l128, l100, l144, l200, l256, l288, l1536, l1728, l1800, bnd, nI_add, pk_mul, pI_sub, pI_m1, pT_le, pF_le, pT_lt, pF_lt, pT_eq, pF_eq, pF_m1, mF_eq, mT_eq, mT_lt, mF_le, lm1, rd_nI, wr_nI, cl_nI, pk_us, un_ne, pk_uLs, uL_ne, zI_uI, zI_uJ, zI_uA, zI_uB, zI_uR, zI_uN, zJ_uI, zJ_uJ, zJ_uA, zJ_uB, zJ_uR, zJ_uN, zA_uI, zA_uJ, zA_uA, zA_uB, zA_uR, zA_uN, zB_uI, zB_uJ, zB_uA, zB_uB, zB_uR, zB_uN, zR_uI, zR_uJ, zR_uA, zR_uB, zR_uR, zR_uN, zN_uI, zN_uJ, zN_uA, zN_uB, zN_uR, zN_uN, zI_ne, zJ_ne, zA_ne, zB_ne, zR_ne, zN_ne, bi_T, bi_F, nz16, ↓reduceIte, not_true_eq_false, not_false_eq_true, Bool.false_eq_true, reduceCtorEq]
    · simp (disch := omega) only [l0, l1, l2, l3, l4, l5, l6, l7, l8, l9, l10, l11, l12, l16, l18, l19, l20, l21, l24, l96, l128, l100, l144, l200, l256, l288, l1536, l1728, l1800, bnd, nI_add, pk_mul, pI_sub, pI_m1, pT_le, pF_le, pT_lt, pF_lt, pT_eq, pF_eq, pF_m1, mF_eq, mT_eq, mT_lt, mF_le, lm1, rd_nI, wr_nI, cl_nI, pk_us, un_ne, pk_uLs, uL_ne, zI_uI, zI_uJ, zI_uA, zI_uB, zI_uR, zI_uN, zJ_uI, zJ_uJ, zJ_uA, zJ_uB, zJ_uR, zJ_uN, zA_uI, zA_uJ, zA_uA, zA_uB, zA_uR, zA_uN, zB_uI, zB_uJ, zB_uA, zB_uB, zB_uR, zB_uN, zR_uI, zR_uJ, zR_uA, zR_uB, zR_uR, zR_uN, zN_uI, zN_uJ, zN_uA, zN_uB, zN_uR, zN_uN, zI_ne, zJ_ne, zA_ne, zB_ne, zR_ne, zN_ne, bi_T, bi_F, nz16, ↓reduceIte, not_true_eq_false, not_false_eq_true, Bool.false_eq_true, reduceCtorEq]
    · simp (disch := omega) only [l0, l1, l2, l3, l4, l5, l6, l7, l8, l9, l10, l11, l12, l16, l18, l19, l20, l21, l24, l96, l128, l100, l144, l200, l256, l288, l1536, l1728, l1800, bnd, nI_add, pk_mul, pI_sub, pI_m1, pT_le, pF_le, pT_lt, pF_lt, pT_eq, pF_eq, pF_m1, mF_eq, mT_eq, mT_lt, mF_le, lm1, rd_nI, wr_nI, cl_nI, pk_us, un_ne, pk_uLs, uL_ne, zI_uI, zI_uJ, zI_uA, zI_uB, zI_uR, zI_uN, zJ_uI, zJ_uJ, zJ_uA, zJ_uB, zJ_uR, zJ_uN, zA_uI, zA_uJ, zA_uA, zA_uB, zA_uR, zA_uN, zB_uI, zB_uJ, zB_uA, zB_uB, zB_uR, zB_uN, zR_uI, zR_uJ, zR_uA, zR_uB, zR_uR, zR_uN, zN_uI, zN_uJ, zN_uA, zN_uB, zN_uR, zN_uN, zI_ne, zJ_ne, zA_ne, zB_ne, zR_ne, zN_ne, bi_T, bi_F, nz16, ↓reduceIte, not_true_eq_false, not_false_eq_true, Bool.false_eq_true, reduceCtorEq]
    · simp (disch := omega) only [l0, l1, l2, l3, l4, l5, l6, l7, l8, l9, l10, l11, l12, l16, l18, l19, l20, l21, l24, l96, l128, l100, l144, l200, l256, l288, l1536, l1728, l1800, bnd, nI_add, pk_mul, pI_sub, pI_m1, pT_le, pF_le, pT_lt, pF_lt, pT_eq, pF_eq, pF_m1, mF_eq, mT_eq, mT_lt, mF_le, lm1, rd_nI, wr_nI, cl_nI, pk_us, un_ne, pk_uLs, uL_ne, zI_uI, zI_uJ, zI_uA, zI_uB, zI_uR, zI_uN, zJ_uI, zJ_uJ, zJ_uA, zJ_uB, zJ_uR, zJ_uN, zA_uI, zA_uJ, zA_uA, zA_uB, zA_uR, zA_uN, zB_uI, zB_uJ, zB_uA, zB_uB, zB_uR, zB_uN, zR_uI, zR_uJ, zR_uA, zR_uB, zR_uR, zR_uN, zN_uI, zN_uJ, zN_uA, zN_uB, zN_uR, zN_uN, zI_ne, zJ_ne, zA_ne, zB_ne, zR_ne, zN_ne, bi_T, bi_F, nz16, ↓reduceIte, not_true_eq_false, not_false_eq_true, Bool.false_eq_true, reduceCtorEq]
    · rw [zA_ne (by decide)]
      rw [Nat.zero_add]
      exact h55 j hj
  have ho2 : onR σ s2 roll := by
    rw [hs2]
    exact ⟨fun j hj => by rw [zA_uA, un_ne hj], fun j _ => by rw [zA_ne (by decide)]; rfl, fun j _ => by rw [zA_ne (by decide)]; rfl, fun j _ => by rw [zA_ne (by decide)]; rfl, fun j _ => by rw [zA_ne (by decide)]; rfl, fun j _ => by rw [zA_ne (by decide)]; rfl, fun j _ => by rw [zA_ne (by decide)]; rfl⟩
  have h60 : zA s2 60 roll = nI 0 := by rw [hs2, zA_uA, pk_us]
  have hbeg : ∃ s0, fX12_begin_55 σ (nI 0) (zI σ 31) = some s0 ∧ s2 = uA s0 60 (upd (zA s0 60) roll (nI 0)) := ⟨uI (uI (uI (uI (uR σ 3 55) 35 (nI 0)) 36 (nI bs.length)) 37 (nI 0)) 38 mI, by unfold fX12_begin_55; rw [h31]; rfl, by rw [hs2]; rfl⟩
  obtain ⟨s0, hbeg, hs0⟩ := hbeg
  -- the end of a reading
  have key := it_for (β := St × Bool × Nat × List It) (body := fun (kb : (St × Int32) → Option St) (t : St × Int32) => fX12_readRoll_L22 (nI roll) (fun s17 => (fX12_fails s17).bind fun r18 => some r18.2) (fun s19 => (fX12_look s19).bind fun r20 => if r20.1 = (-1 : Int32) then (some r20.2)
  else ((fX12_fails r20.2).bind fun r21 => some r21.2)) (fun σ v2 => kb (σ, v2)) t.1 t.2) 12 (by omega) (fun i b => (b.1, (if b.2.1 = true then nI 1 else nI 0))) (fun i b => b.2.2.2.length = i ∧ FR [60, 61, 62, 63, 64, 65, 66] [] [35, 36, 37, 38] [] (uR σ 3 55) b.1 ∧ onR σ b.1 roll ∧ MX b.1 55 0 bs b.2.2.1 ∧ zA b.1 60 roll = nI i ∧ RIt b.1 bs roll b.2.2.2 ∧ (∀ e, e ∈ b.2.2.2 → okIt e) ∧ (b.2.1 = true → i < 12 ∧ pRoll bs = (b.2.2.2.map encI ++ (pItems (12 - i) (.inr (tkR Jr 8 gr bs b.2.2.1))).1, (pItems (12 - i) (.inr (tkR Jr 8 gr bs b.2.2.1))).2)) ∧ (b.2.1 = false → 1 ≤ i ∧ pRoll bs = (b.2.2.2.map encI, .inr (tkR Jr 8 gr bs b.2.2.1)))) (fun i b z => ∃ υ, FR [60, 61, 62, 63, 64, 65, 66] [] [35, 36, 37, 38] [] (uR σ 3 55) υ ∧ onR σ υ roll ∧ z = some υ ∧ zI υ 38 = fx (pRoll bs).2 ∧ (fx (pRoll bs).2 = mI → ∃ gi : List It, (pRoll bs).1 = gi.map encI ∧ (∀ e, e ∈ gi → okIt e) ∧ zA υ 60 roll = nI gi.length ∧ 1 ≤ gi.length ∧ gi.length ≤ 12 ∧ RIt υ bs roll gi)) ?_ 0 (s2, true, 0, []) (Nat.zero_le _) ⟨rfl, hF2.mono (by decide) (by decide) (by decide) (by decide), ho2, hM2, h60, (fun k hk => absurd hk (Nat.not_lt_zero _)), (fun e he => nomatch he), fun _ => ⟨by decide, rfl⟩, fun e => by cases e⟩
  · obtain ⟨υ, h1, h2, h3, h4, h5⟩ := key
    refine ⟨υ, h1, h2, ?_, h4, h5⟩
    rw [← h3, hs0]
    unfold fX12_readRoll
    simp (disch := omega) only [l0, l1, l2, l3, l4, l5, l6, l7, l8, l9, l10, l11, l12, l16, l18, l19, l20, l21, l24, l96, l128, l100, l144, l200, l256, l288, l1536, l1728, l1800, bnd, nI_add, pk_mul, pI_sub, pI_m1, pT_le, pF_le, pT_lt, pF_lt, pT_eq, pF_eq, pF_m1, mF_eq, mT_eq, mT_lt, mF_le, lm1, rd_nI, wr_nI, cl_nI, pk_us, un_ne, pk_uLs, uL_ne, zI_uI, zI_uJ, zI_uA, zI_uB, zI_uR, zI_uN, zJ_uI, zJ_uJ, zJ_uA, zJ_uB, zJ_uR, zJ_uN, zA_uI, zA_uJ, zA_uA, zA_uB, zA_uR, zA_uN, zB_uI, zB_uJ, zB_uA, zB_uB, zB_uR, zB_uN, zR_uI, zR_uJ, zR_uA, zR_uB, zR_uR, zR_uN, zN_uI, zN_uJ, zN_uA, zN_uB, zN_uR, zN_uN, zI_ne, zJ_ne, zA_ne, zB_ne, zR_ne, zN_ne, bi_T, bi_F, nz16, ↓reduceIte, not_true_eq_false, not_false_eq_true, Bool.false_eq_true, reduceCtorEq, hbeg]
    rfl
  · rintro i ⟨y, more, p, gi⟩ hi ⟨jl, jF, jo, jM, j60, jR, jk, jt, jf⟩ kb hkb
    have hgl : gi.length = i := jl
    have hF : FR [60, 61, 62, 63, 64, 65, 66] [] [35, 36, 37, 38] [] (uR σ 3 55) y := jF
    have ho : onR σ y roll := jo
    have hM : MX y 55 0 bs p := jM
    have h60 : zA y 60 roll = nI i := j60
    have hR : RIt y bs roll gi := jR
    have hok : ∀ e, e ∈ gi → okIt e := jk
    have ht : more = true → i < 12 ∧ pRoll bs = (gi.map encI ++ (pItems (12 - i) (.inr (tkR Jr 8 gr bs p))).1, (pItems (12 - i) (.inr (tkR Jr 8 gr bs p))).2) := jt
    have hf : more = false → 1 ≤ i ∧ pRoll bs = (gi.map encI, .inr (tkR Jr 8 gr bs p)) := jf
    clear jl jF jo jM j60 jR jk jt jf
    show ∃ υ, _ ∧ _ ∧ fX12_readRoll_L22 (nI roll) _ _ (fun σ v2 => kb (σ, v2)) y (if more = true then nI 1 else nI 0) = some υ ∧ _
    cases hm : more with
    | false =>
      obtain ⟨hi1, hp⟩ := hf hm
      obtain ⟨p', y2, h1, h2, h3, h4, h5, h6, h7⟩ := m_look hM
      have et : tkR Jr 8 gr bs p = tkR Jr 8 gr bs p' := h6 Jr 8 gr (by decide)
      have htk := tk_head (J := Jr) (M := 8) (gr := gr) h2 h5
      rw [if_neg (by decide)]
      unfold fX12_readRoll_L22
      have hR2 : RIt y2 bs roll gi := fun k hk => ⟨(hR k hk).1.fr h3 (by decide) (by decide) (by decide), (hR k hk).2.fr h3 (by decide) (by decide) (by decide)⟩
      have h602 : zA y2 60 roll = nI i := by rw [h3.1 60 (by decide)]; exact h60
      have hfx : fx (pRoll bs).2 = if (hd (tkR Jr 8 gr bs p')).1 = 256 then mI else nI p' := by
        rw [hp, et]
        show (if _ then _ else _) = _
        rw [htk.1]
      by_cases he : p' = bs.length
      · have e1 : lk bs p' = mI := if_neg (by omega)
        have e2 : (hd (tkR Jr 8 gr bs p')).1 = 256 := by rw [tkR_end (by omega)]; rfl
        rw [if_pos e2] at hfx
        refine ⟨y2, hF.tr (h3.mono (by decide) (by decide) (by decide) (by decide)), ho.tr (onR.fr h3 (by decide)), ?_, ?_, fun _ => ⟨gi, by rw [hp], hok, by rw [h602, hgl], by omega, by omega, hR2⟩⟩
        · simp (disch := omega) only [l0, l1, l2, l3, l4, l5, l6, l7, l8, l9, l10, l11, l12, l16, l18, l19, l20, l21, l24, l96, l128, l100, l144, l200, l256, l288, l1536, l1728, l1800, bnd, nI_add, pk_mul, pI_sub, pI_m1, pT_le, pF_le, pT_lt, pF_lt, pT_eq, pF_eq, pF_m1, mF_eq, mT_eq, mT_lt, mF_le, lm1, rd_nI, wr_nI, cl_nI, pk_us, un_ne, pk_uLs, uL_ne, zI_uI, zI_uJ, zI_uA, zI_uB, zI_uR, zI_uN, zJ_uI, zJ_uJ, zJ_uA, zJ_uB, zJ_uR, zJ_uN, zA_uI, zA_uJ, zA_uA, zA_uB, zA_uR, zA_uN, zB_uI, zB_uJ, zB_uA, zB_uB, zB_uR, zB_uN, zR_uI, zR_uJ, zR_uA, zR_uB, zR_uR, zR_uN, zN_uI, zN_uJ, zN_uA, zN_uB, zN_uR, zN_uN, zI_ne, zJ_ne, zA_ne, zB_ne, zR_ne, zN_ne, bi_T, bi_F, nz16, ↓reduceIte, not_true_eq_false, not_false_eq_true, Bool.false_eq_true, reduceCtorEq, h7, e1, mI_eq]
        · rw [hfx]
          exact h4.2.2.2.2.2.1
      · have hlt : p' < bs.length := by omega
        have hbb := hb _ (getD_mem (d := 0) hlt)
        have e1 : lk bs p' = nI (bs.getD p' 0) := if_pos hlt
        have e2 : (hd (tkR Jr 8 gr bs p')).1 ≠ 256 := by
          rcases htk.2 with ⟨h8, h9⟩ | ⟨h8, h9, h10⟩ | ⟨h8, h9, h10⟩
          · omega
          · omega
          · rw [h10]; show bs.getD p' 0 ≠ 256; omega
        rw [if_neg e2] at hfx
        have hfl := m_fails h4
        refine ⟨uI y2 38 (nI p'), FR.uI (hF.tr (h3.mono (by decide) (by decide) (by decide) (by decide))) (by decide), ho.tr ((onR.fr h3 (by decide)).tr (onR.fr (FR.uI (FR.rf [] [] [38] [] _) (by decide)) (by decide))), ?_, ?_, fun e => ?_⟩
        · simp (disch := omega) only [l0, l1, l2, l3, l4, l5, l6, l7, l8, l9, l10, l11, l12, l16, l18, l19, l20, l21, l24, l96, l128, l100, l144, l200, l256, l288, l1536, l1728, l1800, bnd, nI_add, pk_mul, pI_sub, pI_m1, pT_le, pF_le, pT_lt, pF_lt, pT_eq, pF_eq, pF_m1, mF_eq, mT_eq, mT_lt, mF_le, lm1, rd_nI, wr_nI, cl_nI, pk_us, un_ne, pk_uLs, uL_ne, zI_uI, zI_uJ, zI_uA, zI_uB, zI_uR, zI_uN, zJ_uI, zJ_uJ, zJ_uA, zJ_uB, zJ_uR, zJ_uN, zA_uI, zA_uJ, zA_uA, zA_uB, zA_uR, zA_uN, zB_uI, zB_uJ, zB_uA, zB_uB, zB_uR, zB_uN, zR_uI, zR_uJ, zR_uA, zR_uB, zR_uR, zR_uN, zN_uI, zN_uJ, zN_uA, zN_uB, zN_uR, zN_uN, zI_ne, zJ_ne, zA_ne, zB_ne, zR_ne, zN_ne, bi_T, bi_F, nz16, ↓reduceIte, not_true_eq_false, not_false_eq_true, Bool.false_eq_true, reduceCtorEq, h7, e1, mI_eq, hfl]
        · rw [hfx, zI_uI]
        · rw [hfx] at e
          rw [pF_m1 (by omega)] at e
          exact e.elim
    | true =>
      obtain ⟨hi2, hp⟩ := ht hm
      rw [show 12 - i = (12 - (i + 1)) + 1 by omega] at hp
      have hs16 : 16 * roll + i < 144 := by omega
      obtain ⟨y1, a1, a2, a3, a4, a5, a6⟩ := m_readCue hM hs16
      have a1o : onR y y1 roll := ⟨fun j _ => by rw [a1.1 60 (by decide)], fun j hj => a2 j (fun e => hj (by omega)), fun j _ => by rw [a1.1 62 (by decide)], fun j hj => a3 j (fun e => hj (by omega)), fun j hj => a4 j (fun e => hj (by omega)), fun j _ => by rw [a1.1 65 (by decide)], fun j _ => by rw [a1.1 66 (by decide)]⟩
      have hF1 := hF.tr (a1.mono (A' := [60, 61, 62, 63, 64, 65, 66]) (B' := []) (K' := [35, 36, 37, 38]) (N' := []) (by decide) (by decide) (by decide) (by decide))
      have ho1 := ho.tr a1o
      -- a fault ahead of the speech
      have bad : ∀ (w : St) (f : Nat), FR [] [] [37, 38] [] y1 w → zI w 38 = nI f → f < 1000 → nd 62 (pIc (.inr (tkR Jr 8 gr bs p))).2 = .inl f → ∃ υ, FR [60, 61, 62, 63, 64, 65, 66] [] [35, 36, 37, 38] [] (uR σ 3 55) υ ∧ onR σ υ roll ∧ some w = some υ ∧ zI υ 38 = fx (pRoll bs).2 ∧ (fx (pRoll bs).2 = mI → ∃ gi : List It, (pRoll bs).1 = gi.map encI ∧ (∀ e, e ∈ gi → okIt e) ∧ zA υ 60 roll = nI gi.length ∧ 1 ≤ gi.length ∧ gi.length ≤ 12 ∧ RIt υ bs roll gi) := by
        intro w f h1 h2 h3 h4
        have e := pItems_bad (n := 12 - (i + 1)) h4
        have e2 : fx (pRoll bs).2 = nI f := by rw [hp, e]; rfl
        refine ⟨w, hF1.tr (h1.mono (by decide) (by decide) (by decide) (by decide)), ho1.tr (onR.fr h1 (by decide)), rfl, by rw [e2, h2], fun x => ?_⟩
        rw [e2, pF_m1 (by omega)] at x
        exact x.elim
      rw [if_pos rfl]
      unfold fX12_readRoll_L22
      rcases a6 with ⟨p1, cs, b1, b2, b3, b4, b5⟩ | ⟨f, b1, b2, b3⟩
      · rcases m_takes (J := Jr) (M := 8) (gr := gr) (v := 62) b1 (by decide) (by decide) (by decide) with ⟨c1, p2, y2, c2, c3, c4, c5, c6⟩ | ⟨c1, y2, c2, c3, c4, c5⟩
        · have e62 : nd 62 (pIc (.inr (tkR Jr 8 gr bs p))).2 = .inr (tkR Jr 8 gr bs p2) := by
            rw [b5]
            show (if (hd (tkR Jr 8 gr bs p1)).1 = 62 then _ else _) = _
            rw [if_pos c1, c4]
          obtain ⟨y3, d1, d2, d3, d4, d5, d6⟩ := m_readSpeech c3 hs16
          have d1o : onR y2 y3 roll := ⟨fun j _ => by rw [d1.1 60 (by decide)], fun j _ => by rw [d1.1 61 (by decide)], fun j hj => d2 j (fun e => hj (by omega)), fun j _ => by rw [d1.1 63 (by decide)], fun j _ => by rw [d1.1 64 (by decide)], fun j hj => d3 j (fun e => hj (by omega)), fun j hj => d4 j (fun e => hj (by omega))⟩
          have hF3 := (hF1.tr (c2.mono (A' := [60, 61, 62, 63, 64, 65, 66]) (B' := []) (K' := [35, 36, 37, 38]) (N' := []) (by decide) (by decide) (by decide) (by decide))).tr (d1.mono (A' := [60, 61, 62, 63, 64, 65, 66]) (B' := []) (K' := [35, 36, 37, 38]) (N' := []) (by decide) (by decide) (by decide) (by decide))
          have ho3 := (ho1.tr (onR.fr c2 (by decide))).tr d1o
          have ew : pIw (.inr (tkR Jr 8 gr bs p)) = wd 12 (.inr (tkR Jr 8 gr bs p2)) := by unfold pIw; rw [e62]
          rcases d6 with ⟨p3, ws, f1, f2, f3, f4, f5, f6⟩ | ⟨f, f1, f2, f3, f4⟩
          · rw [f6] at ew
            have h603 : zA y3 60 roll = nI i := by rw [d1.1 60 (by decide), c2.1 60 (by decide), a1.1 60 (by decide)]; exact h60
            obtain ⟨y4, hy4⟩ : ∃ y4, y4 = uA y3 60 (upd (zA y3 60) roll (nI (i + 1))) := ⟨_, rfl⟩
            have hF4 : FR [60] [] [] [] y3 y4 := by rw [hy4]; exact FR.uA (FR.rf _ _ _ _ _) (by decide)
            have hM4 : MX y4 55 0 bs p3 := f1.fr hF4 (by decide) (by decide)
            obtain ⟨p4, y5, g1, g2, g3, g4, g5, g6, g7⟩ := m_look hM4
            have et : tkR Jr 8 gr bs p3 = tkR Jr 8 gr bs p4 := g6 Jr 8 gr (by decide)
            have htk := tk_head (J := Jr) (M := 8) (gr := gr) g2 g5
            have hlk := lk_tok (J := Jr) (M := 8) (gr := gr) hb g2 g5 (v := 59) (by decide) (by decide)
            have h38 := f1.2.2.2.2.2.1
            have h60r : zA y 60 = zA y1 60 := (a1.1 60 (by decide)).symm
            have h605 : zA y5 60 roll = nI (i + 1) := by rw [g3.1 60 (by decide), hy4, zA_uA, pk_us]
            have hF5 : FR [60, 61, 62, 63, 64, 65, 66] [] [35, 36, 37, 38] [] (uR σ 3 55) y5 := (hF3.tr (hF4.mono (by decide) (by decide) (by decide) (by decide))).tr (g3.mono (by decide) (by decide) (by decide) (by decide))
            have ho5 : onR σ y5 roll := (ho3.tr ⟨fun j hj => by rw [hy4, zA_uA, un_ne hj], fun j _ => by rw [hF4.1 61 (by decide)], fun j _ => by rw [hF4.1 62 (by decide)], fun j _ => by rw [hF4.1 63 (by decide)], fun j _ => by rw [hF4.1 64 (by decide)], fun j _ => by rw [hF4.1 65 (by decide)], fun j _ => by rw [hF4.1 66 (by decide)]⟩).tr (onR.fr g3 (by decide))
            have hcueN : RC y5 bs (16 * roll + i) cs 61 63 64 2 := (((b2.fr c2 (by decide) (by decide) (by decide)).fr d1 (by decide) (by decide) (by decide)).fr hF4 (by decide) (by decide) (by decide)).fr g3 (by decide) (by decide) (by decide)
            have hspN : RC y5 bs (16 * roll + i) ws 62 65 66 12 := (f2.fr hF4 (by decide) (by decide) (by decide)).fr g3 (by decide) (by decide) (by decide)
            have hR5 : RIt y5 bs roll (gi ++ [(cs, ws)]) := by
              intro k hk
              rw [List.length_append, List.length_singleton, hgl] at hk
              by_cases e : k = i
              · rw [e, ← hgl, getD_snoc_eq', hgl]
                exact ⟨hcueN, hspN⟩
              · rw [getD_snoc_lt' (by omega)]
                obtain ⟨hc, hw⟩ := hR k (by omega)
                have q61 : ∀ j, j / 16 = roll → j ≠ 16 * roll + i → zA y5 61 j = zA y 61 j := fun j _ hj => by rw [g3.1 61 (by decide), hF4.1 61 (by decide), d1.1 61 (by decide), c2.1 61 (by decide)]; exact a2 j hj
                have q63 : ∀ j, j / 2 ≠ 16 * roll + i → zA y5 63 j = zA y 63 j ∧ zA y5 64 j = zA y 64 j := fun j hj => ⟨by rw [g3.1 63 (by decide), hF4.1 63 (by decide), d1.1 63 (by decide), c2.1 63 (by decide)]; exact a3 j hj, by rw [g3.1 64 (by decide), hF4.1 64 (by decide), d1.1 64 (by decide), c2.1 64 (by decide)]; exact a4 j hj⟩
                have q62 : ∀ j, j ≠ 16 * roll + i → zA y5 62 j = zA y 62 j := fun j hj => by rw [g3.1 62 (by decide), hF4.1 62 (by decide), d2 j hj, c2.1 62 (by decide), a1.1 62 (by decide)]
                have q65 : ∀ j, j / 12 ≠ 16 * roll + i → zA y5 65 j = zA y 65 j ∧ zA y5 66 j = zA y 66 j := fun j hj => ⟨by rw [g3.1 65 (by decide), hF4.1 65 (by decide), d3 j hj, c2.1 65 (by decide), a1.1 65 (by decide)], by rw [g3.1 66 (by decide), hF4.1 66 (by decide), d4 j hj, c2.1 66 (by decide), a1.1 66 (by decide)]⟩
                have hokk := hok _ (getD_mem (d := ([], [])) (show k < gi.length by omega))
                refine ⟨⟨by rw [q61 _ (by omega) (by omega)]; exact hc.1, fun j hj => ?_⟩, ⟨by rw [q62 _ (by omega)]; exact hw.1, fun j hj => ?_⟩⟩
                · have hj2 : j < 2 := Nat.lt_of_lt_of_le hj hokk.1
                  obtain ⟨e1, e2⟩ := q63 (2 * (16 * roll + k) + j) (by omega)
                  rw [e1, e2]
                  exact hc.2 j hj
                · have hj2 : j < 12 := Nat.lt_of_lt_of_le hj hokk.2.2.1
                  obtain ⟨e1, e2⟩ := q65 (12 * (16 * roll + k) + j) (by omega)
                  rw [e1, e2]
                  exact hw.2 j hj
            have hok5 : ∀ e, e ∈ gi ++ [(cs, ws)] → okIt e := by
              intro e he
              rw [List.mem_append, List.mem_singleton] at he
              rcases he with he | he
              · exact hok e he
              · rw [he]
                refine ⟨b4, ?_, f5, b3, f3⟩
                rcases Nat.eq_zero_or_pos ws.length with h0 | h0
                · exact absurd (List.eq_nil_of_length_eq_zero h0) f4
                · exact h0
            have ec : (pIc (.inr (tkR Jr 8 gr bs p))).1 = cs.map enc := by rw [b5]
            have em : (gi ++ [(cs, ws)]).map encI = gi.map encI ++ [(cs.map enc, ws.map enc)] := by rw [List.map_append]; rfl
            rw [hy4] at g7
            by_cases h59 : (hd (tkR Jr 8 gr bs p4)).1 = 59
            · have e59 := hlk.mpr h59
              have t59 : tb 59 (.inr (tkR Jr 8 gr bs p3)) = true := decide_eq_true (by rw [et]; exact h59)
              have etl : (tkR Jr 8 gr bs p4).tail = tkR Jr 8 gr bs (p4 + 1) ∧ p4 + 1 ≤ bs.length := by
                rcases htk.2 with ⟨h8, h9⟩ | ⟨h8, h9, h10⟩ | ⟨h8, h9, h10⟩
                · omega
                · omega
                · rw [h10]; exact ⟨rfl, h8⟩
              by_cases hi12 : i + 1 = 12
              · have ep : pItems (12 - (i + 1) + 1) (.inr (tkR Jr 8 gr bs p)) = ([((pIc (.inr (tkR Jr 8 gr bs p))).1, (pIw (.inr (tkR Jr 8 gr bs p))).1)], (pIw (.inr (tkR Jr 8 gr bs p))).2) := if_neg (fun h => by omega)
                have hfx : fx (pRoll bs).2 = nI p4 := by
                  rw [hp, ep, ew, et]
                  show (if (hd (tkR Jr 8 gr bs p4)).1 = 256 then _ else _) = _
                  rw [if_neg (by omega), htk.1]
                have hfl := m_fails g4
                refine ⟨uI y5 38 (nI p4), FR.uI hF5 (by decide), ho5.tr (onR.fr (FR.uI (FR.rf [] [] [38] [] _) (by decide)) (by decide)), ?_, by rw [hfx, zI_uI], fun e => ?_⟩
                · rw [hi12] at g7 h605
                  simp (disch := omega) only [l0, l1, l2, l3, l4, l5, l6, l7, l8, l9, l10, l11, l12, l16, l18, l19, l20, l21, l24, l96, l128, l100, l144, l200, l256, l288, l1536, l1728, l1800, bnd, nI_add, pk_mul, pI_sub, pI_m1, pT_le, pF_le, pT_lt, pF_lt, pT_eq, pF_eq, pF_m1, mF_eq, mT_eq, mT_lt, mF_le, lm1, rd_nI, wr_nI, cl_nI, pk_us, un_ne, pk_uLs, uL_ne, zI_uI, zI_uJ, zI_uA, zI_uB, zI_uR, zI_uN, zJ_uI, zJ_uJ, zJ_uA, zJ_uB, zJ_uR, zJ_uN, zA_uI, zA_uJ, zA_uA, zA_uB, zA_uR, zA_uN, zB_uI, zB_uJ, zB_uA, zB_uB, zB_uR, zB_uN, zR_uI, zR_uJ, zR_uA, zR_uB, zR_uR, zR_uN, zN_uI, zN_uJ, zN_uA, zN_uB, zN_uR, zN_uN, zI_ne, zJ_ne, zA_ne, zB_ne, zR_ne, zN_ne, bi_T, bi_F, nz16, ↓reduceIte, not_true_eq_false, not_false_eq_true, Bool.false_eq_true, reduceCtorEq, h60, a5, l62, c6, d5, h38, mI_eq, h603, g7, l59, e59, h605, hi12, hfl]
                · rw [hfx, pF_m1 (by omega)] at e
                  exact e.elim
              · have ep : pItems (12 - (i + 1) + 1) (.inr (tkR Jr 8 gr bs p)) = (((pIc (.inr (tkR Jr 8 gr bs p))).1, (pIw (.inr (tkR Jr 8 gr bs p))).1) :: (pItems (12 - (i + 1)) (tlx (pIw (.inr (tkR Jr 8 gr bs p))).2)).1, (pItems (12 - (i + 1)) (tlx (pIw (.inr (tkR Jr 8 gr bs p))).2)).2) := if_pos ⟨by omega, by rw [ew]; exact t59⟩
                have etl2 : tlx (pIw (.inr (tkR Jr 8 gr bs p))).2 = .inr (tkR Jr 8 gr bs (p4 + 1)) := by
                  rw [ew, et]
                  show Sum.inr (tkR Jr 8 gr bs p4).tail = _
                  rw [etl.1]
                rw [ep, etl2, ec, ew] at hp
                have hM6 := g4.at etl.2
                have hF6 : FR [] [] [37] [] y5 (uI y5 37 (nI (p4 + 1))) := FR.uI (FR.rf _ _ _ _ _) (by decide)
                obtain ⟨υ, h1, h2, h3, h4, h5⟩ := hkb (uI y5 37 (nI (p4 + 1)), true, p4 + 1, gi ++ [(cs, ws)]) hi2 ⟨by show (gi ++ [_]).length = i + 1; rw [List.length_append, List.length_singleton, hgl], hF5.tr (hF6.mono (by decide) (by decide) (by decide) (by decide)), ho5.tr (onR.fr hF6 (by decide)), hM6, h605, (fun k hk => ⟨(hR5 k hk).1.fr hF6 (by decide) (by decide) (by decide), (hR5 k hk).2.fr hF6 (by decide) (by decide) (by decide)⟩), hok5, fun _ => ⟨by omega, by
                  rw [hp, em, List.append_assoc]
                  rfl⟩, fun e => by cases e⟩
                refine ⟨υ, h1, h2, ?_, h4, h5⟩
                rw [← h3]
                have h375 := g4.2.2.2.2.1
                simp (disch := omega) only [l0, l1, l2, l3, l4, l5, l6, l7, l8, l9, l10, l11, l12, l16, l18, l19, l20, l21, l24, l96, l128, l100, l144, l200, l256, l288, l1536, l1728, l1800, bnd, nI_add, pk_mul, pI_sub, pI_m1, pT_le, pF_le, pT_lt, pF_lt, pT_eq, pF_eq, pF_m1, mF_eq, mT_eq, mT_lt, mF_le, lm1, rd_nI, wr_nI, cl_nI, pk_us, un_ne, pk_uLs, uL_ne, zI_uI, zI_uJ, zI_uA, zI_uB, zI_uR, zI_uN, zJ_uI, zJ_uJ, zJ_uA, zJ_uB, zJ_uR, zJ_uN, zA_uI, zA_uJ, zA_uA, zA_uB, zA_uR, zA_uN, zB_uI, zB_uJ, zB_uA, zB_uB, zB_uR, zB_uN, zR_uI, zR_uJ, zR_uA, zR_uB, zR_uR, zR_uN, zN_uI, zN_uJ, zN_uA, zN_uB, zN_uR, zN_uN, zI_ne, zJ_ne, zA_ne, zB_ne, zR_ne, zN_ne, bi_T, bi_F, nz16, ↓reduceIte, not_true_eq_false, not_false_eq_true, Bool.false_eq_true, reduceCtorEq, h60, a5, l62, c6, d5, h38, mI_eq, h603, g7, l59, e59, h605, h375]
            · have e59 : ¬ lk bs p4 = nI 59 := fun x => h59 (hlk.mp x)
              have t59 : tb 59 (.inr (tkR Jr 8 gr bs p3)) = false := decide_eq_false (by rw [et]; exact h59)
              have ep : pItems (12 - (i + 1) + 1) (.inr (tkR Jr 8 gr bs p)) = ([((pIc (.inr (tkR Jr 8 gr bs p))).1, (pIw (.inr (tkR Jr 8 gr bs p))).1)], (pIw (.inr (tkR Jr 8 gr bs p))).2) := if_neg (fun h => by rw [ew] at h; have := h.2; rw [t59] at this; cases this)
              rw [ep, ec, ew] at hp
              obtain ⟨υ, h1, h2, h3, h4, h5⟩ := hkb (y5, false, p4, gi ++ [(cs, ws)]) hi2 ⟨by show (gi ++ [_]).length = i + 1; rw [List.length_append, List.length_singleton, hgl], hF5, ho5, g4, h605, hR5, hok5, (fun e => by cases e), fun _ => ⟨by omega, by
                rw [hp, em, et]⟩⟩
              refine ⟨υ, h1, h2, ?_, h4, h5⟩
              rw [← h3]
              simp (disch := omega) only [l0, l1, l2, l3, l4, l5, l6, l7, l8, l9, l10, l11, l12, l16, l18, l19, l20, l21, l24, l96, l128, l100, l144, l200, l256, l288, l1536, l1728, l1800, bnd, nI_add, pk_mul, pI_sub, pI_m1, pT_le, pF_le, pT_lt, pF_lt, pT_eq, pF_eq, pF_m1, mF_eq, mT_eq, mT_lt, mF_le, lm1, rd_nI, wr_nI, cl_nI, pk_us, un_ne, pk_uLs, uL_ne, zI_uI, zI_uJ, zI_uA, zI_uB, zI_uR, zI_uN, zJ_uI, zJ_uJ, zJ_uA, zJ_uB, zJ_uR, zJ_uN, zA_uI, zA_uJ, zA_uA, zA_uB, zA_uR, zA_uN, zB_uI, zB_uJ, zB_uA, zB_uB, zB_uR, zB_uN, zR_uI, zR_uJ, zR_uA, zR_uB, zR_uR, zR_uN, zN_uI, zN_uJ, zN_uA, zN_uB, zN_uR, zN_uN, zI_ne, zJ_ne, zA_ne, zB_ne, zR_ne, zN_ne, bi_T, bi_F, nz16, ↓reduceIte, not_true_eq_false, not_false_eq_true, Bool.false_eq_true, reduceCtorEq, h60, a5, l62, c6, d5, h38, mI_eq, h603, g7, l59, if_neg e59]
          · have ep : (pItems (12 - (i + 1) + 1) (.inr (tkR Jr 8 gr bs p))).2 = (pIw (.inr (tkR Jr 8 gr bs p))).2 := by
              show (if 0 < 12 - (i + 1) ∧ tb 59 (pIw (.inr (tkR Jr 8 gr bs p))).2 = true then _ else _ : List (List Nat × List Nat) × Sx).2 = _
              rw [if_neg (fun h => by rw [ew, f4] at h; cases h.2)]
            have hfx : fx (pRoll bs).2 = nI f := by rw [hp, ep, ew]; exact f3
            refine ⟨y3, hF3, ho3, ?_, by rw [hfx, f1], fun e => ?_⟩
            · simp (disch := omega) only [l0, l1, l2, l3, l4, l5, l6, l7, l8, l9, l10, l11, l12, l16, l18, l19, l20, l21, l24, l96, l128, l100, l144, l200, l256, l288, l1536, l1728, l1800, bnd, nI_add, pk_mul, pI_sub, pI_m1, pT_le, pF_le, pT_lt, pF_lt, pT_eq, pF_eq, pF_m1, mF_eq, mT_eq, mT_lt, mF_le, lm1, rd_nI, wr_nI, cl_nI, pk_us, un_ne, pk_uLs, uL_ne, zI_uI, zI_uJ, zI_uA, zI_uB, zI_uR, zI_uN, zJ_uI, zJ_uJ, zJ_uA, zJ_uB, zJ_uR, zJ_uN, zA_uI, zA_uJ, zA_uA, zA_uB, zA_uR, zA_uN, zB_uI, zB_uJ, zB_uA, zB_uB, zB_uR, zB_uN, zR_uI, zR_uJ, zR_uA, zR_uB, zR_uR, zR_uN, zN_uI, zN_uJ, zN_uA, zN_uB, zN_uR, zN_uN, zI_ne, zJ_ne, zA_ne, zB_ne, zR_ne, zN_ne, bi_T, bi_F, nz16, ↓reduceIte, not_true_eq_false, not_false_eq_true, Bool.false_eq_true, reduceCtorEq, h60, a5, l62, c6, d5, f1, mI_eq]
            · rw [hfx, pF_m1 (by omega)] at e
              exact e.elim
        · have e62 : nd 62 (pIc (.inr (tkR Jr 8 gr bs p))).2 = .inl (hd (tkR Jr 8 gr bs p1)).2 := by
            rw [b5]
            show (if (hd (tkR Jr 8 gr bs p1)).1 = 62 then _ else _) = _
            rw [if_neg c1]
          obtain ⟨υ, h1, h2, h3, h4, h5⟩ := bad y2 _ c2 c3 c4 e62
          refine ⟨υ, h1, h2, ?_, h4, h5⟩
          rw [← h3]
          simp (disch := omega) only [l0, l1, l2, l3, l4, l5, l6, l7, l8, l9, l10, l11, l12, l16, l18, l19, l20, l21, l24, l96, l128, l100, l144, l200, l256, l288, l1536, l1728, l1800, bnd, nI_add, pk_mul, pI_sub, pI_m1, pT_le, pF_le, pT_lt, pF_lt, pT_eq, pF_eq, pF_m1, mF_eq, mT_eq, mT_lt, mF_le, lm1, rd_nI, wr_nI, cl_nI, pk_us, un_ne, pk_uLs, uL_ne, zI_uI, zI_uJ, zI_uA, zI_uB, zI_uR, zI_uN, zJ_uI, zJ_uJ, zJ_uA, zJ_uB, zJ_uR, zJ_uN, zA_uI, zA_uJ, zA_uA, zA_uB, zA_uR, zA_uN, zB_uI, zB_uJ, zB_uA, zB_uB, zB_uR, zB_uN, zR_uI, zR_uJ, zR_uA, zR_uB, zR_uR, zR_uN, zN_uI, zN_uJ, zN_uA, zN_uB, zN_uR, zN_uN, zI_ne, zJ_ne, zA_ne, zB_ne, zR_ne, zN_ne, bi_T, bi_F, nz16, ↓reduceIte, not_true_eq_false, not_false_eq_true, Bool.false_eq_true, reduceCtorEq, h60, a5, l62, c5]
      · have hta := m_takesF (x := nI 62) b1 b2
        obtain ⟨υ, h1, h2, h3, h4, h5⟩ := bad y1 f (FR.rf _ _ _ _ _) b1 b2 b3
        refine ⟨υ, h1, h2, ?_, h4, h5⟩
        rw [← h3]
        simp (disch := omega) only [l0, l1, l2, l3, l4, l5, l6, l7, l8, l9, l10, l11, l12, l16, l18, l19, l20, l21, l24, l96, l128, l100, l144, l200, l256, l288, l1536, l1728, l1800, bnd, nI_add, pk_mul, pI_sub, pI_m1, pT_le, pF_le, pT_lt, pF_lt, pT_eq, pF_eq, pF_m1, mF_eq, mT_eq, mT_lt, mF_le, lm1, rd_nI, wr_nI, cl_nI, pk_us, un_ne, pk_uLs, uL_ne, zI_uI, zI_uJ, zI_uA, zI_uB, zI_uR, zI_uN, zJ_uI, zJ_uJ, zJ_uA, zJ_uB, zJ_uR, zJ_uN, zA_uI, zA_uJ, zA_uA, zA_uB, zA_uR, zA_uN, zB_uI, zB_uJ, zB_uA, zB_uB, zB_uR, zB_uN, zR_uI, zR_uJ, zR_uA, zR_uB, zR_uR, zR_uN, zN_uI, zN_uJ, zN_uA, zN_uB, zN_uR, zN_uN, zI_ne, zJ_ne, zA_ne, zB_ne, zR_ne, zN_ne, bi_T, bi_F, nz16, ↓reduceIte, not_true_eq_false, not_false_eq_true, Bool.false_eq_true, reduceCtorEq, h60, a5, l62, hta]
