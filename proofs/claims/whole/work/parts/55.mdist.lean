/-! the model: how far a cue is from a speech -/
def sy (c : Nat) : Nat := if c = 0 then 32 else 96 + c
def holM (f : Nat → Int32) (a : List Nat) : Prop := ∀ j, j < a.length → f j = nI (sy (a.getD j 0))
theorem holM_nil (f : Nat → Int32) : holM f [] := fun _ h => absurd h (Nat.not_lt_zero _)
theorem holM_snoc {f : Nat → Int32} {a : List Nat} {c x : Nat} (h : holM f a) (hx : x = sy c) : holM (upd f a.length (nI x)) (a ++ [c]) := by
  intro j hj
  rw [List.length_append, List.length_singleton] at hj
  by_cases e : j = a.length
  · subst e
    rw [pk_us, getD_snoc_eq, hx]
  · rw [pk_un e, getD_snoc_lt (by omega)]
    exact h j (by omega)
def mo (σ : St) (q k : Nat) (f : Nat → Int32) (n : Nat) : St := uI (uA σ q f) k (nI n)
theorem mo_mo (σ : St) (q k : Nat) (f f' : Nat → Int32) (a b : Int32) : uI (uA (uI (uA σ q f) k a) q f') k b = uI (uA σ q f') k b := by
  unfold uI uA
  simp only [bx_uu]
theorem m_addOne (σ : St) (f : Nat → Int32) (n x : Nat) (hn : n < 20) : fX12_addOne (mo σ 70 43 f n) (nI x) = some (mo σ 70 43 (upd f n (nI x)) (n + 1)) := by
  unfold fX12_addOne mo
  simp (disch := omega) only [l0, l1, l2, l3, l4, l5, l6, l7, l8, l9, l10, l11, l12, l16, l18, l19, l20, l21, l24, l96, l128, l100, l144, l200, l256, l288, l1536, l1728, l1800, bnd, nI_add, pk_mul, pI_sub, pI_m1, pT_le, pF_le, pT_lt, pF_lt, pT_eq, pF_eq, pF_m1, mF_eq, mT_eq, mT_lt, mF_le, lm1, rd_nI, wr_nI, cl_nI, pk_us, un_ne, pk_uLs, uL_ne, zI_uI, zI_uJ, zI_uA, zI_uB, zI_uR, zI_uN, zJ_uI, zJ_uJ, zJ_uA, zJ_uB, zJ_uR, zJ_uN, zA_uI, zA_uJ, zA_uA, zA_uB, zA_uR, zA_uN, zB_uI, zB_uJ, zB_uA, zB_uB, zB_uR, zB_uN, zR_uI, zR_uJ, zR_uA, zR_uB, zR_uR, zR_uN, zN_uI, zN_uJ, zN_uA, zN_uB, zN_uR, zN_uN, zI_ne, zJ_ne, zA_ne, zB_ne, zR_ne, zN_ne, bi_T, bi_F, nz16, ↓reduceIte, not_true_eq_false, not_false_eq_true, Bool.false_eq_true, reduceCtorEq]
  rw [mo_mo]
theorem m_lay70 {σ : St} {g : Gh} {s k : Nat} {w : Wd} (hs : s < 128) (hw : okW w) (hk : k < 2) (hat : wAt σ (s / 16) 63 64 (2 * s + k) w) (acc : List Nat) (f : Nat → Int32) (hf : holM f acc) (hl : acc.length + w.length ≤ 20) (v2 : Int32) (k1 : St → Option St) : ∃ f', fX12_layTexts_P30 (nI s) v2 (nI k) k1 (mo σ 70 43 f acc.length) (nI 0) = k1 (mo σ 70 43 f' (acc ++ w).length) ∧ holM f' (acc ++ w) := by
  obtain ⟨fr, a1, a2, a3, a4⟩ := hat
  have h1 := hw.1
  have h2 := hw.2.1
  have key := it_for (β := Nat → Int32) (body := fun (kb : (St × Int32) → Option St) (t : St × Int32) => fX12_layTexts_L30 (nI s) v2 (nI k) k1 (fun σ v4 => kb (σ, v4)) t.1 t.2) w.length (by omega) (fun i f => (mo σ 70 43 f (acc ++ w.take i).length, nI i)) (fun i f => holM f (acc ++ w.take i)) (fun _ _ r => ∃ f', r = k1 (mo σ 70 43 f' (acc ++ w).length) ∧ holM f' (acc ++ w)) ?_ 0 f (Nat.zero_le _) (by simpa using hf)
  · simp only [List.take_zero, List.append_nil] at key
    exact key
  · intro i f hi hf kb hkb
    show ∃ f', fX12_layTexts_L30 _ _ _ _ _ (mo σ 70 43 f (acc ++ w.take i).length) (nI i) = _ ∧ _
    unfold fX12_layTexts_L30
    have e64 : zA (mo σ 70 43 f (acc ++ w.take i).length) 64 = zA σ 64 := rfl
    have e63 : zA (mo σ 70 43 f (acc ++ w.take i).length) 63 = zA σ 63 := rfl
    by_cases hin : i = w.length
    · subst hin
      rw [List.take_length] at hf ⊢
      rw [List.take_length] at e64
      refine ⟨f, ?_, hf⟩
      simp (disch := omega) only [l0, l1, l2, l3, l4, l5, l6, l7, l8, l9, l10, l11, l12, l16, l18, l19, l20, l21, l24, l96, l128, l100, l144, l200, l256, l288, l1536, l1728, l1800, bnd, nI_add, pk_mul, pI_sub, pI_m1, pT_le, pF_le, pT_lt, pF_lt, pT_eq, pF_eq, pF_m1, mF_eq, mT_eq, mT_lt, mF_le, lm1, rd_nI, wr_nI, cl_nI, pk_us, un_ne, pk_uLs, uL_ne, zI_uI, zI_uJ, zI_uA, zI_uB, zI_uR, zI_uN, zJ_uI, zJ_uJ, zJ_uA, zJ_uB, zJ_uR, zJ_uN, zA_uI, zA_uJ, zA_uA, zA_uB, zA_uR, zA_uN, zB_uI, zB_uJ, zB_uA, zB_uB, zB_uR, zB_uN, zR_uI, zR_uJ, zR_uA, zR_uB, zR_uR, zR_uN, zN_uI, zN_uJ, zN_uA, zN_uB, zN_uR, zN_uN, zI_ne, zJ_ne, zA_ne, zB_ne, zR_ne, zN_ne, bi_T, bi_F, nz16, ↓reduceIte, not_true_eq_false, not_false_eq_true, Bool.false_eq_true, reduceCtorEq, e64, a3]
    · have hlet : fX12_letter (mo σ 70 43 f (acc ++ w.take i).length) (nI s) (nI (fr + i)) = some (nI (96 + w.getD i 0)) := m_letter hs (by omega) (a4 i (by omega))
      have htl : (acc ++ w.take i).length = acc.length + i := by rw [List.length_append, List.length_take]; omega
      have hadd := m_addOne σ f (acc ++ w.take i).length (96 + w.getD i 0) (by omega)
      have hnx : acc ++ w.take (i + 1) = (acc ++ w.take i) ++ [w.getD i 0] := by
        rw [List.take_succ_eq_append_getElem (by omega), List.getD_eq_getElem?_getD, List.getElem?_eq_getElem (by omega), List.append_assoc]
        rfl
      have hc := hw.2.2 _ (getD_mem (l := w) (k := i) (d := 0) (by omega))
      have := hkb (upd f (acc ++ w.take i).length (nI (96 + w.getD i 0))) (by omega) (by rw [hnx]; exact holM_snoc hf (by rw [sy, if_neg (by omega)]))
      rw [hnx, List.length_append (bs := [w.getD i 0]), List.length_singleton] at this
      simp (disch := omega) only [l0, l1, l2, l3, l4, l5, l6, l7, l8, l9, l10, l11, l12, l16, l18, l19, l20, l21, l24, l96, l128, l100, l144, l200, l256, l288, l1536, l1728, l1800, bnd, nI_add, pk_mul, pI_sub, pI_m1, pT_le, pF_le, pT_lt, pF_lt, pT_eq, pF_eq, pF_m1, mF_eq, mT_eq, mT_lt, mF_le, lm1, rd_nI, wr_nI, cl_nI, pk_us, un_ne, pk_uLs, uL_ne, zI_uI, zI_uJ, zI_uA, zI_uB, zI_uR, zI_uN, zJ_uI, zJ_uJ, zJ_uA, zJ_uB, zJ_uR, zJ_uN, zA_uI, zA_uJ, zA_uA, zA_uB, zA_uR, zA_uN, zB_uI, zB_uJ, zB_uA, zB_uB, zB_uR, zB_uN, zR_uI, zR_uJ, zR_uA, zR_uB, zR_uR, zR_uN, zN_uI, zN_uJ, zN_uA, zN_uB, zN_uR, zN_uN, zI_ne, zJ_ne, zA_ne, zB_ne, zR_ne, zN_ne, bi_T, bi_F, nz16, ↓reduceIte, not_true_eq_false, not_false_eq_true, Bool.false_eq_true, reduceCtorEq, e64, e63, a2, a3, hlet, hadd]
      exact this
theorem m_addOther (σ : St) (f : Nat → Int32) (n x : Nat) (hn : n < 20) : fX12_addOther (mo σ 71 44 f n) (nI x) = some (mo σ 71 44 (upd f n (nI x)) (n + 1)) := by
  unfold fX12_addOther mo
  simp (disch := omega) only [l0, l1, l2, l3, l4, l5, l6, l7, l8, l9, l10, l11, l12, l16, l18, l19, l20, l21, l24, l96, l128, l100, l144, l200, l256, l288, l1536, l1728, l1800, bnd, nI_add, pk_mul, pI_sub, pI_m1, pT_le, pF_le, pT_lt, pF_lt, pT_eq, pF_eq, pF_m1, mF_eq, mT_eq, mT_lt, mF_le, lm1, rd_nI, wr_nI, cl_nI, pk_us, un_ne, pk_uLs, uL_ne, zI_uI, zI_uJ, zI_uA, zI_uB, zI_uR, zI_uN, zJ_uI, zJ_uJ, zJ_uA, zJ_uB, zJ_uR, zJ_uN, zA_uI, zA_uJ, zA_uA, zA_uB, zA_uR, zA_uN, zB_uI, zB_uJ, zB_uA, zB_uB, zB_uR, zB_uN, zR_uI, zR_uJ, zR_uA, zR_uB, zR_uR, zR_uN, zN_uI, zN_uJ, zN_uA, zN_uB, zN_uR, zN_uN, zI_ne, zJ_ne, zA_ne, zB_ne, zR_ne, zN_ne, bi_T, bi_F, nz16, ↓reduceIte, not_true_eq_false, not_false_eq_true, Bool.false_eq_true, reduceCtorEq]
  rw [mo_mo]
theorem m_lay71 {σ : St} {g : Gh} {s k : Nat} {w : Wd} (hs : s < 128) (hw : okW w) (hk : k < 12) (hat : wAt σ (s / 16) 65 66 (12 * s + k) w) (acc : List Nat) (f : Nat → Int32) (hf : holM f acc) (hl : acc.length + w.length ≤ 20) (v3 : Int32) (k1 : St → Option St) : ∃ f', fX12_layTexts_P131 (nI s) v3 (nI k) k1 (mo σ 71 44 f acc.length) (nI 0) = k1 (mo σ 71 44 f' (acc ++ w).length) ∧ holM f' (acc ++ w) := by
  obtain ⟨fr, a1, a2, a3, a4⟩ := hat
  have h1 := hw.1
  have h2 := hw.2.1
  have key := it_for (β := Nat → Int32) (body := fun (kb : (St × Int32) → Option St) (t : St × Int32) => fX12_layTexts_L131 (nI s) v3 (nI k) k1 (fun σ v4 => kb (σ, v4)) t.1 t.2) w.length (by omega) (fun i f => (mo σ 71 44 f (acc ++ w.take i).length, nI i)) (fun i f => holM f (acc ++ w.take i)) (fun _ _ r => ∃ f', r = k1 (mo σ 71 44 f' (acc ++ w).length) ∧ holM f' (acc ++ w)) ?_ 0 f (Nat.zero_le _) (by simpa using hf)
  · simp only [List.take_zero, List.append_nil] at key
    exact key
  · intro i f hi hf kb hkb
    show ∃ f', fX12_layTexts_L131 _ _ _ _ _ (mo σ 71 44 f (acc ++ w.take i).length) (nI i) = _ ∧ _
    unfold fX12_layTexts_L131
    have e66 : zA (mo σ 71 44 f (acc ++ w.take i).length) 66 = zA σ 66 := rfl
    have e65 : zA (mo σ 71 44 f (acc ++ w.take i).length) 65 = zA σ 65 := rfl
    by_cases hin : i = w.length
    · subst hin
      rw [List.take_length] at hf ⊢
      rw [List.take_length] at e66
      refine ⟨f, ?_, hf⟩
      simp (disch := omega) only [l0, l1, l2, l3, l4, l5, l6, l7, l8, l9, l10, l11, l12, l16, l18, l19, l20, l21, l24, l96, l128, l100, l144, l200, l256, l288, l1536, l1728, l1800, bnd, nI_add, pk_mul, pI_sub, pI_m1, pT_le, pF_le, pT_lt, pF_lt, pT_eq, pF_eq, pF_m1, mF_eq, mT_eq, mT_lt, mF_le, lm1, rd_nI, wr_nI, cl_nI, pk_us, un_ne, pk_uLs, uL_ne, zI_uI, zI_uJ, zI_uA, zI_uB, zI_uR, zI_uN, zJ_uI, zJ_uJ, zJ_uA, zJ_uB, zJ_uR, zJ_uN, zA_uI, zA_uJ, zA_uA, zA_uB, zA_uR, zA_uN, zB_uI, zB_uJ, zB_uA, zB_uB, zB_uR, zB_uN, zR_uI, zR_uJ, zR_uA, zR_uB, zR_uR, zR_uN, zN_uI, zN_uJ, zN_uA, zN_uB, zN_uR, zN_uN, zI_ne, zJ_ne, zA_ne, zB_ne, zR_ne, zN_ne, bi_T, bi_F, nz16, ↓reduceIte, not_true_eq_false, not_false_eq_true, Bool.false_eq_true, reduceCtorEq, e66, a3]
    · have hlet : fX12_letter (mo σ 71 44 f (acc ++ w.take i).length) (nI s) (nI (fr + i)) = some (nI (96 + w.getD i 0)) := m_letter hs (by omega) (a4 i (by omega))
      have htl : (acc ++ w.take i).length = acc.length + i := by rw [List.length_append, List.length_take]; omega
      have hadd := m_addOther σ f (acc ++ w.take i).length (96 + w.getD i 0) (by omega)
      have hnx : acc ++ w.take (i + 1) = (acc ++ w.take i) ++ [w.getD i 0] := by
        rw [List.take_succ_eq_append_getElem (by omega), List.getD_eq_getElem?_getD, List.getElem?_eq_getElem (by omega), List.append_assoc]
        rfl
      have hc := hw.2.2 _ (getD_mem (l := w) (k := i) (d := 0) (by omega))
      have := hkb (upd f (acc ++ w.take i).length (nI (96 + w.getD i 0))) (by omega) (by rw [hnx]; exact holM_snoc hf (by rw [sy, if_neg (by omega)]))
      rw [hnx, List.length_append (bs := [w.getD i 0]), List.length_singleton] at this
      simp (disch := omega) only [l0, l1, l2, l3, l4, l5, l6, l7, l8, l9, l10, l11, l12, l16, l18, l19, l20, l21, l24, l96, l128, l100, l144, l200, l256, l288, l1536, l1728, l1800, bnd, nI_add, pk_mul, pI_sub, pI_m1, pT_le, pF_le, pT_lt, pF_lt, pT_eq, pF_eq, pF_m1, mF_eq, mT_eq, mT_lt, mF_le, lm1, rd_nI, wr_nI, cl_nI, pk_us, un_ne, pk_uLs, uL_ne, zI_uI, zI_uJ, zI_uA, zI_uB, zI_uR, zI_uN, zJ_uI, zJ_uJ, zJ_uA, zJ_uB, zJ_uR, zJ_uN, zA_uI, zA_uJ, zA_uA, zA_uB, zA_uR, zA_uN, zB_uI, zB_uJ, zB_uA, zB_uB, zB_uR, zB_uN, zR_uI, zR_uJ, zR_uA, zR_uB, zR_uR, zR_uN, zN_uI, zN_uJ, zN_uA, zN_uB, zN_uR, zN_uN, zI_ne, zJ_ne, zA_ne, zB_ne, zR_ne, zN_ne, bi_T, bi_F, nz16, ↓reduceIte, not_true_eq_false, not_false_eq_true, Bool.false_eq_true, reduceCtorEq, e66, e65, a2, a3, hlet, hadd]
      exact this
theorem ln_ne {ws : List Wd} (h : ∀ w, w ∈ ws → okW w) (hn : ws ≠ []) : ln ws ≠ [] := by
  rcases List.eq_nil_or_concat ws with rfl | ⟨l, b, rfl⟩
  · exact absurd rfl hn
  · rw [List.concat_eq_append]
    unfold ln
    rw [List.foldl_append]
    show lnF _ b ≠ []
    have hb := (h b (by simp)).1
    unfold lnF
    split
    · intro e; rw [e] at hb; simp at hb
    · simp
theorem mo_uI (σ : St) (q k : Nat) (v : Int32) (f : Nat → Int32) (n : Nat) : mo (uI σ k v) q k f n = mo σ q k f n := by
  unfold mo uI uA
  simp only [bx_uu]
theorem m_lay1 {σ : St} {g : Gh} (hg : okG g) (hj : JM σ g) {s : Nat} (h : vd g s = true) (v2 : Int32) (k1 : St → Option St) : ∃ f, fX12_layTexts_P7 (nI s) v2 k1 (mo σ 70 43 (zA σ 70) 0) (nI 0) = k1 (mo σ 70 43 f (lnA g s).length) ∧ holM f (lnA g s) := by
  have hok := vd_ok hg h
  have hc2 := hok.1
  have hs := vd_lt hg h
  have hlen : ∀ k, (ln ((gC g s).take k)).length ≤ 17 := fun k => ln_len (by rw [List.length_take]; omega) (fun w hw => (hok.2.2.2.1 w (List.mem_of_mem_take hw)).2.1)
  have a61 := (hj.2.2 s h).1
  have key := it_for (β := Nat → Int32) (body := fun (kb : (St × Int32) → Option St) (t : St × Int32) => fX12_layTexts_L7 (nI s) v2 k1 (fun σ v3 => kb (σ, v3)) t.1 t.2) (gC g s).length (by omega) (fun k f => (mo σ 70 43 f (ln ((gC g s).take k)).length, nI k)) (fun k f => holM f (ln ((gC g s).take k))) (fun _ _ r => ∃ f, r = k1 (mo σ 70 43 f (lnA g s).length) ∧ holM f (lnA g s)) ?_ 0 (zA σ 70) (Nat.zero_le _) (holM_nil _)
  · exact key
  · intro k f hk hf kb hkb
    show ∃ f', fX12_layTexts_L7 _ _ _ _ (mo σ 70 43 f (ln ((gC g s).take k)).length) (nI k) = _ ∧ _
    unfold fX12_layTexts_L7
    have e61 : zA (mo σ 70 43 f (ln ((gC g s).take k)).length) 61 = zA σ 61 := rfl
    by_cases hkn : k = (gC g s).length
    · have e : (gC g s).take k = gC g s := List.take_of_length_le (by omega)
      rw [e] at hf e61 ⊢
      refine ⟨f, ?_, hf⟩
      simp (disch := omega) only [l0, l1, l2, l3, l4, l5, l6, l7, l8, l9, l10, l11, l12, l16, l18, l19, l20, l21, l24, l96, l128, l100, l144, l200, l256, l288, l1536, l1728, l1800, bnd, nI_add, pk_mul, pI_sub, pI_m1, pT_le, pF_le, pT_lt, pF_lt, pT_eq, pF_eq, pF_m1, mF_eq, mT_eq, mT_lt, mF_le, lm1, rd_nI, wr_nI, cl_nI, pk_us, un_ne, pk_uLs, uL_ne, zI_uI, zI_uJ, zI_uA, zI_uB, zI_uR, zI_uN, zJ_uI, zJ_uJ, zJ_uA, zJ_uB, zJ_uR, zJ_uN, zA_uI, zA_uJ, zA_uA, zA_uB, zA_uR, zA_uN, zB_uI, zB_uJ, zB_uA, zB_uB, zB_uR, zB_uN, zR_uI, zR_uJ, zR_uA, zR_uB, zR_uR, zR_uN, zN_uI, zN_uJ, zN_uA, zN_uB, zN_uR, zN_uN, zI_ne, zJ_ne, zA_ne, zB_ne, zR_ne, zN_ne, bi_T, bi_F, nz16, ↓reduceIte, not_true_eq_false, not_false_eq_true, Bool.false_eq_true, reduceCtorEq, e61, a61]
      rfl
    · have hk3 : k < (gC g s).length := by omega
      have hwk : okW ((gC g s).getD k []) := hok.2.2.2.1 _ (getD_mem hk3)
      have hat := (hj.2.2 s h).2.2.1 k hk3
      have hl17 := hlen (k + 1)
      have htk := ln_take hk3
      by_cases h0 : k = 0
      · subst h0
        have e0 : ln ((gC g s).take 0) = [] := rfl
        rw [e0] at hf e61 htk
        have e1 : lnF [] ((gC g s).getD 0 []) = [] ++ (gC g s).getD 0 [] := by
          unfold lnF
          rw [if_pos rfl, List.nil_append]
        rw [e1] at htk
        rw [htk, List.length_append, List.length_nil] at hl17
        obtain ⟨f2, e2, hf2⟩ := m_lay70 (g := g) (k := 0) hs hwk (by omega) hat [] f hf (by rw [List.length_nil]; omega) v2 (fun s7 => kb (s7, nI (0 + 1)))
        have := hkb f2 (by omega) (by rw [htk]; exact hf2)
        rw [htk] at this
        rw [e0]
        simp (disch := omega) only [l0, l1, l2, l3, l4, l5, l6, l7, l8, l9, l10, l11, l12, l16, l18, l19, l20, l21, l24, l96, l128, l100, l144, l200, l256, l288, l1536, l1728, l1800, bnd, nI_add, pk_mul, pI_sub, pI_m1, pT_le, pF_le, pT_lt, pF_lt, pT_eq, pF_eq, pF_m1, mF_eq, mT_eq, mT_lt, mF_le, lm1, rd_nI, wr_nI, cl_nI, pk_us, un_ne, pk_uLs, uL_ne, zI_uI, zI_uJ, zI_uA, zI_uB, zI_uR, zI_uN, zJ_uI, zJ_uJ, zJ_uA, zJ_uB, zJ_uR, zJ_uN, zA_uI, zA_uJ, zA_uA, zA_uB, zA_uR, zA_uN, zB_uI, zB_uJ, zB_uA, zB_uB, zB_uR, zB_uN, zR_uI, zR_uJ, zR_uA, zR_uB, zR_uR, zR_uN, zN_uI, zN_uJ, zN_uA, zN_uB, zN_uR, zN_uN, zI_ne, zJ_ne, zA_ne, zB_ne, zR_ne, zN_ne, bi_T, bi_F, nz16, ↓reduceIte, not_true_eq_false, not_false_eq_true, Bool.false_eq_true, reduceCtorEq, e61, a61]
        rw [show fX12_layTexts_P30 (nI s) v2 (nI 0) (fun s7 => kb (s7, nI (0 + 1))) (mo σ 70 43 f ([] : List Nat).length) (nI 0) = _ from e2]
        exact this
      · have hne : ln ((gC g s).take k) ≠ [] := ln_ne (fun w hw => hok.2.2.2.1 w (List.mem_of_mem_take hw)) (by
          intro e
          have := congrArg List.length e
          rw [List.length_take, List.length_nil] at this
          omega)
        have e1 : lnF (ln ((gC g s).take k)) ((gC g s).getD k []) = (ln ((gC g s).take k) ++ [0]) ++ (gC g s).getD k [] := by
          unfold lnF
          rw [if_neg hne, List.append_assoc]
          rfl
        rw [e1] at htk
        have hl2 := hl17
        rw [htk, List.length_append, List.length_append, List.length_singleton] at hl2
        have hadd := m_addOne σ f (ln ((gC g s).take k)).length 32 (by omega)
        have e32 : (32 : Int32) = nI 32 := rfl
        obtain ⟨f2, e2, hf2⟩ := m_lay70 (g := g) (k := k) hs hwk (by omega) hat (ln ((gC g s).take k) ++ [0]) (upd f (ln ((gC g s).take k)).length (nI 32)) (holM_snoc hf rfl) (by rw [List.length_append, List.length_singleton]; omega) v2 (fun s7 => kb (s7, nI (k + 1)))
        have := hkb f2 (by omega) (by rw [htk]; exact hf2)
        rw [htk] at this
        rw [List.length_append (as := ln ((gC g s).take k)), List.length_singleton] at e2
        simp (disch := omega) only [l0, l1, l2, l3, l4, l5, l6, l7, l8, l9, l10, l11, l12, l16, l18, l19, l20, l21, l24, l96, l128, l100, l144, l200, l256, l288, l1536, l1728, l1800, bnd, nI_add, pk_mul, pI_sub, pI_m1, pT_le, pF_le, pT_lt, pF_lt, pT_eq, pF_eq, pF_m1, mF_eq, mT_eq, mT_lt, mF_le, lm1, rd_nI, wr_nI, cl_nI, pk_us, un_ne, pk_uLs, uL_ne, zI_uI, zI_uJ, zI_uA, zI_uB, zI_uR, zI_uN, zJ_uI, zJ_uJ, zJ_uA, zJ_uB, zJ_uR, zJ_uN, zA_uI, zA_uJ, zA_uA, zA_uB, zA_uR, zA_uN, zB_uI, zB_uJ, zB_uA, zB_uB, zB_uR, zB_uN, zR_uI, zR_uJ, zR_uA, zR_uB, zR_uR, zR_uN, zN_uI, zN_uJ, zN_uA, zN_uB, zN_uR, zN_uN, zI_ne, zJ_ne, zA_ne, zB_ne, zR_ne, zN_ne, bi_T, bi_F, nz16, ↓reduceIte, not_true_eq_false, not_false_eq_true, Bool.false_eq_true, reduceCtorEq, e61, a61, e32, hadd]
        rw [e2]
        exact this
theorem mo_0 (σ : St) (q k : Nat) : uI σ k (nI 0) = mo σ q k (zA σ q) 0 := by
  unfold mo
  rw [uA_self]
theorem m_lay2 {σ : St} {g : Gh} (hg : okG g) (hj : JM σ g) {o d : Nat} (ho : vd g o = true) (hd : (gW g o).length - d ≤ 2) (hdl : d ≤ (gW g o).length) : ∃ f, fX12_layTexts_P105 (nI o) (nI d) (mo σ 71 44 (zA σ 71) 0) (nI d) = some (mo σ 71 44 f (ln ((gW g o).drop d)).length) ∧ holM f (ln ((gW g o).drop d)) := by
  have hok := vd_ok hg ho
  have hw12 := hok.2.2.1
  have hs := vd_lt hg ho
  have hlen : ∀ k, (ln (((gW g o).drop d).take k)).length ≤ 17 := fun k => ln_len (by rw [List.length_take, List.length_drop]; omega) (fun w hw => (hok.2.2.2.2 w (List.mem_of_mem_drop (List.mem_of_mem_take hw))).2.1)
  have a62 := (hj.2.2 o ho).2.1
  have key := it_for (β := Nat → Int32) (body := fun (kb : (St × Int32) → Option St) (t : St × Int32) => fX12_layTexts_L105 (nI o) (nI d) (fun σ v4 => kb (σ, v4)) t.1 t.2) ((gW g o).length - d) (by omega) (fun k f => (mo σ 71 44 f (ln (((gW g o).drop d).take k)).length, nI (d + k))) (fun k f => holM f (ln (((gW g o).drop d).take k))) (fun _ _ r => ∃ f, r = some (mo σ 71 44 f (ln ((gW g o).drop d)).length) ∧ holM f (ln ((gW g o).drop d))) ?_ 0 (zA σ 71) (Nat.zero_le _) (holM_nil _)
  · exact key
  · intro k f hk hf kb hkb
    show ∃ f', fX12_layTexts_L105 _ _ _ (mo σ 71 44 f (ln (((gW g o).drop d).take k)).length) (nI (d + k)) = _ ∧ _
    unfold fX12_layTexts_L105
    have e62 : zA (mo σ 71 44 f (ln (((gW g o).drop d).take k)).length) 62 = zA σ 62 := rfl
    by_cases hkn : k = (gW g o).length - d
    · have e : ((gW g o).drop d).take k = (gW g o).drop d := List.take_of_length_le (by rw [List.length_drop]; omega)
      rw [e] at hf e62 ⊢
      refine ⟨f, ?_, hf⟩
      simp (disch := omega) only [l0, l1, l2, l3, l4, l5, l6, l7, l8, l9, l10, l11, l12, l16, l18, l19, l20, l21, l24, l96, l128, l100, l144, l200, l256, l288, l1536, l1728, l1800, bnd, nI_add, pk_mul, pI_sub, pI_m1, pT_le, pF_le, pT_lt, pF_lt, pT_eq, pF_eq, pF_m1, mF_eq, mT_eq, mT_lt, mF_le, lm1, rd_nI, wr_nI, cl_nI, pk_us, un_ne, pk_uLs, uL_ne, zI_uI, zI_uJ, zI_uA, zI_uB, zI_uR, zI_uN, zJ_uI, zJ_uJ, zJ_uA, zJ_uB, zJ_uR, zJ_uN, zA_uI, zA_uJ, zA_uA, zA_uB, zA_uR, zA_uN, zB_uI, zB_uJ, zB_uA, zB_uB, zB_uR, zB_uN, zR_uI, zR_uJ, zR_uA, zR_uB, zR_uR, zR_uN, zN_uI, zN_uJ, zN_uA, zN_uB, zN_uR, zN_uN, zI_ne, zJ_ne, zA_ne, zB_ne, zR_ne, zN_ne, bi_T, bi_F, nz16, ↓reduceIte, not_true_eq_false, not_false_eq_true, Bool.false_eq_true, reduceCtorEq, e62, a62]
    · have hk3 : k < ((gW g o).drop d).length := by rw [List.length_drop]; omega
      have hwk : okW ((gW g o).getD (d + k) []) := hok.2.2.2.2 _ (getD_mem (by omega))
      have hat := (hj.2.2 o ho).2.2.2 (d + k) (by omega)
      have hl17 := hlen (k + 1)
      have htk := ln_take hk3
      rw [getD_drop] at htk
      by_cases h0 : k = 0
      · subst h0
        have e0 : ln (((gW g o).drop d).take 0) = [] := rfl
        rw [e0] at hf e62 htk
        have e1 : lnF [] ((gW g o).getD (d + 0) []) = [] ++ (gW g o).getD (d + 0) [] := by
          unfold lnF
          rw [if_pos rfl, List.nil_append]
        rw [e1] at htk
        rw [htk, List.length_append, List.length_nil] at hl17
        obtain ⟨f2, e2, hf2⟩ := m_lay71 (g := g) (k := d + 0) hs hwk (by omega) hat [] f hf (by rw [List.length_nil]; omega) (nI d) (fun s7 => kb (s7, nI (d + 0 + 1)))
        have := hkb f2 (by omega) (by rw [htk]; exact hf2)
        rw [htk] at this
        rw [e0]
        simp (disch := omega) only [l0, l1, l2, l3, l4, l5, l6, l7, l8, l9, l10, l11, l12, l16, l18, l19, l20, l21, l24, l96, l128, l100, l144, l200, l256, l288, l1536, l1728, l1800, bnd, nI_add, pk_mul, pI_sub, pI_m1, pT_le, pF_le, pT_lt, pF_lt, pT_eq, pF_eq, pF_m1, mF_eq, mT_eq, mT_lt, mF_le, lm1, rd_nI, wr_nI, cl_nI, pk_us, un_ne, pk_uLs, uL_ne, zI_uI, zI_uJ, zI_uA, zI_uB, zI_uR, zI_uN, zJ_uI, zJ_uJ, zJ_uA, zJ_uB, zJ_uR, zJ_uN, zA_uI, zA_uJ, zA_uA, zA_uB, zA_uR, zA_uN, zB_uI, zB_uJ, zB_uA, zB_uB, zB_uR, zB_uN, zR_uI, zR_uJ, zR_uA, zR_uB, zR_uR, zR_uN, zN_uI, zN_uJ, zN_uA, zN_uB, zN_uR, zN_uN, zI_ne, zJ_ne, zA_ne, zB_ne, zR_ne, zN_ne, bi_T, bi_F, nz16, ↓reduceIte, not_true_eq_false, not_false_eq_true, Bool.false_eq_true, reduceCtorEq, e62, a62]
        rw [show fX12_layTexts_P131 (nI o) (nI d) (nI (d + 0)) (fun s7 => kb (s7, nI (d + 0 + 1))) (mo σ 71 44 f ([] : List Nat).length) (nI 0) = _ from e2]
        exact this
      · have hne : ln (((gW g o).drop d).take k) ≠ [] := ln_ne (fun w hw => hok.2.2.2.2 w (List.mem_of_mem_drop (List.mem_of_mem_take hw))) (by
          intro e
          have := congrArg List.length e
          rw [List.length_take, List.length_nil] at this
          omega)
        have e1 : lnF (ln (((gW g o).drop d).take k)) ((gW g o).getD (d + k) []) = (ln (((gW g o).drop d).take k) ++ [0]) ++ (gW g o).getD (d + k) [] := by
          unfold lnF
          rw [if_neg hne, List.append_assoc]
          rfl
        rw [e1] at htk
        have hl2 := hl17
        rw [htk, List.length_append, List.length_append, List.length_singleton] at hl2
        have hadd := m_addOther σ f (ln (((gW g o).drop d).take k)).length 32 (by omega)
        have e32 : (32 : Int32) = nI 32 := rfl
        obtain ⟨f2, e2, hf2⟩ := m_lay71 (g := g) (k := d + k) hs hwk (by omega) hat (ln (((gW g o).drop d).take k) ++ [0]) (upd f (ln (((gW g o).drop d).take k)).length (nI 32)) (holM_snoc hf rfl) (by rw [List.length_append, List.length_singleton]; omega) (nI d) (fun s7 => kb (s7, nI (d + k + 1)))
        have := hkb f2 (by omega) (by rw [htk]; exact hf2)
        rw [htk] at this
        rw [List.length_append (as := ln (((gW g o).drop d).take k)), List.length_singleton] at e2
        simp (disch := omega) only [l0, l1, l2, l3, l4, l5, l6, l7, l8, l9, l10, l11, l12, l16, l18, l19, l20, l21, l24, l96, l128, l100, l144, l200, l256, l288, l1536, l1728, l1800, bnd, nI_add, pk_mul, pI_sub, pI_m1, pT_le, pF_le, pT_lt, pF_lt, pT_eq, pF_eq, pF_m1, mF_eq, mT_eq, mT_lt, mF_le, lm1, rd_nI, wr_nI, cl_nI, pk_us, un_ne, pk_uLs, uL_ne, zI_uI, zI_uJ, zI_uA, zI_uB, zI_uR, zI_uN, zJ_uI, zJ_uJ, zJ_uA, zJ_uB, zJ_uR, zJ_uN, zA_uI, zA_uJ, zA_uA, zA_uB, zA_uR, zA_uN, zB_uI, zB_uJ, zB_uA, zB_uB, zB_uR, zB_uN, zR_uI, zR_uJ, zR_uA, zR_uB, zR_uR, zR_uN, zN_uI, zN_uJ, zN_uA, zN_uB, zN_uR, zN_uN, zI_ne, zJ_ne, zA_ne, zB_ne, zR_ne, zN_ne, bi_T, bi_F, nz16, ↓reduceIte, not_true_eq_false, not_false_eq_true, Bool.false_eq_true, reduceCtorEq, e62, a62, e32, hadd]
        rw [e2]
        exact this
theorem m_layTexts {σ : St} {g : Gh} (hg : okG g) (hj : JM σ g) {s o : Nat} (h : vd g s = true) (ho : vd g o = true) : ∃ f f', fX12_layTexts σ (nI s) (nI o) = some (mo (mo σ 70 43 f (lnA g s).length) 71 44 f' (lnB g s o).length) ∧ holM f (lnA g s) ∧ holM f' (lnB g s o) := by
  have hok := vd_ok hg h
  have hoo := vd_ok hg ho
  have hc2 := hok.1
  have hw12 := hoo.2.2.1
  have hs := vd_lt hg h
  have hs2 := vd_lt hg ho
  have a61 := (hj.2.2 s h).1
  have a62 := (hj.2.2 o ho).2.1
  obtain ⟨f, e, hf⟩ := m_lay1 hg hj h (nI o) (fun s10 => (rd (zA (uI s10 44 (nI 0)) 62) 144 (nI o)).bind fun x12 => (rd (zA (uI s10 44 (nI 0)) 61) 144 (nI s)).bind fun x13 => (fJ9_max_7cf53 (nI 0) (x12 - x13)).bind fun x14 => fX12_layTexts_P105 (nI o) x14 (uI s10 44 (nI 0)) x14)
  have hmx : fJ9_max_7cf53 (nI 0) (nI (gW g o).length - nI (gC g s).length) = some (nI ((gW g o).length - (gC g s).length)) := by
    by_cases hle : (gC g s).length ≤ (gW g o).length
    · rw [pI_sub hle, jmax (by omega) (by omega), Nat.max_eq_right (Nat.zero_le _)]
    · have hneg := pk_sneg (a := (gW g o).length) (b := (gC g s).length) (by omega) (by omega)
      unfold fJ9_max_7cf53
      rw [show (gW g o).length - (gC g s).length = 0 by omega, if_neg]
      intro x
      exact absurd (Int32.lt_trans x hneg) (by decide)
  have hj2 : JM (mo σ 70 43 f (lnA g s).length) g := hj.se ((SE.uA (by decide)).tr (SE.uI (by decide)))
  obtain ⟨f2, e2, hf2⟩ := m_lay2 hg hj2 (d := (gW g o).length - (gC g s).length) ho (by omega) (by omega)
  refine ⟨f, f2, ?_, hf, hf2⟩
  have e61 : zA (uI (mo σ 70 43 f (lnA g s).length) 44 (nI 0)) 61 = zA σ 61 := rfl
  have e62 : zA (uI (mo σ 70 43 f (lnA g s).length) 44 (nI 0)) 62 = zA σ 62 := rfl
  unfold fX12_layTexts
  simp only [l0, bnd]
  rw [mo_0 σ 70 43, e, e61, e62, rd_nI (by omega) (by omega), a62, Option.bind_some, rd_nI (by omega) (by omega), a61, Option.bind_some, hmx, Option.bind_some, mo_0 _ 71 44]
  exact e2
theorem sy_inj {a b : Nat} (ha : a < 32) (hb : b < 32) : sy a = sy b ↔ a = b := by
  unfold sy
  split <;> split <;> omega
theorem sy_lt {a : Nat} (ha : a < 32) : sy a < 128 := by
  unfold sy
  split <;> omega
theorem m_inner (σ : St) (A B : List Nat) (hA : A.length ≤ 17) (hB : B.length ≤ 17) (h70 : holM (zA σ 70) A) (h71 : holM (zA σ 71) B) (h44 : zI σ 44 = nI B.length) (a32 : ∀ j, gl A j < 32) (b32 : ∀ j, gl B j < 32) (i : Nat) (hi : i ≤ A.length) (k1 : St → Option (Int32 × St)) (f : Nat → Int32) (hf : ∀ p j, p < i → j ≤ B.length → f (21 * p + j) = nI (lev (gl A) (gl B) p j)) : ∃ f', fX12_farOf_P19 (nI i) k1 (uA σ 72 f) (nI 0) = k1 (uA σ 72 f') ∧ ∀ p j, p < i + 1 → j ≤ B.length → f' (21 * p + j) = nI (lev (gl A) (gl B) p j) := by
  refine it_for (β := Nat → Int32) (body := fun (kb : (St × Int32) → Option (Int32 × St)) (t : St × Int32) => fX12_farOf_L19 (nI i) k1 (fun σ v4 => kb (σ, v4)) t.1 t.2) (B.length + 1) (by omega) (fun j f => (uA σ 72 f, nI j)) (fun j f => (∀ p q, p < i → q ≤ B.length → f (21 * p + q) = nI (lev (gl A) (gl B) p q)) ∧ ∀ q, q < j → f (21 * i + q) = nI (lev (gl A) (gl B) i q)) (fun _ _ r => ∃ f', r = k1 (uA σ 72 f') ∧ ∀ p j, p < i + 1 → j ≤ B.length → f' (21 * p + j) = nI (lev (gl A) (gl B) p j)) ?_ 0 f (Nat.zero_le _) ⟨hf, fun q h => absurd h (Nat.not_lt_zero _)⟩
  intro j f hj hI kb hkb
  show ∃ f', fX12_farOf_L19 _ _ _ (uA σ 72 f) (nI j) = _ ∧ _
  unfold fX12_farOf_L19
  by_cases hjn : j = B.length + 1
  · refine ⟨f, ?_, ?_⟩
    · simp (disch := omega) only [l0, l1, l2, l3, l4, l5, l6, l7, l8, l9, l10, l11, l12, l16, l18, l19, l20, l21, l24, l96, l128, l100, l144, l200, l256, l288, l1536, l1728, l1800, bnd, nI_add, pk_mul, pI_sub, pI_m1, pT_le, pF_le, pT_lt, pF_lt, pT_eq, pF_eq, pF_m1, mF_eq, mT_eq, mT_lt, mF_le, lm1, rd_nI, wr_nI, cl_nI, pk_us, un_ne, pk_uLs, uL_ne, zI_uI, zI_uJ, zI_uA, zI_uB, zI_uR, zI_uN, zJ_uI, zJ_uJ, zJ_uA, zJ_uB, zJ_uR, zJ_uN, zA_uI, zA_uJ, zA_uA, zA_uB, zA_uR, zA_uN, zB_uI, zB_uJ, zB_uA, zB_uB, zB_uR, zB_uN, zR_uI, zR_uJ, zR_uA, zR_uB, zR_uR, zR_uN, zN_uI, zN_uJ, zN_uA, zN_uB, zN_uR, zN_uN, zI_ne, zJ_ne, zA_ne, zB_ne, zR_ne, zN_ne, bi_T, bi_F, nz16, ↓reduceIte, not_true_eq_false, not_false_eq_true, Bool.false_eq_true, reduceCtorEq, h44]
    · intro p q hp hq
      by_cases e : p = i
      · subst e; exact hI.2 q (by omega)
      · exact hI.1 p q (by omega) hq
  · have step : ∀ v, v = lev (gl A) (gl B) i j → ∃ f', kb (uA σ 72 (upd f (21 * i + j) (nI v)), nI (j + 1)) = k1 (uA σ 72 f') ∧ ∀ p j, p < i + 1 → j ≤ B.length → f' (21 * p + j) = nI (lev (gl A) (gl B) p j) := by
      intro v hv
      refine hkb _ (by omega) ⟨?_, ?_⟩
      · intro p q hp hq
        rw [pk_un (by omega)]
        exact hI.1 p q hp hq
      · intro q hq
        by_cases e : q = j
        · subst e; rw [pk_us, hv]
        · rw [pk_un (by omega)]; exact hI.2 q (by omega)
    have J38 : ∀ t, t = (if i = 0 then j else i) → ∃ f', fX12_farOf_J38 (fun σ v4 => kb (σ, v4)) (uA σ 72 f) (nI i) (nI j) (nI t) = k1 (uA σ 72 f') ∧ ∀ p j, p < i + 1 → j ≤ B.length → f' (21 * p + j) = nI (lev (gl A) (gl B) p j) := by
      intro t ht
      unfold fX12_farOf_J38
      by_cases hi0 : i = 0
      · subst hi0
        have s0 := step t (by rw [ht, if_pos rfl, lev_0])
        simp (disch := omega) only [l0, l1, l2, l3, l4, l5, l6, l7, l8, l9, l10, l11, l12, l16, l18, l19, l20, l21, l24, l96, l128, l100, l144, l200, l256, l288, l1536, l1728, l1800, bnd, nI_add, pk_mul, pI_sub, pI_m1, pT_le, pF_le, pT_lt, pF_lt, pT_eq, pF_eq, pF_m1, mF_eq, mT_eq, mT_lt, mF_le, lm1, rd_nI, wr_nI, cl_nI, pk_us, un_ne, pk_uLs, uL_ne, zI_uI, zI_uJ, zI_uA, zI_uB, zI_uR, zI_uN, zJ_uI, zJ_uJ, zJ_uA, zJ_uB, zJ_uR, zJ_uN, zA_uI, zA_uJ, zA_uA, zA_uB, zA_uR, zA_uN, zB_uI, zB_uJ, zB_uA, zB_uB, zB_uR, zB_uN, zR_uI, zR_uJ, zR_uA, zR_uB, zR_uR, zR_uN, zN_uI, zN_uJ, zN_uA, zN_uB, zN_uR, zN_uN, zI_ne, zJ_ne, zA_ne, zB_ne, zR_ne, zN_ne, bi_T, bi_F, nz16, ↓reduceIte, not_true_eq_false, not_false_eq_true, Bool.false_eq_true, reduceCtorEq, uA_uA]
        exact s0
      · rw [if_neg hi0] at ht
        by_cases hj0 : j = 0
        · subst hj0
          have s0 := step t (by rw [ht, lev_z])
          simp (disch := omega) only [l0, l1, l2, l3, l4, l5, l6, l7, l8, l9, l10, l11, l12, l16, l18, l19, l20, l21, l24, l96, l128, l100, l144, l200, l256, l288, l1536, l1728, l1800, bnd, nI_add, pk_mul, pI_sub, pI_m1, pT_le, pF_le, pT_lt, pF_lt, pT_eq, pF_eq, pF_m1, mF_eq, mT_eq, mT_lt, mF_le, lm1, rd_nI, wr_nI, cl_nI, pk_us, un_ne, pk_uLs, uL_ne, zI_uI, zI_uJ, zI_uA, zI_uB, zI_uR, zI_uN, zJ_uI, zJ_uJ, zJ_uA, zJ_uB, zJ_uR, zJ_uN, zA_uI, zA_uJ, zA_uA, zA_uB, zA_uR, zA_uN, zB_uI, zB_uJ, zB_uA, zB_uB, zB_uR, zB_uN, zR_uI, zR_uJ, zR_uA, zR_uB, zR_uR, zR_uN, zN_uI, zN_uJ, zN_uA, zN_uB, zN_uR, zN_uN, zI_ne, zJ_ne, zA_ne, zB_ne, zR_ne, zN_ne, bi_T, bi_F, nz16, ↓reduceIte, not_true_eq_false, not_false_eq_true, Bool.false_eq_true, reduceCtorEq, uA_uA]
          exact s0
        · obtain ⟨i', rfl⟩ : ∃ i', i = i' + 1 := ⟨i - 1, by omega⟩
          obtain ⟨j', rfl⟩ : ∃ j', j = j' + 1 := ⟨j - 1, by omega⟩
          have b1 := lev_le (gl A) (gl B) i' j'
          have b2 := lev_le (gl A) (gl B) i' (j' + 1)
          have b3 := lev_le (gl A) (gl B) (i' + 1) j'
          have r1 : f (21 * (i' + 1 - 1) + (j' + 1) - 1) = nI (lev (gl A) (gl B) i' j') := by
            rw [show 21 * (i' + 1 - 1) + (j' + 1) - 1 = 21 * i' + j' by omega]
            exact hI.1 i' j' (by omega) (by omega)
          have r2 : f (21 * (i' + 1 - 1) + (j' + 1)) = nI (lev (gl A) (gl B) i' (j' + 1)) := by
            rw [show 21 * (i' + 1 - 1) + (j' + 1) = 21 * i' + (j' + 1) by omega]
            exact hI.1 i' (j' + 1) (by omega) (by omega)
          have r3 : f (21 * (i' + 1) + (j' + 1) - 1) = nI (lev (gl A) (gl B) (i' + 1) j') := by
            rw [show 21 * (i' + 1) + (j' + 1) - 1 = 21 * (i' + 1) + j' by omega]
            exact hI.2 j' (by omega)
          have r4 : zA σ 70 (i' + 1 - 1) = nI (sy (gl A i')) := h70 i' (by omega)
          have r5 : zA σ 71 (j' + 1 - 1) = nI (sy (gl B j')) := h71 j' (by omega)
          have g1 := sy_lt (a32 i')
          have g2 := sy_lt (b32 j')
          by_cases e : gl A i' = gl B j'
          · have s0 := step (min (lev (gl A) (gl B) i' j' + 0) (1 + min (lev (gl A) (gl B) i' (j' + 1)) (lev (gl A) (gl B) (i' + 1) j'))) (by rw [lev_ss, if_pos e])
            have e2 : sy (gl A i') = sy (gl B j') := by rw [e]
            simp (disch := omega) only [l0, l1, l2, l3, l4, l5, l6, l7, l8, l9, l10, l11, l12, l16, l18, l19, l20, l21, l24, l96, l128, l100, l144, l200, l256, l288, l1536, l1728, l1800, bnd, nI_add, pk_mul, pI_sub, pI_m1, pT_le, pF_le, pT_lt, pF_lt, pT_eq, pF_eq, pF_m1, mF_eq, mT_eq, mT_lt, mF_le, lm1, rd_nI, wr_nI, cl_nI, pk_us, un_ne, pk_uLs, uL_ne, zI_uI, zI_uJ, zI_uA, zI_uB, zI_uR, zI_uN, zJ_uI, zJ_uJ, zJ_uA, zJ_uB, zJ_uR, zJ_uN, zA_uI, zA_uJ, zA_uA, zA_uB, zA_uR, zA_uN, zB_uI, zB_uJ, zB_uA, zB_uB, zB_uR, zB_uN, zR_uI, zR_uJ, zR_uA, zR_uB, zR_uR, zR_uN, zN_uI, zN_uJ, zN_uA, zN_uB, zN_uR, zN_uN, zI_ne, zJ_ne, zA_ne, zB_ne, zR_ne, zN_ne, bi_T, bi_F, nz16, ↓reduceIte, not_true_eq_false, not_false_eq_true, Bool.false_eq_true, reduceCtorEq, r1, r2, r3, r4, r5, e2, jmin, uA_uA]
            exact s0
          · have s0 := step (min (lev (gl A) (gl B) i' j' + 1) (1 + min (lev (gl A) (gl B) i' (j' + 1)) (lev (gl A) (gl B) (i' + 1) j'))) (by rw [lev_ss, if_neg e])
            have e2 : (nI (sy (gl A i')) = nI (sy (gl B j'))) = False := pF_eq (fun x => e ((sy_inj (a32 i') (b32 j')).mp x)) (by omega) (by omega)
            simp (disch := omega) only [l0, l1, l2, l3, l4, l5, l6, l7, l8, l9, l10, l11, l12, l16, l18, l19, l20, l21, l24, l96, l128, l100, l144, l200, l256, l288, l1536, l1728, l1800, bnd, nI_add, pk_mul, pI_sub, pI_m1, pT_le, pF_le, pT_lt, pF_lt, pT_eq, pF_eq, pF_m1, mF_eq, mT_eq, mT_lt, mF_le, lm1, rd_nI, wr_nI, cl_nI, pk_us, un_ne, pk_uLs, uL_ne, zI_uI, zI_uJ, zI_uA, zI_uB, zI_uR, zI_uN, zJ_uI, zJ_uJ, zJ_uA, zJ_uB, zJ_uR, zJ_uN, zA_uI, zA_uJ, zA_uA, zA_uB, zA_uR, zA_uN, zB_uI, zB_uJ, zB_uA, zB_uB, zB_uR, zB_uN, zR_uI, zR_uJ, zR_uA, zR_uB, zR_uR, zR_uN, zN_uI, zN_uJ, zN_uA, zN_uB, zN_uR, zN_uN, zI_ne, zJ_ne, zA_ne, zB_ne, zR_ne, zN_ne, bi_T, bi_F, nz16, ↓reduceIte, not_true_eq_false, not_false_eq_true, Bool.false_eq_true, reduceCtorEq, r1, r2, r3, r4, r5, e2, jmin, uA_uA]
            exact s0
    by_cases hi0 : i = 0
    · have j0 := J38 j (by rw [if_pos hi0])
      simp (disch := omega) only [l0, l1, l2, l3, l4, l5, l6, l7, l8, l9, l10, l11, l12, l16, l18, l19, l20, l21, l24, l96, l128, l100, l144, l200, l256, l288, l1536, l1728, l1800, bnd, nI_add, pk_mul, pI_sub, pI_m1, pT_le, pF_le, pT_lt, pF_lt, pT_eq, pF_eq, pF_m1, mF_eq, mT_eq, mT_lt, mF_le, lm1, rd_nI, wr_nI, cl_nI, pk_us, un_ne, pk_uLs, uL_ne, zI_uI, zI_uJ, zI_uA, zI_uB, zI_uR, zI_uN, zJ_uI, zJ_uJ, zJ_uA, zJ_uB, zJ_uR, zJ_uN, zA_uI, zA_uJ, zA_uA, zA_uB, zA_uR, zA_uN, zB_uI, zB_uJ, zB_uA, zB_uB, zB_uR, zB_uN, zR_uI, zR_uJ, zR_uA, zR_uB, zR_uR, zR_uN, zN_uI, zN_uJ, zN_uA, zN_uB, zN_uR, zN_uN, zI_ne, zJ_ne, zA_ne, zB_ne, zR_ne, zN_ne, bi_T, bi_F, nz16, ↓reduceIte, not_true_eq_false, not_false_eq_true, Bool.false_eq_true, reduceCtorEq, h44]
      exact j0
    · have j0 := J38 i (by rw [if_neg hi0])
      simp (disch := omega) only [l0, l1, l2, l3, l4, l5, l6, l7, l8, l9, l10, l11, l12, l16, l18, l19, l20, l21, l24, l96, l128, l100, l144, l200, l256, l288, l1536, l1728, l1800, bnd, nI_add, pk_mul, pI_sub, pI_m1, pT_le, pF_le, pT_lt, pF_lt, pT_eq, pF_eq, pF_m1, mF_eq, mT_eq, mT_lt, mF_le, lm1, rd_nI, wr_nI, cl_nI, pk_us, un_ne, pk_uLs, uL_ne, zI_uI, zI_uJ, zI_uA, zI_uB, zI_uR, zI_uN, zJ_uI, zJ_uJ, zJ_uA, zJ_uB, zJ_uR, zJ_uN, zA_uI, zA_uJ, zA_uA, zA_uB, zA_uR, zA_uN, zB_uI, zB_uJ, zB_uA, zB_uB, zB_uR, zB_uN, zR_uI, zR_uJ, zR_uA, zR_uB, zR_uR, zR_uN, zN_uI, zN_uJ, zN_uA, zN_uB, zN_uR, zN_uN, zI_ne, zJ_ne, zA_ne, zB_ne, zR_ne, zN_ne, bi_T, bi_F, nz16, ↓reduceIte, not_true_eq_false, not_false_eq_true, Bool.false_eq_true, reduceCtorEq, h44]
      exact j0
theorem m_far {σ : St} {g : Gh} (hg : okG g) (hj : JM σ g) {s o : Nat} (h : vd g s = true) (ho : vd g o = true) : ∃ τ, fX12_farOf σ (nI s) (nI o) = some (nI (dg g s o), τ) ∧ SE σ τ := by
  obtain ⟨f1, f2, e, h1, h2⟩ := m_layTexts hg hj h ho
  have hA := lnA_len hg h
  have hB := lnB_len hg h ho
  have a32 := lnA_lt hg h
  have b32 := lnB_lt (s := s) hg ho
  unfold fX12_farOf
  rw [e, Option.bind_some]
  generalize hτ : mo (mo σ 70 43 f1 (lnA g s).length) 71 44 f2 (lnB g s o).length = τ
  have se1 : SE σ τ := by
    rw [← hτ]
    exact ((SE.uA (by decide)).tr (SE.uI (by decide))).tr ((SE.uA (by decide)).tr (SE.uI (by decide)))
  have h70 : holM (zA τ 70) (lnA g s) := by rw [← hτ]; exact h1
  have h71 : holM (zA τ 71) (lnB g s o) := by rw [← hτ]; exact h2
  have h43 : zI τ 43 = nI (lnA g s).length := by rw [← hτ]; rfl
  have h44 : zI τ 44 = nI (lnB g s o).length := by rw [← hτ]; rfl
  have key := it_for (β := Nat → Int32) (body := fun (kb : (St × Int32) → Option (Int32 × St)) (t : St × Int32) => fX12_farOf_L8 (fun s20 => (rd (zA s20 72) 441 (((21 : Int32) * (zI s20 43)) + (zI s20 44))).bind fun x21 => some (x21, s20)) (fun σ v3 => kb (σ, v3)) t.1 t.2) ((lnA g s).length + 1) (by omega) (fun i f => (uA τ 72 f, nI i)) (fun i f => ∀ p j, p < i → j ≤ (lnB g s o).length → f (21 * p + j) = nI (lev (gl (lnA g s)) (gl (lnB g s o)) p j)) (fun _ _ r => ∃ υ, r = some (nI (dg g s o), υ) ∧ SE σ υ) ?_ 0 (zA τ 72) (Nat.zero_le _) (fun p j hp => absurd hp (Nat.not_lt_zero _))
  · have e1 : uA τ 72 (zA τ 72) = τ := uA_self τ 72
    simp only [e1] at key
    exact key
  · intro i f hi hf kb hkb
    show ∃ υ, fX12_farOf_L8 _ _ (uA τ 72 f) (nI i) = _ ∧ _
    unfold fX12_farOf_L8
    by_cases hin : i = (lnA g s).length + 1
    · have r := hf (lnA g s).length (lnB g s o).length (by omega) (Nat.le_refl _)
      refine ⟨uA τ 72 f, ?_, se1.tr (SE.uA (by decide))⟩
      simp (disch := omega) only [l0, l1, l2, l3, l4, l5, l6, l7, l8, l9, l10, l11, l12, l16, l18, l19, l20, l21, l24, l96, l128, l100, l144, l200, l256, l288, l1536, l1728, l1800, bnd, nI_add, pk_mul, pI_sub, pI_m1, pT_le, pF_le, pT_lt, pF_lt, pT_eq, pF_eq, pF_m1, mF_eq, mT_eq, mT_lt, mF_le, lm1, rd_nI, wr_nI, cl_nI, pk_us, un_ne, pk_uLs, uL_ne, zI_uI, zI_uJ, zI_uA, zI_uB, zI_uR, zI_uN, zJ_uI, zJ_uJ, zJ_uA, zJ_uB, zJ_uR, zJ_uN, zA_uI, zA_uJ, zA_uA, zA_uB, zA_uR, zA_uN, zB_uI, zB_uJ, zB_uA, zB_uB, zB_uR, zB_uN, zR_uI, zR_uJ, zR_uA, zR_uB, zR_uR, zR_uN, zN_uI, zN_uJ, zN_uA, zN_uB, zN_uR, zN_uN, zI_ne, zJ_ne, zA_ne, zB_ne, zR_ne, zN_ne, bi_T, bi_F, nz16, ↓reduceIte, not_true_eq_false, not_false_eq_true, Bool.false_eq_true, reduceCtorEq, h43, h44, r]
      rfl
    · obtain ⟨f3, e3, hf3⟩ := m_inner τ (lnA g s) (lnB g s o) hA hB h70 h71 h44 a32 b32 i (by omega) (fun s19 => kb (s19, nI (i + 1))) f hf
      obtain ⟨υ, e4, se4⟩ := hkb f3 (by omega) hf3
      refine ⟨υ, ?_, se4⟩
      simp (disch := omega) only [l0, l1, l2, l3, l4, l5, l6, l7, l8, l9, l10, l11, l12, l16, l18, l19, l20, l21, l24, l96, l128, l100, l144, l200, l256, l288, l1536, l1728, l1800, bnd, nI_add, pk_mul, pI_sub, pI_m1, pT_le, pF_le, pT_lt, pF_lt, pT_eq, pF_eq, pF_m1, mF_eq, mT_eq, mT_lt, mF_le, lm1, rd_nI, wr_nI, cl_nI, pk_us, un_ne, pk_uLs, uL_ne, zI_uI, zI_uJ, zI_uA, zI_uB, zI_uR, zI_uN, zJ_uI, zJ_uJ, zJ_uA, zJ_uB, zJ_uR, zJ_uN, zA_uI, zA_uJ, zA_uA, zA_uB, zA_uR, zA_uN, zB_uI, zB_uJ, zB_uA, zB_uB, zB_uR, zB_uN, zR_uI, zR_uJ, zR_uA, zR_uB, zR_uR, zR_uN, zN_uI, zN_uJ, zN_uA, zN_uB, zN_uR, zN_uN, zI_ne, zJ_ne, zA_ne, zB_ne, zR_ne, zN_ne, bi_T, bi_F, nz16, ↓reduceIte, not_true_eq_false, not_false_eq_true, Bool.false_eq_true, reduceCtorEq, h43, e3]
      exact e4
