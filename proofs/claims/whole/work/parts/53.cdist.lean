/-! the class: how far a cue is from a speech -/
def lnF (acc w : List Nat) : List Nat := if acc = [] then w else acc ++ 0 :: w
def ln (ws : List Wd) : List Nat := ws.foldl lnF []
def hol (f : Nat → Int32) (a : List Nat) : Prop := ∀ j, j < a.length → f j = nI (a.getD j 0)
theorem hol_nil (f : Nat → Int32) : hol f [] := fun _ h => absurd h (Nat.not_lt_zero _)
theorem getD_snoc_lt {a : List Nat} {c j : Nat} (h : j < a.length) : (a ++ [c]).getD j 0 = a.getD j 0 := by
  rw [List.getD_eq_getElem?_getD, List.getD_eq_getElem?_getD, List.getElem?_append_left h]
theorem getD_snoc_eq {a : List Nat} {c : Nat} : (a ++ [c]).getD a.length 0 = c := by
  rw [List.getD_eq_getElem?_getD, List.getElem?_append_right (Nat.le_refl _), Nat.sub_self]
  rfl
theorem hol_snoc {f : Nat → Int32} {a : List Nat} {c : Nat} {x : Int32} (h : hol f a) (hx : x = nI c) : hol (upd f a.length x) (a ++ [c]) := by
  intro j hj
  rw [List.length_append, List.length_singleton] at hj
  by_cases e : j = a.length
  · subst e
    rw [pk_us, getD_snoc_eq, hx]
  · rw [pk_un e, getD_snoc_lt (by omega)]
    exact h j (by omega)
theorem uA_uA (σ : St) (q : Nat) (f f' : Nat → Int32) : uA (uA σ q f) q f' = uA σ q f' := by
  unfold uA
  rw [bx_uu]
theorem uA_self (σ : St) (q : Nat) : uA σ q (zA σ q) = σ := by
  unfold uA zA
  have : va_up σ.2.2.1 q (σ.2.2.1 q) = σ.2.2.1 := by
    funext j
    unfold va_up
    split
    · rename_i e; rw [e]
    · rfl
  rw [this]
theorem uB_uB (σ : St) (q : Nat) (f f' : Nat → Int64) : uB (uB σ q f) q f' = uB σ q f' := by
  unfold uB
  rw [bx_uu]
theorem uI_uI (σ : St) (q : Nat) (f f' : Int32) : uI (uI σ q f) q f' = uI σ q f' := by
  unfold uI
  rw [bx_uu]
/-- the letters of a word behind what a line holds -/
theorem c_lay30 {w : Wd} (hw : okW w) (σ : St) (a : List Nat) (ha : hol (zA σ 30) a) (hl : a.length + w.length ≤ 18) : ∃ f, fX0_laid_30_J21 σ (lN (enc w)) (nI a.length) = some (nI (a ++ w).length, uA σ 30 f) ∧ hol f (a ++ w) := by
  have hL := okL_of hw
  have h1 := hw.1
  have h2 := hw.2.1
  unfold fX0_laid_30_J21
  rw [c_letters hL]
  simp (disch := omega) only [l0, l1, l2, l3, l4, l5, l6, l7, l8, l9, l10, l11, l12, l16, l18, l19, l20, l21, l24, l96, l128, l100, l144, l200, l256, l288, l1536, l1728, l1800, bnd, nI_add, pk_mul, pI_sub, pI_m1, pT_le, pF_le, pT_lt, pF_lt, pT_eq, pF_eq, pF_m1, mF_eq, mT_eq, mT_lt, mF_le, lm1, rd_nI, wr_nI, cl_nI, pk_us, un_ne, pk_uLs, uL_ne, zI_uI, zI_uJ, zI_uA, zI_uB, zI_uR, zI_uN, zJ_uI, zJ_uJ, zJ_uA, zJ_uB, zJ_uR, zJ_uN, zA_uI, zA_uJ, zA_uA, zA_uB, zA_uR, zA_uN, zB_uI, zB_uJ, zB_uA, zB_uB, zB_uR, zB_uN, zR_uI, zR_uJ, zR_uA, zR_uB, zR_uR, zR_uN, zN_uI, zN_uJ, zN_uA, zN_uB, zN_uR, zN_uN, zI_ne, zJ_ne, zA_ne, zB_ne, zR_ne, zN_ne, bi_T, bi_F, nz16, ↓reduceIte, not_true_eq_false, not_false_eq_true, Bool.false_eq_true, reduceCtorEq]
  have key := it_down (β := List Nat × (Nat → Int32)) (body := fun (kb : (St × Int32 × Int32) → Option (Int32 × St)) (t : St × Int32 × Int32) => fX0_laid_30_L29 (lN (enc w)) (fun σ v4 v5 => kb (σ, v4, v5)) t.1 t.2.1 t.2.2) (fun k b => (uA σ 30 b.2, nI b.1.length, nI k + (-1))) (fun k b => k ≤ w.length ∧ b.1 = a ++ w.take (w.length - k) ∧ hol b.2 b.1) (fun _ _ r => ∃ f, r = some (nI (a ++ w).length, uA σ 30 f) ∧ hol f (a ++ w)) ?_ ?_ w.length (by omega) (a, zA σ 30) ⟨Nat.le_refl _, by simp, ha⟩
  · have e1 : uA σ 30 (zA σ 30) = σ := uA_self σ 30
    have e2 : nI w.length + (-1) = nI (w.length - 1) := (pI_m1 h1)
    have key2 := key
    simp only [e1, e2] at key2
    exact key2
  · rintro ⟨b, f⟩ ⟨-, hb, hf⟩ kb
    have hb2 : b = a ++ w := Eq.trans hb (by simp)
    subst hb2
    refine ⟨f, ?_, hf⟩
    show fX0_laid_30_L29 _ _ (uA σ 30 f) (nI (a ++ w).length) (nI 0 + (-1)) = _
    unfold fX0_laid_30_L29
    rw [if_pos (by decide)]
  · rintro k ⟨b, f⟩ ⟨hk, hb, hf⟩ kb hkb
    have hbl : b.length = a.length + (w.length - (k + 1)) := by
      rw [show b = _ from hb, List.length_append, List.length_take]
      omega
    have hc := c_letter hL (b := k) (by omega)
    have hlt : w.length - 1 - k < w.length := by omega
    have hn : b ++ [w.getD (w.length - 1 - k) 0] = a ++ w.take (w.length - k) := by
      rw [show b = _ from hb, show w.length - k = (w.length - (k + 1)) + 1 by omega, List.take_succ_eq_append_getElem (by omega), List.append_assoc]
      congr 2
      rw [List.getD_eq_getElem?_getD, show w.length - 1 - k = w.length - (k + 1) by omega, List.getElem?_eq_getElem (by omega)]
      rfl
    have hk2 := hkb (b ++ [w.getD (w.length - 1 - k) 0], upd f b.length (nI (w.getD (w.length - 1 - k) 0))) ⟨by omega, hn, hol_snoc hf rfl⟩
    show ∃ f', fX0_laid_30_L29 _ _ (uA σ 30 f) (nI b.length) (nI (k + 1) + (-1)) = _ ∧ _
    unfold fX0_laid_30_L29
    rw [pk_m1]
    have e1 : (nI k : Int32) + (-1) = nI k + (-1) := rfl
    have hb18 : b.length < 18 := by omega
    have hkk : k < 100 := by omega
    have hlit : (nI k < 0) = False := neg_nI (by omega)
    have hlit2 : (nI b.length < 0) = False := neg_nI (by omega)
    have hlit3 : ((18 : Int32) ≤ nI b.length) = False := pF_le (b := b.length) (a := 18) (by omega) (by omega)
    simp only [hlit, hlit2, hlit3, if_false, hc, Option.bind_some, l1, nI_add, wr_nI hb18 (by omega), zA_uA, cl_nI (show b.length < 2147483648 by omega), uA_uA]
    rw [List.length_append, List.length_singleton] at hk2
    exact hk2
theorem c_laid30 {w : Wd} (hw : okW w) (σ : St) (a : List Nat) (ha : hol (zA σ 30) a) (hl : (lnF a w).length ≤ 18) : ∃ f, fX0_laid_30 σ (nI a.length) (lN (enc w)) = some (nI (lnF a w).length, uA σ 30 f) ∧ hol f (lnF a w) := by
  have h1 := hw.1
  unfold fX0_laid_30
  unfold lnF at hl ⊢
  by_cases h0 : a = []
  · rw [if_pos h0] at hl
    rw [if_pos h0]
    subst h0
    obtain ⟨f, e, k⟩ := c_lay30 hw σ [] ha (by simpa using hl)
    refine ⟨f, ?_, k⟩
    have c : ((nI ([] : List Nat).length) ≤ 0) = True := eq_true (by decide)
    simp only [c, if_true]
    exact e
  · rw [if_neg h0] at hl
    rw [if_neg h0]
    have hp : 0 < a.length := List.length_pos_iff.mpr h0
    have hl2 := hl
    rw [List.length_append, List.length_cons] at hl2
    have hs := hol_snoc (c := 0) ha rfl
    obtain ⟨f, e, k⟩ := c_lay30 hw (uA σ 30 (upd (zA σ 30) a.length (nI 0))) (a ++ [0]) (by rw [zA_uA]; exact hs) (by rw [List.length_append, List.length_singleton]; omega)
    rw [List.append_assoc, List.singleton_append] at e k
    rw [uA_uA] at e
    rw [List.length_append, List.length_singleton] at e
    refine ⟨f, ?_, k⟩
    simp (disch := omega) only [l0, l1, l2, l3, l4, l5, l6, l7, l8, l9, l10, l11, l12, l16, l18, l19, l20, l21, l24, l96, l128, l100, l144, l200, l256, l288, l1536, l1728, l1800, bnd, nI_add, pk_mul, pI_sub, pI_m1, pT_le, pF_le, pT_lt, pF_lt, pT_eq, pF_eq, pF_m1, mF_eq, mT_eq, mT_lt, mF_le, lm1, rd_nI, wr_nI, cl_nI, pk_us, un_ne, pk_uLs, uL_ne, zI_uI, zI_uJ, zI_uA, zI_uB, zI_uR, zI_uN, zJ_uI, zJ_uJ, zJ_uA, zJ_uB, zJ_uR, zJ_uN, zA_uI, zA_uJ, zA_uA, zA_uB, zA_uR, zA_uN, zB_uI, zB_uJ, zB_uA, zB_uB, zB_uR, zB_uN, zR_uI, zR_uJ, zR_uA, zR_uB, zR_uR, zR_uN, zN_uI, zN_uJ, zN_uA, zN_uB, zN_uR, zN_uN, zI_ne, zJ_ne, zA_ne, zB_ne, zR_ne, zN_ne, bi_T, bi_F, nz16, ↓reduceIte, not_true_eq_false, not_false_eq_true, Bool.false_eq_true, reduceCtorEq]
    exact e
/-- the letters of a word behind what a line holds -/
theorem c_lay31 {w : Wd} (hw : okW w) (σ : St) (a : List Nat) (ha : hol (zA σ 31) a) (hl : a.length + w.length ≤ 18) : ∃ f, fX0_laid_31_J21 σ (lN (enc w)) (nI a.length) = some (nI (a ++ w).length, uA σ 31 f) ∧ hol f (a ++ w) := by
  have hL := okL_of hw
  have h1 := hw.1
  have h2 := hw.2.1
  unfold fX0_laid_31_J21
  rw [c_letters hL]
  simp (disch := omega) only [l0, l1, l2, l3, l4, l5, l6, l7, l8, l9, l10, l11, l12, l16, l18, l19, l20, l21, l24, l96, l128, l100, l144, l200, l256, l288, l1536, l1728, l1800, bnd, nI_add, pk_mul, pI_sub, pI_m1, pT_le, pF_le, pT_lt, pF_lt, pT_eq, pF_eq, pF_m1, mF_eq, mT_eq, mT_lt, mF_le, lm1, rd_nI, wr_nI, cl_nI, pk_us, un_ne, pk_uLs, uL_ne, zI_uI, zI_uJ, zI_uA, zI_uB, zI_uR, zI_uN, zJ_uI, zJ_uJ, zJ_uA, zJ_uB, zJ_uR, zJ_uN, zA_uI, zA_uJ, zA_uA, zA_uB, zA_uR, zA_uN, zB_uI, zB_uJ, zB_uA, zB_uB, zB_uR, zB_uN, zR_uI, zR_uJ, zR_uA, zR_uB, zR_uR, zR_uN, zN_uI, zN_uJ, zN_uA, zN_uB, zN_uR, zN_uN, zI_ne, zJ_ne, zA_ne, zB_ne, zR_ne, zN_ne, bi_T, bi_F, nz16, ↓reduceIte, not_true_eq_false, not_false_eq_true, Bool.false_eq_true, reduceCtorEq]
  have key := it_down (β := List Nat × (Nat → Int32)) (body := fun (kb : (St × Int32 × Int32) → Option (Int32 × St)) (t : St × Int32 × Int32) => fX0_laid_31_L29 (lN (enc w)) (fun σ v4 v5 => kb (σ, v4, v5)) t.1 t.2.1 t.2.2) (fun k b => (uA σ 31 b.2, nI b.1.length, nI k + (-1))) (fun k b => k ≤ w.length ∧ b.1 = a ++ w.take (w.length - k) ∧ hol b.2 b.1) (fun _ _ r => ∃ f, r = some (nI (a ++ w).length, uA σ 31 f) ∧ hol f (a ++ w)) ?_ ?_ w.length (by omega) (a, zA σ 31) ⟨Nat.le_refl _, by simp, ha⟩
  · have e1 : uA σ 31 (zA σ 31) = σ := uA_self σ 31
    have e2 : nI w.length + (-1) = nI (w.length - 1) := (pI_m1 h1)
    have key2 := key
    simp only [e1, e2] at key2
    exact key2
  · rintro ⟨b, f⟩ ⟨-, hb, hf⟩ kb
    have hb2 : b = a ++ w := Eq.trans hb (by simp)
    subst hb2
    refine ⟨f, ?_, hf⟩
    show fX0_laid_31_L29 _ _ (uA σ 31 f) (nI (a ++ w).length) (nI 0 + (-1)) = _
    unfold fX0_laid_31_L29
    rw [if_pos (by decide)]
  · rintro k ⟨b, f⟩ ⟨hk, hb, hf⟩ kb hkb
    have hbl : b.length = a.length + (w.length - (k + 1)) := by
      rw [show b = _ from hb, List.length_append, List.length_take]
      omega
    have hc := c_letter hL (b := k) (by omega)
    have hlt : w.length - 1 - k < w.length := by omega
    have hn : b ++ [w.getD (w.length - 1 - k) 0] = a ++ w.take (w.length - k) := by
      rw [show b = _ from hb, show w.length - k = (w.length - (k + 1)) + 1 by omega, List.take_succ_eq_append_getElem (by omega), List.append_assoc]
      congr 2
      rw [List.getD_eq_getElem?_getD, show w.length - 1 - k = w.length - (k + 1) by omega, List.getElem?_eq_getElem (by omega)]
      rfl
    have hk2 := hkb (b ++ [w.getD (w.length - 1 - k) 0], upd f b.length (nI (w.getD (w.length - 1 - k) 0))) ⟨by omega, hn, hol_snoc hf rfl⟩
    show ∃ f', fX0_laid_31_L29 _ _ (uA σ 31 f) (nI b.length) (nI (k + 1) + (-1)) = _ ∧ _
    unfold fX0_laid_31_L29
    rw [pk_m1]
    have e1 : (nI k : Int32) + (-1) = nI k + (-1) := rfl
    have hb18 : b.length < 18 := by omega
    have hkk : k < 100 := by omega
    have hlit : (nI k < 0) = False := neg_nI (by omega)
    have hlit2 : (nI b.length < 0) = False := neg_nI (by omega)
    have hlit3 : ((18 : Int32) ≤ nI b.length) = False := pF_le (b := b.length) (a := 18) (by omega) (by omega)
    simp only [hlit, hlit2, hlit3, if_false, hc, Option.bind_some, l1, nI_add, wr_nI hb18 (by omega), zA_uA, cl_nI (show b.length < 2147483648 by omega), uA_uA]
    rw [List.length_append, List.length_singleton] at hk2
    exact hk2
theorem c_laid31 {w : Wd} (hw : okW w) (σ : St) (a : List Nat) (ha : hol (zA σ 31) a) (hl : (lnF a w).length ≤ 18) : ∃ f, fX0_laid_31 σ (nI a.length) (lN (enc w)) = some (nI (lnF a w).length, uA σ 31 f) ∧ hol f (lnF a w) := by
  have h1 := hw.1
  unfold fX0_laid_31
  unfold lnF at hl ⊢
  by_cases h0 : a = []
  · rw [if_pos h0] at hl
    rw [if_pos h0]
    subst h0
    obtain ⟨f, e, k⟩ := c_lay31 hw σ [] ha (by simpa using hl)
    refine ⟨f, ?_, k⟩
    have c : ((nI ([] : List Nat).length) ≤ 0) = True := eq_true (by decide)
    simp only [c, if_true]
    exact e
  · rw [if_neg h0] at hl
    rw [if_neg h0]
    have hp : 0 < a.length := List.length_pos_iff.mpr h0
    have hl2 := hl
    rw [List.length_append, List.length_cons] at hl2
    have hs := hol_snoc (c := 0) ha rfl
    obtain ⟨f, e, k⟩ := c_lay31 hw (uA σ 31 (upd (zA σ 31) a.length (nI 0))) (a ++ [0]) (by rw [zA_uA]; exact hs) (by rw [List.length_append, List.length_singleton]; omega)
    rw [List.append_assoc, List.singleton_append] at e k
    rw [uA_uA] at e
    rw [List.length_append, List.length_singleton] at e
    refine ⟨f, ?_, k⟩
    simp (disch := omega) only [l0, l1, l2, l3, l4, l5, l6, l7, l8, l9, l10, l11, l12, l16, l18, l19, l20, l21, l24, l96, l128, l100, l144, l200, l256, l288, l1536, l1728, l1800, bnd, nI_add, pk_mul, pI_sub, pI_m1, pT_le, pF_le, pT_lt, pF_lt, pT_eq, pF_eq, pF_m1, mF_eq, mT_eq, mT_lt, mF_le, lm1, rd_nI, wr_nI, cl_nI, pk_us, un_ne, pk_uLs, uL_ne, zI_uI, zI_uJ, zI_uA, zI_uB, zI_uR, zI_uN, zJ_uI, zJ_uJ, zJ_uA, zJ_uB, zJ_uR, zJ_uN, zA_uI, zA_uJ, zA_uA, zA_uB, zA_uR, zA_uN, zB_uI, zB_uJ, zB_uA, zB_uB, zB_uR, zB_uN, zR_uI, zR_uJ, zR_uA, zR_uB, zR_uR, zR_uN, zN_uI, zN_uJ, zN_uA, zN_uB, zN_uR, zN_uN, zI_ne, zJ_ne, zA_ne, zB_ne, zR_ne, zN_ne, bi_T, bi_F, nz16, ↓reduceIte, not_true_eq_false, not_false_eq_true, Bool.false_eq_true, reduceCtorEq]
    exact e
theorem jmin {a b : Nat} (ha : a < 2147483648) (hb : b < 2147483648) : fJ9_min_7cf53 (nI a) (nI b) = some (nI (min a b)) := by
  unfold fJ9_min_7cf53
  by_cases h : b < a
  · simp (disch := omega) only [l0, l1, l2, l3, l4, l5, l6, l7, l8, l9, l10, l11, l12, l16, l18, l19, l20, l21, l24, l96, l128, l100, l144, l200, l256, l288, l1536, l1728, l1800, bnd, nI_add, pk_mul, pI_sub, pI_m1, pT_le, pF_le, pT_lt, pF_lt, pT_eq, pF_eq, pF_m1, mF_eq, mT_eq, mT_lt, mF_le, lm1, rd_nI, wr_nI, cl_nI, pk_us, un_ne, pk_uLs, uL_ne, zI_uI, zI_uJ, zI_uA, zI_uB, zI_uR, zI_uN, zJ_uI, zJ_uJ, zJ_uA, zJ_uB, zJ_uR, zJ_uN, zA_uI, zA_uJ, zA_uA, zA_uB, zA_uR, zA_uN, zB_uI, zB_uJ, zB_uA, zB_uB, zB_uR, zB_uN, zR_uI, zR_uJ, zR_uA, zR_uB, zR_uR, zR_uN, zN_uI, zN_uJ, zN_uA, zN_uB, zN_uR, zN_uN, zI_ne, zJ_ne, zA_ne, zB_ne, zR_ne, zN_ne, bi_T, bi_F, nz16, ↓reduceIte, not_true_eq_false, not_false_eq_true, Bool.false_eq_true, reduceCtorEq]
    rw [Nat.min_eq_right (by omega)]
  · simp (disch := omega) only [l0, l1, l2, l3, l4, l5, l6, l7, l8, l9, l10, l11, l12, l16, l18, l19, l20, l21, l24, l96, l128, l100, l144, l200, l256, l288, l1536, l1728, l1800, bnd, nI_add, pk_mul, pI_sub, pI_m1, pT_le, pF_le, pT_lt, pF_lt, pT_eq, pF_eq, pF_m1, mF_eq, mT_eq, mT_lt, mF_le, lm1, rd_nI, wr_nI, cl_nI, pk_us, un_ne, pk_uLs, uL_ne, zI_uI, zI_uJ, zI_uA, zI_uB, zI_uR, zI_uN, zJ_uI, zJ_uJ, zJ_uA, zJ_uB, zJ_uR, zJ_uN, zA_uI, zA_uJ, zA_uA, zA_uB, zA_uR, zA_uN, zB_uI, zB_uJ, zB_uA, zB_uB, zB_uR, zB_uN, zR_uI, zR_uJ, zR_uA, zR_uB, zR_uR, zR_uN, zN_uI, zN_uJ, zN_uA, zN_uB, zN_uR, zN_uN, zI_ne, zJ_ne, zA_ne, zB_ne, zR_ne, zN_ne, bi_T, bi_F, nz16, ↓reduceIte, not_true_eq_false, not_false_eq_true, Bool.false_eq_true, reduceCtorEq]
    rw [Nat.min_eq_left (by omega)]
theorem jmax {a b : Nat} (ha : a < 2147483648) (hb : b < 2147483648) : fJ9_max_7cf53 (nI a) (nI b) = some (nI (max a b)) := by
  unfold fJ9_max_7cf53
  by_cases h : a < b
  · simp (disch := omega) only [l0, l1, l2, l3, l4, l5, l6, l7, l8, l9, l10, l11, l12, l16, l18, l19, l20, l21, l24, l96, l128, l100, l144, l200, l256, l288, l1536, l1728, l1800, bnd, nI_add, pk_mul, pI_sub, pI_m1, pT_le, pF_le, pT_lt, pF_lt, pT_eq, pF_eq, pF_m1, mF_eq, mT_eq, mT_lt, mF_le, lm1, rd_nI, wr_nI, cl_nI, pk_us, un_ne, pk_uLs, uL_ne, zI_uI, zI_uJ, zI_uA, zI_uB, zI_uR, zI_uN, zJ_uI, zJ_uJ, zJ_uA, zJ_uB, zJ_uR, zJ_uN, zA_uI, zA_uJ, zA_uA, zA_uB, zA_uR, zA_uN, zB_uI, zB_uJ, zB_uA, zB_uB, zB_uR, zB_uN, zR_uI, zR_uJ, zR_uA, zR_uB, zR_uR, zR_uN, zN_uI, zN_uJ, zN_uA, zN_uB, zN_uR, zN_uN, zI_ne, zJ_ne, zA_ne, zB_ne, zR_ne, zN_ne, bi_T, bi_F, nz16, ↓reduceIte, not_true_eq_false, not_false_eq_true, Bool.false_eq_true, reduceCtorEq]
    rw [Nat.max_eq_right (by omega)]
  · simp (disch := omega) only [l0, l1, l2, l3, l4, l5, l6, l7, l8, l9, l10, l11, l12, l16, l18, l19, l20, l21, l24, l96, l128, l100, l144, l200, l256, l288, l1536, l1728, l1800, bnd, nI_add, pk_mul, pI_sub, pI_m1, pT_le, pF_le, pT_lt, pF_lt, pT_eq, pF_eq, pF_m1, mF_eq, mT_eq, mT_lt, mF_le, lm1, rd_nI, wr_nI, cl_nI, pk_us, un_ne, pk_uLs, uL_ne, zI_uI, zI_uJ, zI_uA, zI_uB, zI_uR, zI_uN, zJ_uI, zJ_uJ, zJ_uA, zJ_uB, zJ_uR, zJ_uN, zA_uI, zA_uJ, zA_uA, zA_uB, zA_uR, zA_uN, zB_uI, zB_uJ, zB_uA, zB_uB, zB_uR, zB_uN, zR_uI, zR_uJ, zR_uA, zR_uB, zR_uR, zR_uN, zN_uI, zN_uJ, zN_uA, zN_uB, zN_uR, zN_uN, zI_ne, zJ_ne, zA_ne, zB_ne, zR_ne, zN_ne, bi_T, bi_F, nz16, ↓reduceIte, not_true_eq_false, not_false_eq_true, Bool.false_eq_true, reduceCtorEq]
    rw [Nat.max_eq_left (by omega)]
def levS (p : Nat → Nat) (z : Nat) (c : Nat → Nat) : Nat → Nat
  | 0 => z
  | j + 1 => min (p j + c j) (1 + min (p (j + 1)) (levS p z c j))
def lev (a b : Nat → Nat) : Nat → Nat → Nat
  | 0 => fun j => j
  | i + 1 => levS (lev a b i) (i + 1) (fun j => if a i = b j then 0 else 1)
theorem lev_ss (a b : Nat → Nat) (i j : Nat) : lev a b (i + 1) (j + 1) = min (lev a b i j + if a i = b j then 0 else 1) (1 + min (lev a b i (j + 1)) (lev a b (i + 1) j)) := rfl
theorem lev_s0 (a b : Nat → Nat) (i : Nat) : lev a b (i + 1) 0 = i + 1 := rfl
theorem lev_0 (a b : Nat → Nat) (j : Nat) : lev a b 0 j = j := rfl
theorem lev_z (a b : Nat → Nat) : ∀ i, lev a b i 0 = i
  | 0 => rfl
  | _ + 1 => rfl
theorem lev_le (a b : Nat → Nat) : ∀ i j, lev a b i j ≤ i + j := by
  intro i
  induction i with
  | zero => intro j; rw [lev_0]; omega
  | succ i ih =>
    intro j
    induction j with
    | zero => rw [lev_s0]; omega
    | succ j ih2 =>
      rw [lev_ss]
      omega
def gl (l : List Nat) (i : Nat) : Nat := l.getD i 0
theorem c_costs (σ : St) (B : List Nat) (hB : B.length ≤ 18) (v : Int32) (k1 : St → Option (Int32 × St)) : ∃ f, fX0_changesBetween_P35 v (nI B.length) k1 σ (nI 0) = k1 (uA σ 32 f) ∧ ∀ j, j ≤ B.length → f j = nI j := by
  have h := it_for (β := Nat → Int32) (body := fun (kb : (St × Int32) → Option (Int32 × St)) (t : St × Int32) => fX0_changesBetween_L35 v (nI B.length) k1 (fun σ v3 => kb (σ, v3)) t.1 t.2) (B.length + 1) (by omega) (fun k f => (uA σ 32 f, nI k)) (fun k f => ∀ j, j < k → f j = nI j) (fun _ _ r => ∃ f, r = k1 (uA σ 32 f) ∧ ∀ j, j ≤ B.length → f j = nI j) ?_ 0 (zA σ 32) (Nat.zero_le _) (fun j h => absurd h (Nat.not_lt_zero _))
  · have e1 : uA σ 32 (zA σ 32) = σ := uA_self σ 32
    simp only [e1] at h
    exact h
  · intro k f hk hf kb hkb
    show ∃ f', fX0_changesBetween_L35 _ _ _ _ (uA σ 32 f) (nI k) = _ ∧ _
    unfold fX0_changesBetween_L35
    by_cases hkn : k = B.length + 1
    · subst hkn
      refine ⟨f, ?_, fun j hj => hf j (by omega)⟩
      simp (disch := omega) only [l0, l1, l2, l3, l4, l5, l6, l7, l8, l9, l10, l11, l12, l16, l18, l19, l20, l21, l24, l96, l128, l100, l144, l200, l256, l288, l1536, l1728, l1800, bnd, nI_add, pk_mul, pI_sub, pI_m1, pT_le, pF_le, pT_lt, pF_lt, pT_eq, pF_eq, pF_m1, mF_eq, mT_eq, mT_lt, mF_le, lm1, rd_nI, wr_nI, cl_nI, pk_us, un_ne, pk_uLs, uL_ne, zI_uI, zI_uJ, zI_uA, zI_uB, zI_uR, zI_uN, zJ_uI, zJ_uJ, zJ_uA, zJ_uB, zJ_uR, zJ_uN, zA_uI, zA_uJ, zA_uA, zA_uB, zA_uR, zA_uN, zB_uI, zB_uJ, zB_uA, zB_uB, zB_uR, zB_uN, zR_uI, zR_uJ, zR_uA, zR_uB, zR_uR, zR_uN, zN_uI, zN_uJ, zN_uA, zN_uB, zN_uR, zN_uN, zI_ne, zJ_ne, zA_ne, zB_ne, zR_ne, zN_ne, bi_T, bi_F, nz16, ↓reduceIte, not_true_eq_false, not_false_eq_true, Bool.false_eq_true, reduceCtorEq]
    · have := hkb (upd f k (nI k)) (by omega) (fun j hj => by
        by_cases e : j = k
        · subst e; rw [pk_us]
        · rw [pk_un e]; exact hf j (by omega))
      simp (disch := omega) only [l0, l1, l2, l3, l4, l5, l6, l7, l8, l9, l10, l11, l12, l16, l18, l19, l20, l21, l24, l96, l128, l100, l144, l200, l256, l288, l1536, l1728, l1800, bnd, nI_add, pk_mul, pI_sub, pI_m1, pT_le, pF_le, pT_lt, pF_lt, pT_eq, pF_eq, pF_m1, mF_eq, mT_eq, mT_lt, mF_le, lm1, rd_nI, wr_nI, cl_nI, pk_us, un_ne, pk_uLs, uL_ne, zI_uI, zI_uJ, zI_uA, zI_uB, zI_uR, zI_uN, zJ_uI, zJ_uJ, zJ_uA, zJ_uB, zJ_uR, zJ_uN, zA_uI, zA_uJ, zA_uA, zA_uB, zA_uR, zA_uN, zB_uI, zB_uJ, zB_uA, zB_uB, zB_uR, zB_uN, zR_uI, zR_uJ, zR_uA, zR_uB, zR_uR, zR_uN, zN_uI, zN_uJ, zN_uA, zN_uB, zN_uR, zN_uN, zI_ne, zJ_ne, zA_ne, zB_ne, zR_ne, zN_ne, bi_T, bi_F, nz16, ↓reduceIte, not_true_eq_false, not_false_eq_true, Bool.false_eq_true, reduceCtorEq, uA_uA]
      exact this
theorem c_inner (σ : St) (A B : List Nat) (hA : A.length ≤ 18) (hB : B.length ≤ 18) (h30 : hol (zA σ 30) A) (h31 : hol (zA σ 31) B) (a32 : ∀ j, gl A j < 32) (b32 : ∀ j, gl B j < 32) (v : Int32) (i : Nat) (hi : i < A.length) (k1 : St → Option (Int32 × St)) (f : Nat → Int32) (h0 : f 0 = nI (i + 1)) (hf : ∀ j, 0 < j → j ≤ B.length → f j = nI (lev (gl A) (gl B) i j)) : ∃ f', fX0_changesBetween_P80 v (nI B.length) (nI i) k1 (uA σ 32 f) (nI i) (nI 0) = k1 (uA σ 32 f') ∧ ∀ j, j ≤ B.length → f' j = nI (lev (gl A) (gl B) (i + 1) j) := by
  have key := it_for (β := Nat → Int32) (body := fun (kb : (St × Int32 × Int32) → Option (Int32 × St)) (t : St × Int32 × Int32) => fX0_changesBetween_L80 v (nI B.length) (nI i) k1 (fun σ v4 v5 => kb (σ, v4, v5)) t.1 t.2.1 t.2.2) B.length (by omega) (fun j f => (uA σ 32 f, nI (lev (gl A) (gl B) i j), nI j)) (fun j f => (∀ q, q ≤ j → f q = nI (lev (gl A) (gl B) (i + 1) q)) ∧ ∀ q, j < q → q ≤ B.length → f q = nI (lev (gl A) (gl B) i q)) (fun _ _ r => ∃ f', r = k1 (uA σ 32 f') ∧ ∀ j, j ≤ B.length → f' j = nI (lev (gl A) (gl B) (i + 1) j)) ?_ 0 f (Nat.zero_le _) ⟨fun q hq => by
    have e : q = 0 := by omega
    subst e
    rw [lev_s0]; exact h0, fun q h1 h2 => hf q h1 h2⟩
  · rw [lev_z] at key
    exact key
  · intro j f hj hI kb hkb
    show ∃ f', fX0_changesBetween_L80 _ _ _ _ _ (uA σ 32 f) (nI (lev (gl A) (gl B) i j)) (nI j) = _ ∧ _
    unfold fX0_changesBetween_L80
    by_cases hjn : j = B.length
    · subst hjn
      refine ⟨f, ?_, fun q hq => hI.1 q hq⟩
      simp (disch := omega) only [l0, l1, l2, l3, l4, l5, l6, l7, l8, l9, l10, l11, l12, l16, l18, l19, l20, l21, l24, l96, l128, l100, l144, l200, l256, l288, l1536, l1728, l1800, bnd, nI_add, pk_mul, pI_sub, pI_m1, pT_le, pF_le, pT_lt, pF_lt, pT_eq, pF_eq, pF_m1, mF_eq, mT_eq, mT_lt, mF_le, lm1, rd_nI, wr_nI, cl_nI, pk_us, un_ne, pk_uLs, uL_ne, zI_uI, zI_uJ, zI_uA, zI_uB, zI_uR, zI_uN, zJ_uI, zJ_uJ, zJ_uA, zJ_uB, zJ_uR, zJ_uN, zA_uI, zA_uJ, zA_uA, zA_uB, zA_uR, zA_uN, zB_uI, zB_uJ, zB_uA, zB_uB, zB_uR, zB_uN, zR_uI, zR_uJ, zR_uA, zR_uB, zR_uR, zR_uN, zN_uI, zN_uJ, zN_uA, zN_uB, zN_uR, zN_uN, zI_ne, zJ_ne, zA_ne, zB_ne, zR_ne, zN_ne, bi_T, bi_F, nz16, ↓reduceIte, not_true_eq_false, not_false_eq_true, Bool.false_eq_true, reduceCtorEq]
    · have b1 := lev_le (gl A) (gl B) i j
      have b2 := lev_le (gl A) (gl B) i (j + 1)
      have b3 := lev_le (gl A) (gl B) (i + 1) j
      have r1 := hI.1 j (Nat.le_refl _)
      have r2 := hI.2 (j + 1) (by omega) (by omega)
      have r3 : zA σ 30 i = nI (gl A i) := h30 i hi
      have r4 : zA σ 31 j = nI (gl B j) := h31 j (by omega)
      have step : ∀ c, c = (if gl A i = gl B j then 0 else 1) → ∃ f', kb (uA σ 32 (upd f (j + 1) (nI (min (lev (gl A) (gl B) i j + c) (1 + min (lev (gl A) (gl B) (i + 1) j) (lev (gl A) (gl B) i (j + 1)))))), nI (lev (gl A) (gl B) i (j + 1)), nI (j + 1)) = k1 (uA σ 32 f') ∧ ∀ j, j ≤ B.length → f' j = nI (lev (gl A) (gl B) (i + 1) j) := by
        intro c hc
        refine hkb _ (by omega) ⟨?_, ?_⟩
        · intro q hq
          by_cases e : q = j + 1
          · subst e
            rw [pk_us, lev_ss, hc, Nat.min_comm (lev (gl A) (gl B) (i + 1) j)]
          · rw [pk_un e]; exact hI.1 q (by omega)
        · intro q h1 h2
          rw [pk_un (by omega)]
          exact hI.2 q (by omega) h2
      have g1 := a32 i
      have g2 := b32 j
      by_cases e : gl A i = gl B j
      · have s0 := step 0 (by rw [if_pos e])
        have e2 : nI (gl A i) = nI (gl B j) := by rw [e]
        simp (disch := omega) only [l0, l1, l2, l3, l4, l5, l6, l7, l8, l9, l10, l11, l12, l16, l18, l19, l20, l21, l24, l96, l128, l100, l144, l200, l256, l288, l1536, l1728, l1800, bnd, nI_add, pk_mul, pI_sub, pI_m1, pT_le, pF_le, pT_lt, pF_lt, pT_eq, pF_eq, pF_m1, mF_eq, mT_eq, mT_lt, mF_le, lm1, rd_nI, wr_nI, cl_nI, pk_us, un_ne, pk_uLs, uL_ne, zI_uI, zI_uJ, zI_uA, zI_uB, zI_uR, zI_uN, zJ_uI, zJ_uJ, zJ_uA, zJ_uB, zJ_uR, zJ_uN, zA_uI, zA_uJ, zA_uA, zA_uB, zA_uR, zA_uN, zB_uI, zB_uJ, zB_uA, zB_uB, zB_uR, zB_uN, zR_uI, zR_uJ, zR_uA, zR_uB, zR_uR, zR_uN, zN_uI, zN_uJ, zN_uA, zN_uB, zN_uR, zN_uN, zI_ne, zJ_ne, zA_ne, zB_ne, zR_ne, zN_ne, bi_T, bi_F, nz16, ↓reduceIte, not_true_eq_false, not_false_eq_true, Bool.false_eq_true, reduceCtorEq, r1, r2, r3, r4, e2, jmin, uA_uA]
        exact s0
      · have s1 := step 1 (by rw [if_neg e])
        have e2 : (nI (gl A i) = nI (gl B j)) = False := pF_eq e (by omega) (by omega)
        simp (disch := omega) only [l0, l1, l2, l3, l4, l5, l6, l7, l8, l9, l10, l11, l12, l16, l18, l19, l20, l21, l24, l96, l128, l100, l144, l200, l256, l288, l1536, l1728, l1800, bnd, nI_add, pk_mul, pI_sub, pI_m1, pT_le, pF_le, pT_lt, pF_lt, pT_eq, pF_eq, pF_m1, mF_eq, mT_eq, mT_lt, mF_le, lm1, rd_nI, wr_nI, cl_nI, pk_us, un_ne, pk_uLs, uL_ne, zI_uI, zI_uJ, zI_uA, zI_uB, zI_uR, zI_uN, zJ_uI, zJ_uJ, zJ_uA, zJ_uB, zJ_uR, zJ_uN, zA_uI, zA_uJ, zA_uA, zA_uB, zA_uR, zA_uN, zB_uI, zB_uJ, zB_uA, zB_uB, zB_uR, zB_uN, zR_uI, zR_uJ, zR_uA, zR_uB, zR_uR, zR_uN, zN_uI, zN_uJ, zN_uA, zN_uB, zN_uR, zN_uN, zI_ne, zJ_ne, zA_ne, zB_ne, zR_ne, zN_ne, bi_T, bi_F, nz16, ↓reduceIte, not_true_eq_false, not_false_eq_true, Bool.false_eq_true, reduceCtorEq, r1, r2, r3, r4, e2, jmin, uA_uA]
        exact s1
theorem c_changes (σ : St) (A B : List Nat) (hA : A.length ≤ 18) (hB : B.length ≤ 18) (h30 : hol (zA σ 30) A) (h31 : hol (zA σ 31) B) (a32 : ∀ j, gl A j < 32) (b32 : ∀ j, gl B j < 32) : ∃ f, fX0_changesBetween σ (nI A.length) (nI B.length) = some (nI (lev (gl A) (gl B) A.length B.length), uA σ 32 f) := by
  unfold fX0_changesBetween
  simp (disch := omega) only [l0, l1, l2, l3, l4, l5, l6, l7, l8, l9, l10, l11, l12, l16, l18, l19, l20, l21, l24, l96, l128, l100, l144, l200, l256, l288, l1536, l1728, l1800, bnd, nI_add, pk_mul, pI_sub, pI_m1, pT_le, pF_le, pT_lt, pF_lt, pT_eq, pF_eq, pF_m1, mF_eq, mT_eq, mT_lt, mF_le, lm1, rd_nI, wr_nI, cl_nI, pk_us, un_ne, pk_uLs, uL_ne, zI_uI, zI_uJ, zI_uA, zI_uB, zI_uR, zI_uN, zJ_uI, zJ_uJ, zJ_uA, zJ_uB, zJ_uR, zJ_uN, zA_uI, zA_uJ, zA_uA, zA_uB, zA_uR, zA_uN, zB_uI, zB_uJ, zB_uA, zB_uB, zB_uR, zB_uN, zR_uI, zR_uJ, zR_uA, zR_uB, zR_uR, zR_uN, zN_uI, zN_uJ, zN_uA, zN_uB, zN_uR, zN_uN, zI_ne, zJ_ne, zA_ne, zB_ne, zR_ne, zN_ne, bi_T, bi_F, nz16, ↓reduceIte, not_true_eq_false, not_false_eq_true, Bool.false_eq_true, reduceCtorEq]
  obtain ⟨f, e, hf⟩ := c_costs σ B hB (nI A.length) (fun s2 => fX0_changesBetween_P55 (nI A.length) (nI B.length) s2 (nI 0))
  have key := it_for (β := Nat → Int32) (body := fun (kb : (St × Int32) → Option (Int32 × St)) (t : St × Int32) => fX0_changesBetween_L55 (nI A.length) (nI B.length) (fun σ v3 => kb (σ, v3)) t.1 t.2) A.length (by omega) (fun i f => (uA σ 32 f, nI i)) (fun i f => ∀ j, j ≤ B.length → f j = nI (lev (gl A) (gl B) i j)) (fun _ _ r => ∃ f, r = some (nI (lev (gl A) (gl B) A.length B.length), uA σ 32 f)) ?_ 0 f (Nat.zero_le _) hf
  · obtain ⟨f2, e2⟩ := key
    exact ⟨f2, e.trans e2⟩
  · intro i f hi hf kb hkb
    show ∃ f', fX0_changesBetween_L55 _ _ _ (uA σ 32 f) (nI i) = _
    unfold fX0_changesBetween_L55
    by_cases hin : i = A.length
    · subst hin
      have r := hf B.length (Nat.le_refl _)
      refine ⟨f, ?_⟩
      simp (disch := omega) only [l0, l1, l2, l3, l4, l5, l6, l7, l8, l9, l10, l11, l12, l16, l18, l19, l20, l21, l24, l96, l128, l100, l144, l200, l256, l288, l1536, l1728, l1800, bnd, nI_add, pk_mul, pI_sub, pI_m1, pT_le, pF_le, pT_lt, pF_lt, pT_eq, pF_eq, pF_m1, mF_eq, mT_eq, mT_lt, mF_le, lm1, rd_nI, wr_nI, cl_nI, pk_us, un_ne, pk_uLs, uL_ne, zI_uI, zI_uJ, zI_uA, zI_uB, zI_uR, zI_uN, zJ_uI, zJ_uJ, zJ_uA, zJ_uB, zJ_uR, zJ_uN, zA_uI, zA_uJ, zA_uA, zA_uB, zA_uR, zA_uN, zB_uI, zB_uJ, zB_uA, zB_uB, zB_uR, zB_uN, zR_uI, zR_uJ, zR_uA, zR_uB, zR_uR, zR_uN, zN_uI, zN_uJ, zN_uA, zN_uB, zN_uR, zN_uN, zI_ne, zJ_ne, zA_ne, zB_ne, zR_ne, zN_ne, bi_T, bi_F, nz16, ↓reduceIte, not_true_eq_false, not_false_eq_true, Bool.false_eq_true, reduceCtorEq, r]
    · have r := hf 0 (Nat.zero_le _)
      rw [lev_z] at r
      obtain ⟨f2, e2, hf2⟩ := c_inner σ A B hA hB h30 h31 a32 b32 (nI A.length) i (by omega) (fun s22 => kb (s22, nI (i + 1))) (upd f 0 (nI (i + 1))) pk_us (fun j h1 h2 => by rw [pk_un (by omega)]; exact hf j h2)
      obtain ⟨f3, e3⟩ := hkb f2 (by omega) hf2
      refine ⟨f3, ?_⟩
      simp (disch := omega) only [l0, l1, l2, l3, l4, l5, l6, l7, l8, l9, l10, l11, l12, l16, l18, l19, l20, l21, l24, l96, l128, l100, l144, l200, l256, l288, l1536, l1728, l1800, bnd, nI_add, pk_mul, pI_sub, pI_m1, pT_le, pF_le, pT_lt, pF_lt, pT_eq, pF_eq, pF_m1, mF_eq, mT_eq, mT_lt, mF_le, lm1, rd_nI, wr_nI, cl_nI, pk_us, un_ne, pk_uLs, uL_ne, zI_uI, zI_uJ, zI_uA, zI_uB, zI_uR, zI_uN, zJ_uI, zJ_uJ, zJ_uA, zJ_uB, zJ_uR, zJ_uN, zA_uI, zA_uJ, zA_uA, zA_uB, zA_uR, zA_uN, zB_uI, zB_uJ, zB_uA, zB_uB, zB_uR, zB_uN, zR_uI, zR_uJ, zR_uA, zR_uB, zR_uR, zR_uN, zN_uI, zN_uJ, zN_uA, zN_uB, zN_uR, zN_uN, zI_ne, zJ_ne, zA_ne, zB_ne, zR_ne, zN_ne, bi_T, bi_F, nz16, ↓reduceIte, not_true_eq_false, not_false_eq_true, Bool.false_eq_true, reduceCtorEq, r, uA_uA]
      exact e2.trans e3
theorem ln_take {ws : List Wd} {k : Nat} (h : k < ws.length) : ln (ws.take (k + 1)) = lnF (ln (ws.take k)) (ws.getD k []) := by
  unfold ln
  rw [List.take_succ_eq_append_getElem h, List.foldl_append, List.getD_eq_getElem?_getD, List.getElem?_eq_getElem h]
  rfl
theorem ln_len : ∀ {ws : List Wd}, ws.length ≤ 2 → (∀ w, w ∈ ws → w.length ≤ 8) → (ln ws).length ≤ 17
  | [], _, _ => by decide
  | [a], _, h => by
    have := h a (by simp)
    show (lnF [] a).length ≤ 17
    unfold lnF
    rw [if_pos rfl]; omega
  | [a, b], _, h => by
    have h1 := h a (by simp)
    have h2 := h b (by simp)
    show (lnF (lnF [] a) b).length ≤ 17
    unfold lnF
    rw [if_pos rfl]
    split
    · omega
    · rw [List.length_append, List.length_cons]; omega
  | a :: b :: c :: l, hl, _ => by simp at hl
theorem ln_mem {ws : List Wd} (h : ∀ w, w ∈ ws → ∀ c, c ∈ w → c < 32) : ∀ c, c ∈ ln ws → c < 32 := by
  have aux : ∀ (ws : List Wd) (acc : List Nat), (∀ w, w ∈ ws → ∀ c, c ∈ w → c < 32) → (∀ c, c ∈ acc → c < 32) → ∀ c, c ∈ ws.foldl lnF acc → c < 32 := by
    intro ws
    induction ws with
    | nil => intro acc _ h2; exact h2
    | cons w ws ih =>
      intro acc h1 h2
      refine ih (lnF acc w) (fun v hv => h1 v (List.mem_cons_of_mem _ hv)) ?_
      intro c hc
      unfold lnF at hc
      split at hc
      · exact h1 w List.mem_cons_self c hc
      · rw [List.mem_append, List.mem_cons] at hc
        rcases hc with hc | hc | hc
        · exact h2 c hc
        · omega
        · exact h1 w List.mem_cons_self c hc
  exact aux ws [] h (fun c hc => by cases hc)
theorem gl_lt {l : List Nat} (h : ∀ c, c ∈ l → c < 32) (i : Nat) : gl l i < 32 := by
  unfold gl
  by_cases hi : i < l.length
  · exact h _ (getD_mem hi)
  · rw [getD_oob (by omega)]; decide
/-- the two lines, and how far they are -/
def lnA (g : Gh) (s : Nat) : List Nat := ln (gC g s)
def lnB (g : Gh) (s o : Nat) : List Nat := ln ((gW g o).drop ((gW g o).length - (gC g s).length))
def dg (g : Gh) (s o : Nat) : Nat := lev (gl (lnA g s)) (gl (lnB g s o)) (lnA g s).length (lnB g s o).length
theorem lnA_len {g : Gh} (hg : okG g) {s : Nat} (h : vd g s = true) : (lnA g s).length ≤ 17 := ln_len (vd_ok hg h).1 (fun w hw => ((vd_ok hg h).2.2.2.1 w hw).2.1)
theorem lnB_len {g : Gh} (hg : okG g) {s o : Nat} (h : vd g s = true) (ho : vd g o = true) : (lnB g s o).length ≤ 17 := by
  have h1 := (vd_ok hg h).1
  exact ln_len (by rw [List.length_drop]; omega) (fun w hw => ((vd_ok hg ho).2.2.2.2 w (List.mem_of_mem_drop hw)).2.1)
theorem lnA_lt {g : Gh} (hg : okG g) {s : Nat} (h : vd g s = true) : ∀ i, gl (lnA g s) i < 32 := gl_lt (ln_mem (fun w hw => (okL_of ((vd_ok hg h).2.2.2.1 w hw)).l2))
theorem lnB_lt {g : Gh} (hg : okG g) {s o : Nat} (ho : vd g o = true) : ∀ i, gl (lnB g s o) i < 32 := gl_lt (ln_mem (fun w hw => (okL_of ((vd_ok hg ho).2.2.2.2 w (List.mem_of_mem_drop hw))).l2))
theorem dg_le {g : Gh} (hg : okG g) {s o : Nat} (h : vd g s = true) (ho : vd g o = true) : dg g s o ≤ 34 := by
  have h1 := lnA_len hg h
  have h2 := lnB_len hg h ho
  have h3 := lev_le (gl (lnA g s)) (gl (lnB g s o)) (lnA g s).length (lnB g s o).length
  unfold dg
  omega
theorem getD_drop {α : Type} (l : List α) (i j : Nat) (d : α) : (l.drop i).getD j d = l.getD (i + j) d := by
  rw [List.getD_eq_getElem?_getD, List.getD_eq_getElem?_getD, List.getElem?_drop]
theorem c_dist2 {σ : St} {g : Gh} (hg : okG g) (hj : JC σ g) {o d : Nat} (ho : vd g o = true) (hd : (gW g o).length - d ≤ 2) (hdl : d ≤ (gW g o).length) (v4 : Int32) (k1 : St → Int32 → Option (Int32 × St)) : ∃ f, fX0_distance_P71 (nI o) v4 (nI (gW g o).length) k1 σ (nI 0) (nI d) = k1 (uA σ 31 f) (nI (ln ((gW g o).drop d)).length) ∧ hol f (ln ((gW g o).drop d)) := by
  have hok := vd_ok hg ho
  have hw12 := hok.2.2.1
  have hlen : ∀ k, (ln (((gW g o).drop d).take k)).length ≤ 17 := fun k => ln_len (by rw [List.length_take, List.length_drop]; omega) (fun w hw => (hok.2.2.2.2 w (List.mem_of_mem_drop (List.mem_of_mem_take hw))).2.1)
  have key := it_for (β := Nat → Int32) (body := fun (kb : (St × Int32 × Int32) → Option (Int32 × St)) (t : St × Int32 × Int32) => fX0_distance_L71 (nI o) v4 (nI (gW g o).length) k1 (fun σ v5 v7 => kb (σ, v5, v7)) t.1 t.2.1 t.2.2) ((gW g o).length - d) (by omega) (fun k f => (uA σ 31 f, nI (ln (((gW g o).drop d).take k)).length, nI (d + k))) (fun k f => hol f (ln (((gW g o).drop d).take k))) (fun _ _ r => ∃ f, r = k1 (uA σ 31 f) (nI (ln ((gW g o).drop d)).length) ∧ hol f (ln ((gW g o).drop d))) ?_ 0 (zA σ 31) (Nat.zero_le _) (hol_nil _)
  · have e1 : uA σ 31 (zA σ 31) = σ := uA_self σ 31
    have e2 : (nI (ln (((gW g o).drop d).take 0)).length, nI (d + 0)) = (nI 0, nI d) := rfl
    simp only [e1] at key
    exact key
  · intro k f hk hf kb hkb
    show ∃ f', fX0_distance_L71 _ _ _ _ _ (uA σ 31 f) (nI (ln (((gW g o).drop d).take k)).length) (nI (d + k)) = _ ∧ _
    unfold fX0_distance_L71
    by_cases hkn : k = (gW g o).length - d
    · have e : ((gW g o).drop d).take k = (gW g o).drop d := List.take_of_length_le (by rw [List.length_drop]; omega)
      rw [e] at hf ⊢
      refine ⟨f, ?_, hf⟩
      simp (disch := omega) only [l0, l1, l2, l3, l4, l5, l6, l7, l8, l9, l10, l11, l12, l16, l18, l19, l20, l21, l24, l96, l128, l100, l144, l200, l256, l288, l1536, l1728, l1800, bnd, nI_add, pk_mul, pI_sub, pI_m1, pT_le, pF_le, pT_lt, pF_lt, pT_eq, pF_eq, pF_m1, mF_eq, mT_eq, mT_lt, mF_le, lm1, rd_nI, wr_nI, cl_nI, pk_us, un_ne, pk_uLs, uL_ne, zI_uI, zI_uJ, zI_uA, zI_uB, zI_uR, zI_uN, zJ_uI, zJ_uJ, zJ_uA, zJ_uB, zJ_uR, zJ_uN, zA_uI, zA_uJ, zA_uA, zA_uB, zA_uR, zA_uN, zB_uI, zB_uJ, zB_uA, zB_uB, zB_uR, zB_uN, zR_uI, zR_uJ, zR_uA, zR_uB, zR_uR, zR_uN, zN_uI, zN_uJ, zN_uA, zN_uB, zN_uR, zN_uN, zI_ne, zJ_ne, zA_ne, zB_ne, zR_ne, zN_ne, bi_T, bi_F, nz16, ↓reduceIte, not_true_eq_false, not_false_eq_true, Bool.false_eq_true, reduceCtorEq]
    · have hk3 : k < ((gW g o).drop d).length := by rw [List.length_drop]; omega
      have hw := c_word hg (hj.se (SE.uA (q := 31) (f := f) (by decide))) ho (k := d + k) (by omega)
      have hl17 := hlen (k + 1)
      rw [ln_take hk3, getD_drop] at hl17
      have hwk : okW ((gW g o).getD (d + k) []) := hok.2.2.2.2 _ (getD_mem (by omega))
      obtain ⟨f2, e2, hf2⟩ := c_laid31 hwk (uA σ 31 f) (ln (((gW g o).drop d).take k)) (by rw [zA_uA]; exact hf) (by omega)
      rw [uA_uA] at e2
      have := hkb f2 (by omega) (by rw [ln_take hk3, getD_drop]; exact hf2)
      rw [ln_take hk3, getD_drop] at this
      simp (disch := omega) only [l0, l1, l2, l3, l4, l5, l6, l7, l8, l9, l10, l11, l12, l16, l18, l19, l20, l21, l24, l96, l128, l100, l144, l200, l256, l288, l1536, l1728, l1800, bnd, nI_add, pk_mul, pI_sub, pI_m1, pT_le, pF_le, pT_lt, pF_lt, pT_eq, pF_eq, pF_m1, mF_eq, mT_eq, mT_lt, mF_le, lm1, rd_nI, wr_nI, cl_nI, pk_us, un_ne, pk_uLs, uL_ne, zI_uI, zI_uJ, zI_uA, zI_uB, zI_uR, zI_uN, zJ_uI, zJ_uJ, zJ_uA, zJ_uB, zJ_uR, zJ_uN, zA_uI, zA_uJ, zA_uA, zA_uB, zA_uR, zA_uN, zB_uI, zB_uJ, zB_uA, zB_uB, zB_uR, zB_uN, zR_uI, zR_uJ, zR_uA, zR_uB, zR_uR, zR_uN, zN_uI, zN_uJ, zN_uA, zN_uB, zN_uR, zN_uN, zI_ne, zJ_ne, zA_ne, zB_ne, zR_ne, zN_ne, bi_T, bi_F, nz16, ↓reduceIte, not_true_eq_false, not_false_eq_true, Bool.false_eq_true, reduceCtorEq, hw, e2]
      exact this
theorem c_dist1 {R : Option (Int32 × St) → Prop} {σ : St} {g : Gh} (hg : okG g) (hj : JC σ g) {s : Nat} (h : vd g s = true) (v2 : Int32) (k1 : St → Int32 → Option (Int32 × St)) (hR : ∀ f, hol f (lnA g s) → R (k1 (uA σ 30 f) (nI (lnA g s).length))) : R (fX0_distance_P15 (nI s) v2 (nI (gC g s).length) k1 σ (nI 0) (nI 0)) := by
  have hok := vd_ok hg h
  have hc2 := hok.1
  have hlen : ∀ k, (ln ((gC g s).take k)).length ≤ 17 := fun k => ln_len (by rw [List.length_take]; omega) (fun w hw => (hok.2.2.2.1 w (List.mem_of_mem_take hw)).2.1)
  have key := it_for (β := Nat → Int32) (body := fun (kb : (St × Int32 × Int32) → Option (Int32 × St)) (t : St × Int32 × Int32) => fX0_distance_L15 (nI s) v2 (nI (gC g s).length) k1 (fun σ v4 v5 => kb (σ, v4, v5)) t.1 t.2.1 t.2.2) (gC g s).length (by omega) (fun k f => (uA σ 30 f, nI (ln ((gC g s).take k)).length, nI k)) (fun k f => hol f (ln ((gC g s).take k))) (fun _ _ r => R r) ?_ 0 (zA σ 30) (Nat.zero_le _) (hol_nil _)
  · have e1 : uA σ 30 (zA σ 30) = σ := uA_self σ 30
    simp only [e1] at key
    exact key
  · intro k f hk hf kb hkb
    show R (fX0_distance_L15 _ _ _ _ _ (uA σ 30 f) (nI (ln ((gC g s).take k)).length) (nI k))
    unfold fX0_distance_L15
    by_cases hkn : k = (gC g s).length
    · have e : (gC g s).take k = gC g s := List.take_of_length_le (by omega)
      rw [e] at hf ⊢
      simp (disch := omega) only [l0, l1, l2, l3, l4, l5, l6, l7, l8, l9, l10, l11, l12, l16, l18, l19, l20, l21, l24, l96, l128, l100, l144, l200, l256, l288, l1536, l1728, l1800, bnd, nI_add, pk_mul, pI_sub, pI_m1, pT_le, pF_le, pT_lt, pF_lt, pT_eq, pF_eq, pF_m1, mF_eq, mT_eq, mT_lt, mF_le, lm1, rd_nI, wr_nI, cl_nI, pk_us, un_ne, pk_uLs, uL_ne, zI_uI, zI_uJ, zI_uA, zI_uB, zI_uR, zI_uN, zJ_uI, zJ_uJ, zJ_uA, zJ_uB, zJ_uR, zJ_uN, zA_uI, zA_uJ, zA_uA, zA_uB, zA_uR, zA_uN, zB_uI, zB_uJ, zB_uA, zB_uB, zB_uR, zB_uN, zR_uI, zR_uJ, zR_uA, zR_uB, zR_uR, zR_uN, zN_uI, zN_uJ, zN_uA, zN_uB, zN_uR, zN_uN, zI_ne, zJ_ne, zA_ne, zB_ne, zR_ne, zN_ne, bi_T, bi_F, nz16, ↓reduceIte, not_true_eq_false, not_false_eq_true, Bool.false_eq_true, reduceCtorEq]
      exact hR f hf
    · have hk3 : k < (gC g s).length := by omega
      have hw := c_cue hg (hj.se (SE.uA (q := 30) (f := f) (by decide))) h (k := k) hk3
      have hl17 := hlen (k + 1)
      rw [ln_take hk3] at hl17
      have hwk : okW ((gC g s).getD k []) := hok.2.2.2.1 _ (getD_mem (by omega))
      obtain ⟨f2, e2, hf2⟩ := c_laid30 hwk (uA σ 30 f) (ln ((gC g s).take k)) (by rw [zA_uA]; exact hf) (by omega)
      rw [uA_uA] at e2
      have := hkb f2 (by omega) (by rw [ln_take hk3]; exact hf2)
      rw [ln_take hk3] at this
      simp (disch := omega) only [l0, l1, l2, l3, l4, l5, l6, l7, l8, l9, l10, l11, l12, l16, l18, l19, l20, l21, l24, l96, l128, l100, l144, l200, l256, l288, l1536, l1728, l1800, bnd, nI_add, pk_mul, pI_sub, pI_m1, pT_le, pF_le, pT_lt, pF_lt, pT_eq, pF_eq, pF_m1, mF_eq, mT_eq, mT_lt, mF_le, lm1, rd_nI, wr_nI, cl_nI, pk_us, un_ne, pk_uLs, uL_ne, zI_uI, zI_uJ, zI_uA, zI_uB, zI_uR, zI_uN, zJ_uI, zJ_uJ, zJ_uA, zJ_uB, zJ_uR, zJ_uN, zA_uI, zA_uJ, zA_uA, zA_uB, zA_uR, zA_uN, zB_uI, zB_uJ, zB_uA, zB_uB, zB_uR, zB_uN, zR_uI, zR_uJ, zR_uA, zR_uB, zR_uR, zR_uN, zN_uI, zN_uJ, zN_uA, zN_uB, zN_uR, zN_uN, zI_ne, zJ_ne, zA_ne, zB_ne, zR_ne, zN_ne, bi_T, bi_F, nz16, ↓reduceIte, not_true_eq_false, not_false_eq_true, Bool.false_eq_true, reduceCtorEq, hw, e2]
      exact this
theorem c_dist {σ : St} {g : Gh} (hg : okG g) (hj : JC σ g) {s o : Nat} (h : vd g s = true) (ho : vd g o = true) : ∃ τ, fX0_distance σ (nI s) (nI o) = some (nI (dg g s o), τ) ∧ SE σ τ := by
  have hok := vd_ok hg h
  have hoo := vd_ok hg ho
  have hc2 := hok.1
  have hw12 := hoo.2.2.1
  unfold fX0_distance
  rw [c_cw hg hj h, Option.bind_some]
  refine c_dist1 (R := fun r => ∃ τ, r = some (nI (dg g s o), τ) ∧ SE σ τ) hg hj h _ _ (fun f hf => ?_)
  have hj2 := hj.se (SE.uA (q := 30) (f := f) (by decide))
  have hww := c_ww hg hj2 ho
  have hmx : fJ9_max_7cf53 (nI 0) (nI (gW g o).length - nI (gC g s).length) = some (nI ((gW g o).length - (gC g s).length)) := by
    by_cases hle : (gC g s).length ≤ (gW g o).length
    · rw [pI_sub hle, jmax (by omega) (by omega), Nat.max_eq_right (Nat.zero_le _)]
    · have hneg := pk_sneg (a := (gW g o).length) (b := (gC g s).length) (by omega) (by omega)
      unfold fJ9_max_7cf53
      rw [show (gW g o).length - (gC g s).length = 0 by omega, if_neg]
      intro x
      exact absurd (Int32.lt_trans x hneg) (by decide)
  obtain ⟨f2, e2, hf2⟩ := c_dist2 hg hj2 (d := (gW g o).length - (gC g s).length) ho (by omega) (by omega) (nI (lnA g s).length) (fun s10 x11 => (fX0_changesBetween s10 (nI (lnA g s).length) x11).bind fun r12 => some (r12.1, r12.2))
  have a17 : (lnA g s).length ≤ 17 := lnA_len hg h
  have b17 : (lnB g s o).length ≤ 17 := lnB_len hg h ho
  obtain ⟨f3, e3⟩ := c_changes (uA (uA σ 30 f) 31 f2) (lnA g s) (lnB g s o) (by omega) (by omega) (by rw [zA_ne (by decide), zA_uA]; exact hf) (by rw [zA_uA]; exact hf2) (lnA_lt hg h) (lnB_lt hg ho)
  refine ⟨uA (uA (uA σ 30 f) 31 f2) 32 f3, ?_, (((SE.uA (by decide)).tr (SE.uA (by decide))).tr (SE.uA (by decide)))⟩
  rw [hww, Option.bind_some]
  rw [show ((0 : Int32)) = nI 0 from rfl, hmx, Option.bind_some]
  refine e2.trans ?_
  show (fX0_changesBetween _ (nI (lnA g s).length) (nI (lnB g s o).length)).bind _ = _
  rw [e3]
  rfl
