/-! vowels and first letters of a word, the class's side *-/
def isV (c : Nat) : Bool := decide (c = 1 ∨ c = 5 ∨ c = 9 ∨ c = 15 ∨ c = 21)
def vv (w : Wd) (i : Nat) : Nat := if isV (w.getD i 0) = true then 1 else 0
def vwU (w : Wd) : Nat → Nat
  | 0 => 0
  | k + 1 => vwU w k + vv w k
/-- from the last letter on -/
def vwD (w : Wd) : Nat → Nat
  | 0 => 0
  | k + 1 => vwD w k + vv w (w.length - 1 - k)
def vwN (w : Wd) : Nat := vwU w w.length
theorem vwD_U (w : Wd) : ∀ k, k ≤ w.length → vwD w k + vwU w (w.length - k) = vwN w
  | 0, _ => by
    show 0 + vwU w (w.length - 0) = _
    rw [Nat.zero_add, Nat.sub_zero]
    rfl
  | k + 1, h => by
    have ih := vwD_U w k (by omega)
    have e : w.length - k = (w.length - 1 - k) + 1 := by omega
    rw [e] at ih
    show vwD w k + vv w (w.length - 1 - k) + vwU w (w.length - (k + 1)) = _
    have ih : vwD w k + (vwU w (w.length - 1 - k) + vv w (w.length - 1 - k)) = vwN w := ih
    rw [show w.length - (k + 1) = w.length - 1 - k by omega]
    omega
theorem vwU_le (w : Wd) : ∀ k, vwU w k ≤ k
  | 0 => Nat.le_refl _
  | k + 1 => by
    have ih := vwU_le w k
    show vwU w k + vv w k ≤ k + 1
    unfold vv
    split <;> omega
theorem vwD_le (w : Wd) : ∀ k, vwD w k ≤ k
  | 0 => Nat.le_refl _
  | k + 1 => by
    have ih := vwD_le w k
    show vwD w k + vv w _ ≤ k + 1
    unfold vv
    split <;> omega
theorem c_letter0 {w : Wd} (h : okL w) {b : Nat} (hb : w.length ≤ b) (h8 : b < 8) : fX10_letter (lN (enc w)) (nI b) = some (nI 0) := by
  have hlt := h.lt
  have hl := h.1
  unfold fX10_letter
  have e5 : ushr64 (lN (enc w)) (nI (5 * b)) = lN (enc w / 32 ^ b) := by
    rw [ush (by omega) (by omega), Nat.pow_mul]
  have e31 : (31 : Int32) = nI (2 ^ 5 - 1) := rfl
  have hz := enc_div_zero h.l2 (b := b) hb
  simp (disch := omega) only [l0, l1, l2, l3, l4, l5, l6, l7, l8, l9, l10, l11, l12, l16, l18, l19, l20, l21, l24, l96, l128, l100, l144, l200, l256, l288, l1536, l1728, l1800, bnd, nI_add, pk_mul, pI_sub, pI_m1, pT_le, pF_le, pT_lt, pF_lt, pT_eq, pF_eq, pF_m1, mF_eq, mT_eq, mT_lt, mF_le, lm1, rd_nI, wr_nI, cl_nI, pk_us, un_ne, pk_uLs, uL_ne, zI_uI, zI_uJ, zI_uA, zI_uB, zI_uR, zI_uN, zJ_uI, zJ_uJ, zJ_uA, zJ_uB, zJ_uR, zJ_uN, zA_uI, zA_uJ, zA_uA, zA_uB, zA_uR, zA_uN, zB_uI, zB_uJ, zB_uA, zB_uB, zB_uR, zB_uN, zR_uI, zR_uJ, zR_uA, zR_uB, zR_uR, zR_uN, zN_uI, zN_uJ, zN_uA, zN_uB, zN_uR, zN_uN, zI_ne, zJ_ne, zA_ne, zB_ne, zR_ne, zN_ne, bi_T, bi_F, nz16, ↓reduceIte, not_true_eq_false, not_false_eq_true, Bool.false_eq_true, reduceCtorEq, e5, lN_i, hz]
  rfl
theorem c_vowels {w : Wd} (h : okL w) : fX10_vowels (lN (enc w)) = some (nI (vwN w)) := by
  have hl := h.1
  unfold fX10_vowels
  refine it_for (β := Unit) 8 (by omega) (fun k _ => (nI (vwD w (min k w.length)), nI k)) (fun _ _ => True) (fun _ _ o => o = some (nI (vwN w))) ?_ 0 () (Nat.zero_le _) trivial
  intro k _ hk _ kb hkb
  show fX10_vowels_L4 _ _ (nI (vwD w (min k w.length))) (nI k) = _
  unfold fX10_vowels_L4
  have hle := vwD_le w (min k w.length)
  by_cases h8 : k = 8
  · have e := vwD_U w w.length (Nat.le_refl _)
    have e : vwD w w.length + vwU w (w.length - w.length) = vwN w := e
    rw [Nat.sub_self] at e
    have e : vwD w w.length + 0 = vwN w := e
    rw [show min k w.length = w.length by omega, ← e, Nat.add_zero]
    simp (disch := omega) only [l0, l1, l2, l3, l4, l5, l6, l7, l8, l9, l10, l11, l12, l16, l18, l19, l20, l21, l24, l96, l128, l100, l144, l200, l256, l288, l1536, l1728, l1800, bnd, nI_add, pk_mul, pI_sub, pI_m1, pT_le, pF_le, pT_lt, pF_lt, pT_eq, pF_eq, pF_m1, mF_eq, mT_eq, mT_lt, mF_le, lm1, rd_nI, wr_nI, cl_nI, pk_us, un_ne, pk_uLs, uL_ne, zI_uI, zI_uJ, zI_uA, zI_uB, zI_uR, zI_uN, zJ_uI, zJ_uJ, zJ_uA, zJ_uB, zJ_uR, zJ_uN, zA_uI, zA_uJ, zA_uA, zA_uB, zA_uR, zA_uN, zB_uI, zB_uJ, zB_uA, zB_uB, zB_uR, zB_uN, zR_uI, zR_uJ, zR_uA, zR_uB, zR_uR, zR_uN, zN_uI, zN_uJ, zN_uA, zN_uB, zN_uR, zN_uN, zI_ne, zJ_ne, zA_ne, zB_ne, zR_ne, zN_ne, bi_T, bi_F, nz16, ↓reduceIte, not_true_eq_false, not_false_eq_true, Bool.false_eq_true, reduceCtorEq, h8]
  · have l97 : (97 : Int32) = nI 97 := rfl
    have l101 : (101 : Int32) = nI 101 := rfl
    have l105 : (105 : Int32) = nI 105 := rfl
    have l111 : (111 : Int32) = nI 111 := rfl
    have l117 : (117 : Int32) = nI 117 := rfl
    have nx := hkb () (by omega) trivial
    have nx : kb (nI (vwD w (min (k + 1) w.length)), nI (k + 1)) = some (nI (vwN w)) := nx
    by_cases hkl : k < w.length
    · have hlt := c_letter h hkl
      rw [show min k w.length = k by omega]
      rw [show min (k + 1) w.length = k + 1 by omega] at nx
      have nx : kb (nI (vwD w k + vv w (w.length - 1 - k)), nI (k + 1)) = some (nI (vwN w)) := nx
      have hc : 1 ≤ w.getD (w.length - 1 - k) 0 ∧ w.getD (w.length - 1 - k) 0 ≤ 26 := h.2 _ (getD_mem (d := 0) (by omega))
      unfold vv at nx
      generalize w.getD (w.length - 1 - k) 0 = c at *
      have hv : isV c = decide (c = 1 ∨ c = 5 ∨ c = 9 ∨ c = 15 ∨ c = 21) := rfl
      have hle2 := vwD_le w k
      have hsub : nI (c + 97) - nI 1 = nI (c + 96) := by rw [pI_sub (by omega)]; rfl
      have iff : ∀ m, m < 1000 → ((nI (c + 96) = nI m) ↔ c + 96 = m) := fun m hm => nI_eq (by omega) (by omega)
      have i1 := iff 97 (by decide)
      have i2 := iff 101 (by decide)
      have i3 := iff 105 (by decide)
      have i4 := iff 111 (by decide)
      have i5 := iff 117 (by decide)
      by_cases hx : c = 1 ∨ c = 5 ∨ c = 9 ∨ c = 15 ∨ c = 21
      · rw [hv, decide_eq_true hx, if_pos rfl] at nx
        rw [l8, if_neg (show ¬ nI 8 ≤ nI k by rw [pF_le (by omega) (by omega)]; exact fun h => h), hlt, bnd, l97, l101, l105, l111, l117, l1, nI_add, nI_add, nI_add, hsub, ← nx]
        by_cases c1 : c + 96 = 97
        · rw [if_pos (i1.mpr c1)]
        · rw [if_neg (fun h => c1 (i1.mp h))]
          by_cases c2 : c + 96 = 101
          · rw [if_pos (i2.mpr c2)]
          · rw [if_neg (fun h => c2 (i2.mp h))]
            by_cases c3 : c + 96 = 105
            · rw [if_pos (i3.mpr c3)]
            · rw [if_neg (fun h => c3 (i3.mp h))]
              by_cases c4 : c + 96 = 111
              · rw [if_pos (i4.mpr c4)]
              · rw [if_neg (fun h => c4 (i4.mp h)), if_pos (i5.mpr (by omega))]
      · rw [hv, decide_eq_false hx, if_neg (by decide), Nat.add_zero] at nx
        rw [l8, if_neg (show ¬ nI 8 ≤ nI k by rw [pF_le (by omega) (by omega)]; exact fun h => h), hlt, bnd, l97, l101, l105, l111, l117, l1, nI_add, nI_add, nI_add, hsub, ← nx]
        rw [if_neg (fun h => by have := i1.mp h; omega), if_neg (fun h => by have := i2.mp h; omega), if_neg (fun h => by have := i3.mp h; omega), if_neg (fun h => by have := i4.mp h; omega), if_neg (fun h => by have := i5.mp h; omega)]
    · have hlt := c_letter0 h (b := k) (by omega) (by omega)
      rw [show min k w.length = w.length by omega]
      rw [show min (k + 1) w.length = w.length by omega] at nx
      have hs : nI 0 + nI 97 - nI 1 = nI 96 := rfl
      rw [l8, if_neg (show ¬ nI 8 ≤ nI k by rw [pF_le (by omega) (by omega)]; exact fun h => h), hlt, bnd, l97, l101, l105, l111, l117, l1, hs, nI_add, nI_add, ← nx]
      rw [if_neg (by decide), if_neg (by decide), if_neg (by decide), if_neg (by decide), if_neg (by decide)]
theorem c_first {w : Wd} (h : okL w) (h1 : 1 ≤ w.length) : fX10_firstLetter (lN (enc w)) = some (nI (w.getD 0 0)) := by
  have hl := h.1
  have a1 := c_letters h
  have a2 := c_letter h (b := w.length - 1) (by omega)
  rw [show w.length - 1 - (w.length - 1) = 0 by omega] at a2
  have hne : ¬ nI w.length = nI 0 := fun x => by
    have := (show nI w.length = nI 0 ↔ w.length = 0 from nI_eq (by omega) (by decide)).mp x
    omega
  have hsub : nI w.length - nI 1 = nI (w.length - 1) := pI_sub h1
  unfold fX10_firstLetter
  rw [a1, bnd, l0, if_neg hne, l1, hsub, a2, bnd]
