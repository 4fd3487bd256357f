/-! orders: what is said at a state, the model's mayGo and gapOf -/
def og (g : Gh) (z : Nat → Nat) (st last r : Nat) : Nat :=
  if last = 0 then (if (gC g (16 * r + sd z st r)).length = 0 then 0 else 1)
  else if last - 1 = r then 1
  else if eg g (16 * r + sd z st r) (16 * (last - 1) + sd z st (last - 1) - 1) = true then 0 else 1
theorem og_le (g : Gh) (z : Nat → Nat) (st last r : Nat) : og g z st last r ≤ 1 := by
  unfold og
  split
  · split <;> decide
  · split
    · decide
    · split <;> decide
/-- What the model has laid out. -/
def JS (σ : St) (g : Gh) (S : Nat) : Prop := JM σ g ∧ inG g S ∧ zI σ 47 = nI S ∧ zI σ 46 = nI (rx (zs g S) 8) ∧ (∀ j, j < 8 → zA σ 73 j = nI (rx (zs g S) j)) ∧ rx (zs g S) 8 ≤ 20000 ∧ oA (zs g S) 8 ≤ 20
theorem JS_rx {σ : St} {g : Gh} {S r : Nat} (h : JS σ g S) (hr : r ≤ 8) : rx (zs g S) r ≤ 20000 := by
  have h1 := rx_mono (zs g S) r (8 - r)
  rw [show r + (8 - r) = 8 by omega] at h1
  exact Nat.le_trans h1 h.2.2.2.2.2.1
theorem nI_div {a b : Nat} (ha : a < 2147483648) (hb : b < 2147483648) : nI a / nI b = nI (a / b) := by
  have hq : a / b < 2147483648 := Nat.lt_of_le_of_lt (Nat.div_le_self a b) ha
  have h1 : (nI a).toInt = a := Int32.toInt_ofNat_of_lt (by omega)
  have h2 : (nI b).toInt = b := Int32.toInt_ofNat_of_lt (by omega)
  have h3 : (nI (a / b)).toInt = (a / b : Nat) := Int32.toInt_ofNat_of_lt (by omega)
  apply Int32.toInt_inj.mp
  rw [Int32.toInt_div, h1, h2, h3]
  rw [show (a : Int).tdiv (b : Int) = ((a / b : Nat) : Int) from (Int.ofNat_tdiv a b).symm]
  generalize a / b = q at *
  apply Int.bmod_eq_of_le <;> omega
theorem nz_nI {ρ : Type} {o : Option ρ} {b : Nat} (h0 : 0 < b) (hb : b < 2147483648) : nz (nI b) o = o := by
  apply if_neg
  intro h
  have h1 : (nI b).toInt = b := Int32.toInt_ofNat_of_lt (by omega)
  rw [h] at h1
  have h2 : (0 : Int32).toInt = 0 := rfl
  omega
theorem m_saidOf {σ : St} {g : Gh} {S r st : Nat} (h : JS σ g S) (hg : okG g) (hr : r < 8) (hst : st < 20000) : fX12_saidOf σ (nI st) (nI r) = some (nI (sd (zs g S) st r)) := by
  have h1 := m_sizeOf h.1 h.2.1 h.2.2.1 hr
  have h2 := h.2.2.2.2.1 r hr
  have h3 := JS_rx h (show r ≤ 8 by omega)
  have h4 := rx_pos (zs g S) r
  have h5 := zs_le hg h.2.1 hr
  have e1 : nI st / nI (rx (zs g S) r) = nI (st / rx (zs g S) r) := nI_div (by omega) (by omega)
  have h6 : st / rx (zs g S) r ≤ st := Nat.div_le_self _ _
  have e2 : nI (st / rx (zs g S) r) / nI (zs g S r + 1) = nI (st / rx (zs g S) r / (zs g S r + 1)) := nI_div (by omega) (by omega)
  have e3 : sd (zs g S) st r = st / rx (zs g S) r - st / rx (zs g S) r / (zs g S r + 1) * (zs g S r + 1) := by
    unfold sd
    have := Nat.div_add_mod (st / rx (zs g S) r) (zs g S r + 1)
    have := Nat.mul_comm (zs g S r + 1) (st / rx (zs g S) r / (zs g S r + 1))
    omega
  have h7 := Nat.div_mul_le_self (st / rx (zs g S) r) (zs g S r + 1)
  unfold fX12_saidOf
  rw [e3]
  simp (disch := omega) only [l0, l1, l2, l3, l4, l5, l6, l7, l8, l9, l10, l11, l12, l16, l18, l19, l20, l21, l24, l96, l128, l100, l144, l200, l256, l288, l1536, l1728, l1800, bnd, nI_add, pk_mul, pI_sub, pI_m1, pT_le, pF_le, pT_lt, pF_lt, pT_eq, pF_eq, pF_m1, mF_eq, mT_eq, mT_lt, mF_le, lm1, rd_nI, wr_nI, cl_nI, pk_us, un_ne, pk_uLs, uL_ne, zI_uI, zI_uJ, zI_uA, zI_uB, zI_uR, zI_uN, zJ_uI, zJ_uJ, zJ_uA, zJ_uB, zJ_uR, zJ_uN, zA_uI, zA_uJ, zA_uA, zA_uB, zA_uR, zA_uN, zB_uI, zB_uJ, zB_uA, zB_uB, zB_uR, zB_uN, zR_uI, zR_uJ, zR_uA, zR_uB, zR_uR, zR_uN, zN_uI, zN_uJ, zN_uA, zN_uB, zN_uR, zN_uN, zI_ne, zJ_ne, zA_ne, zB_ne, zR_ne, zN_ne, bi_T, bi_F, nz16, ↓reduceIte, not_true_eq_false, not_false_eq_true, Bool.false_eq_true, reduceCtorEq, h1, h2, nz_nI, e1, e2]
theorem m_mayGo {σ : St} {g : Gh} {S r st : Nat} (h : JS σ g S) (hg : okG g) (hr : r < 8) (hst : st < 20000) : fX12_mayGo σ (nI st) (nI r) = some (decide (sd (zs g S) st r < zs g S r)) := by
  have h1 := m_isRoll hg h.1 (r := r) (by omega)
  have h2 := m_saidOf h hg hr hst
  have h3 := m_sizeOf h.1 h.2.1 h.2.2.1 hr
  have h4 := sd_le (zs g S) st r
  have h5 := zs_le hg h.2.1 hr
  unfold fX12_mayGo
  by_cases hn : r < gN g
  · rw [decide_eq_true hn] at h1
    by_cases hs : sd (zs g S) st r < zs g S r
    · rw [decide_eq_true hs]
      simp (disch := omega) only [l0, l1, l2, l3, l4, l5, l6, l7, l8, l9, l10, l11, l12, l16, l18, l19, l20, l21, l24, l96, l128, l100, l144, l200, l256, l288, l1536, l1728, l1800, bnd, nI_add, pk_mul, pI_sub, pI_m1, pT_le, pF_le, pT_lt, pF_lt, pT_eq, pF_eq, pF_m1, mF_eq, mT_eq, mT_lt, mF_le, lm1, rd_nI, wr_nI, cl_nI, pk_us, un_ne, pk_uLs, uL_ne, zI_uI, zI_uJ, zI_uA, zI_uB, zI_uR, zI_uN, zJ_uI, zJ_uJ, zJ_uA, zJ_uB, zJ_uR, zJ_uN, zA_uI, zA_uJ, zA_uA, zA_uB, zA_uR, zA_uN, zB_uI, zB_uJ, zB_uA, zB_uB, zB_uR, zB_uN, zR_uI, zR_uJ, zR_uA, zR_uB, zR_uR, zR_uN, zN_uI, zN_uJ, zN_uA, zN_uB, zN_uR, zN_uN, zI_ne, zJ_ne, zA_ne, zB_ne, zR_ne, zN_ne, bi_T, bi_F, nz16, ↓reduceIte, not_true_eq_false, not_false_eq_true, Bool.false_eq_true, reduceCtorEq, h1, h2, h3]
    · rw [decide_eq_false hs]
      simp (disch := omega) only [l0, l1, l2, l3, l4, l5, l6, l7, l8, l9, l10, l11, l12, l16, l18, l19, l20, l21, l24, l96, l128, l100, l144, l200, l256, l288, l1536, l1728, l1800, bnd, nI_add, pk_mul, pI_sub, pI_m1, pT_le, pF_le, pT_lt, pF_lt, pT_eq, pF_eq, pF_m1, mF_eq, mT_eq, mT_lt, mF_le, lm1, rd_nI, wr_nI, cl_nI, pk_us, un_ne, pk_uLs, uL_ne, zI_uI, zI_uJ, zI_uA, zI_uB, zI_uR, zI_uN, zJ_uI, zJ_uJ, zJ_uA, zJ_uB, zJ_uR, zJ_uN, zA_uI, zA_uJ, zA_uA, zA_uB, zA_uR, zA_uN, zB_uI, zB_uJ, zB_uA, zB_uB, zB_uR, zB_uN, zR_uI, zR_uJ, zR_uA, zR_uB, zR_uR, zR_uN, zN_uI, zN_uJ, zN_uA, zN_uB, zN_uR, zN_uN, zI_ne, zJ_ne, zA_ne, zB_ne, zR_ne, zN_ne, bi_T, bi_F, nz16, ↓reduceIte, not_true_eq_false, not_false_eq_true, Bool.false_eq_true, reduceCtorEq, h1, h2, h3]
  · have z0 : zs g S r = 0 := by
      unfold zs
      rw [if_neg (fun x => hn (h.2.1.2 r hr x))]
    rw [decide_eq_false hn] at h1
    rw [z0, decide_eq_false (Nat.not_lt_zero _)]
    simp (disch := omega) only [l0, l1, l2, l3, l4, l5, l6, l7, l8, l9, l10, l11, l12, l16, l18, l19, l20, l21, l24, l96, l128, l100, l144, l200, l256, l288, l1536, l1728, l1800, bnd, nI_add, pk_mul, pI_sub, pI_m1, pT_le, pF_le, pT_lt, pF_lt, pT_eq, pF_eq, pF_m1, mF_eq, mT_eq, mT_lt, mF_le, lm1, rd_nI, wr_nI, cl_nI, pk_us, un_ne, pk_uLs, uL_ne, zI_uI, zI_uJ, zI_uA, zI_uB, zI_uR, zI_uN, zJ_uI, zJ_uJ, zJ_uA, zJ_uB, zJ_uR, zJ_uN, zA_uI, zA_uJ, zA_uA, zA_uB, zA_uR, zA_uN, zB_uI, zB_uJ, zB_uA, zB_uB, zB_uR, zB_uN, zR_uI, zR_uJ, zR_uA, zR_uB, zR_uR, zR_uN, zN_uI, zN_uJ, zN_uA, zN_uB, zN_uR, zN_uN, zI_ne, zJ_ne, zA_ne, zB_ne, zR_ne, zN_ne, bi_T, bi_F, nz16, ↓reduceIte, not_true_eq_false, not_false_eq_true, Bool.false_eq_true, reduceCtorEq, h1]
