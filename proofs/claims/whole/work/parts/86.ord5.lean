/-! orders: the model's isSmall -/
theorem l20001 : (20001 : Int32) = nI 20001 := nrfl rfl
def oA (z : Nat → Nat) : Nat → Nat
  | 0 => 0
  | n + 1 => oA z n + z n
theorem oA_mono (z : Nat → Nat) (i : Nat) : ∀ d, oA z i ≤ oA z (i + d)
  | 0 => Nat.le_refl _
  | d + 1 => Nat.le_trans (oA_mono z i d) (Nat.le_add_right _ _)
theorem rx_mono (z : Nat → Nat) (i d : Nat) : rx z i ≤ rx z (i + d) := by
  obtain ⟨c, e, hc⟩ := rx_mul z i d
  rw [e]
  exact Nat.le_mul_of_pos_right _ hc
/-- The set is one of rolls that are. -/
def inG (g : Gh) (S : Nat) : Prop := S < 256 ∧ ∀ r, r < 8 → S.testBit r = true → r < gN g
theorem zs_le {g : Gh} {S r : Nat} (hg : okG g) (hS : inG g S) (hr : r < 8) : zs g S r ≤ 12 := by
  unfold zs
  split
  · rename_i h
    exact (hg.2.1 r (hS.2 r hr h)).2
  · omega
theorem m_sizeOf {σ : St} {g : Gh} {S r : Nat} (hj : JM σ g) (hS : inG g S) (h47 : zI σ 47 = nI S) (hr : r < 8) : fX12_sizeOf σ (nI r) = some (nI (zs g S r)) := by
  have hh := m_has (t := S) (r := r) (by have := hS.1; omega) (by omega)
  unfold fX12_sizeOf zs
  cases hb : S.testBit r with
  | true =>
    rw [hb] at hh
    have h60 := hj.2.1 r (hS.2 r hr hb)
    simp (disch := omega) only [l0, l1, l2, l3, l4, l5, l6, l7, l8, l9, l10, l11, l12, l16, l18, l19, l20, l21, l24, l96, l128, l100, l144, l200, l256, l288, l1536, l1728, l1800, bnd, nI_add, pk_mul, pI_sub, pI_m1, pT_le, pF_le, pT_lt, pF_lt, pT_eq, pF_eq, pF_m1, mF_eq, mT_eq, mT_lt, mF_le, lm1, rd_nI, wr_nI, cl_nI, pk_us, un_ne, pk_uLs, uL_ne, zI_uI, zI_uJ, zI_uA, zI_uB, zI_uR, zI_uN, zJ_uI, zJ_uJ, zJ_uA, zJ_uB, zJ_uR, zJ_uN, zA_uI, zA_uJ, zA_uA, zA_uB, zA_uR, zA_uN, zB_uI, zB_uJ, zB_uA, zB_uB, zB_uR, zB_uN, zR_uI, zR_uJ, zR_uA, zR_uB, zR_uR, zR_uN, zN_uI, zN_uJ, zN_uA, zN_uB, zN_uR, zN_uN, zI_ne, zJ_ne, zA_ne, zB_ne, zR_ne, zN_ne, bi_T, bi_F, nz16, ↓reduceIte, not_true_eq_false, not_false_eq_true, Bool.false_eq_true, reduceCtorEq, h47, hh, h60]
  | false =>
    rw [hb] at hh
    simp (disch := omega) only [l0, l1, l2, l3, l4, l5, l6, l7, l8, l9, l10, l11, l12, l16, l18, l19, l20, l21, l24, l96, l128, l100, l144, l200, l256, l288, l1536, l1728, l1800, bnd, nI_add, pk_mul, pI_sub, pI_m1, pT_le, pF_le, pT_lt, pF_lt, pT_eq, pF_eq, pF_m1, mF_eq, mT_eq, mT_lt, mF_le, lm1, rd_nI, wr_nI, cl_nI, pk_us, un_ne, pk_uLs, uL_ne, zI_uI, zI_uJ, zI_uA, zI_uB, zI_uR, zI_uN, zJ_uI, zJ_uJ, zJ_uA, zJ_uB, zJ_uR, zJ_uN, zA_uI, zA_uJ, zA_uA, zA_uB, zA_uR, zA_uN, zB_uI, zB_uJ, zB_uA, zB_uB, zB_uR, zB_uN, zR_uI, zR_uJ, zR_uA, zR_uB, zR_uR, zR_uN, zN_uI, zN_uJ, zN_uA, zN_uB, zN_uR, zN_uN, zI_ne, zJ_ne, zA_ne, zB_ne, zR_ne, zN_ne, bi_T, bi_F, nz16, ↓reduceIte, not_true_eq_false, not_false_eq_true, Bool.false_eq_true, reduceCtorEq, h47, hh]
theorem m_isSmall_P {σ : St} {g : Gh} {S : Nat} (hg : okG g) (hj : JM σ g) (hS : inG g S) (h47 : zI σ 47 = nI S) : ∃ f, (∀ j, j < 8 → rx (zs g S) 8 ≤ 20000 ∧ oA (zs g S) 8 ≤ 20 → f j = nI (rx (zs g S) j)) ∧ fX12_isSmall_P26 σ (nI 1) (nI 0) (nI 0) = some (decide (rx (zs g S) 8 ≤ 20000 ∧ oA (zs g S) 8 ≤ 20), if rx (zs g S) 8 ≤ 20000 ∧ oA (zs g S) 8 ≤ 20 then uI (uA σ 73 f) 46 (nI (rx (zs g S) 8)) else uA σ 73 f) := by
  have key := it_for (β := Nat → Int32) (body := fun (kb : (St × Int32 × Int32 × Int32) → Option (Bool × St)) (t : St × Int32 × Int32 × Int32) => fX12_isSmall_L26 (fun σ v2 v3 v4 => kb (σ, v2, v3, v4)) t.1 t.2.1 t.2.2.1 t.2.2.2) 8 (by omega) (fun i f => (uA σ 73 f, nI (rx (zs g S) i), nI (oA (zs g S) i), nI i)) (fun i f => (∀ j, j < i → f j = nI (rx (zs g S) j)) ∧ rx (zs g S) i ≤ 20000 ∧ oA (zs g S) i ≤ 20) (fun i f z => ∃ f, (∀ j, j < 8 → rx (zs g S) 8 ≤ 20000 ∧ oA (zs g S) 8 ≤ 20 → f j = nI (rx (zs g S) j)) ∧ z = some (decide (rx (zs g S) 8 ≤ 20000 ∧ oA (zs g S) 8 ≤ 20), if rx (zs g S) 8 ≤ 20000 ∧ oA (zs g S) 8 ≤ 20 then uI (uA σ 73 f) 46 (nI (rx (zs g S) 8)) else uA σ 73 f)) ?_ 0 (zA σ 73) (Nat.zero_le _) ⟨fun j h => absurd h (Nat.not_lt_zero _), by show 1 ≤ 20000; omega, Nat.zero_le _⟩
  · rw [uA_self] at key
    exact key
  · rintro i f hi ⟨hf, hn, ha⟩ kb hkb
    have hf : ∀ j, j < i → f j = nI (rx (zs g S) j) := hf
    have hn : rx (zs g S) i ≤ 20000 := hn
    have ha : oA (zs g S) i ≤ 20 := ha
    show ∃ f1, _ ∧ fX12_isSmall_L26 (fun σ v2 v3 v4 => kb (σ, v2, v3, v4)) (uA σ 73 f) (nI (rx (zs g S) i)) (nI (oA (zs g S) i)) (nI i) = _
    unfold fX12_isSmall_L26
    by_cases hi8 : i = 8
    · rw [hi8] at hf hn ha
      refine ⟨f, fun j hj _ => hf j hj, ?_⟩
      have hc : rx (zs g S) 8 ≤ 20000 ∧ oA (zs g S) 8 ≤ 20 := ⟨hn, ha⟩
      rw [if_pos hc, decide_eq_true hc]
      simp (disch := omega) only [l0, l1, l2, l3, l4, l5, l6, l7, l8, l9, l10, l11, l12, l16, l18, l19, l20, l21, l24, l96, l128, l100, l144, l200, l256, l288, l1536, l1728, l1800, bnd, nI_add, pk_mul, pI_sub, pI_m1, pT_le, pF_le, pT_lt, pF_lt, pT_eq, pF_eq, pF_m1, mF_eq, mT_eq, mT_lt, mF_le, lm1, rd_nI, wr_nI, cl_nI, pk_us, un_ne, pk_uLs, uL_ne, zI_uI, zI_uJ, zI_uA, zI_uB, zI_uR, zI_uN, zJ_uI, zJ_uJ, zJ_uA, zJ_uB, zJ_uR, zJ_uN, zA_uI, zA_uJ, zA_uA, zA_uB, zA_uR, zA_uN, zB_uI, zB_uJ, zB_uA, zB_uB, zB_uR, zB_uN, zR_uI, zR_uJ, zR_uA, zR_uB, zR_uR, zR_uN, zN_uI, zN_uJ, zN_uA, zN_uB, zN_uR, zN_uN, zI_ne, zJ_ne, zA_ne, zB_ne, zR_ne, zN_ne, bi_T, bi_F, nz16, ↓reduceIte, not_true_eq_false, not_false_eq_true, Bool.false_eq_true, reduceCtorEq, hi8]
    · have hi9 : i < 8 := by omega
      have hz := zs_le hg hS hi9
      have en : rx (zs g S) (i + 1) = rx (zs g S) i * (zs g S i + 1) := rfl
      have ea : oA (zs g S) (i + 1) = oA (zs g S) i + zs g S i := rfl
      have hj2 : JM (uA σ 73 (upd f i (nI (rx (zs g S) i)))) g := hj.se (SE.uA (by decide))
      have h2 := m_isRoll hg hj2 (r := i) (by omega)
      have h3 := m_sizeOf (r := i) hj2 hS (by rw [zI_uA]; exact h47) hi9
      have hmul : rx (zs g S) i * (zs g S i + 1) ≤ 20000 * 13 := Nat.mul_le_mul hn (by omega)
      have hm1 := rx_mono (zs g S) (i + 1) (8 - (i + 1))
      have hm2 := oA_mono (zs g S) (i + 1) (8 - (i + 1))
      rw [show i + 1 + (8 - (i + 1)) = 8 by omega] at hm1 hm2
      have hfu : ∀ j, j < i + 1 → upd f i (nI (rx (zs g S) i)) j = nI (rx (zs g S) j) := by
        intro j hj
        by_cases e : j = i
        · rw [e, pk_us]
        · rw [pk_un e]; exact hf j (by omega)
      by_cases hok : rx (zs g S) (i + 1) ≤ 20000 ∧ oA (zs g S) (i + 1) ≤ 20
      · have nx := hkb (upd f i (nI (rx (zs g S) i))) (by omega) ⟨hfu, hok⟩
        by_cases hr : i < gN g
        · rw [decide_eq_true hr] at h2
          rw [en, ea] at nx hok
          simp (disch := omega) only [l0, l1, l2, l3, l4, l5, l6, l7, l8, l9, l10, l11, l12, l16, l18, l19, l20, l21, l24, l96, l128, l100, l144, l200, l256, l288, l1536, l1728, l1800, bnd, nI_add, pk_mul, pI_sub, pI_m1, pT_le, pF_le, pT_lt, pF_lt, pT_eq, pF_eq, pF_m1, mF_eq, mT_eq, mT_lt, mF_le, lm1, rd_nI, wr_nI, cl_nI, pk_us, un_ne, pk_uLs, uL_ne, zI_uI, zI_uJ, zI_uA, zI_uB, zI_uR, zI_uN, zJ_uI, zJ_uJ, zJ_uA, zJ_uB, zJ_uR, zJ_uN, zA_uI, zA_uJ, zA_uA, zA_uB, zA_uR, zA_uN, zB_uI, zB_uJ, zB_uA, zB_uB, zB_uR, zB_uN, zR_uI, zR_uJ, zR_uA, zR_uB, zR_uR, zR_uN, zN_uI, zN_uJ, zN_uA, zN_uB, zN_uR, zN_uN, zI_ne, zJ_ne, zA_ne, zB_ne, zR_ne, zN_ne, bi_T, bi_F, nz16, ↓reduceIte, not_true_eq_false, not_false_eq_true, Bool.false_eq_true, reduceCtorEq, l20001, uA_uA, h2, h3, hok.1, hok.2]
          exact nx
        · have z0 : zs g S i = 0 := by
            unfold zs
            rw [if_neg (fun x => hr (hS.2 i hi9 x))]
          rw [decide_eq_false hr] at h2
          rw [en, ea, z0] at nx hok
          rw [Nat.zero_add, Nat.mul_one, Nat.add_zero] at nx
          simp (disch := omega) only [l0, l1, l2, l3, l4, l5, l6, l7, l8, l9, l10, l11, l12, l16, l18, l19, l20, l21, l24, l96, l128, l100, l144, l200, l256, l288, l1536, l1728, l1800, bnd, nI_add, pk_mul, pI_sub, pI_m1, pT_le, pF_le, pT_lt, pF_lt, pT_eq, pF_eq, pF_m1, mF_eq, mT_eq, mT_lt, mF_le, lm1, rd_nI, wr_nI, cl_nI, pk_us, un_ne, pk_uLs, uL_ne, zI_uI, zI_uJ, zI_uA, zI_uB, zI_uR, zI_uN, zJ_uI, zJ_uJ, zJ_uA, zJ_uB, zJ_uR, zJ_uN, zA_uI, zA_uJ, zA_uA, zA_uB, zA_uR, zA_uN, zB_uI, zB_uJ, zB_uA, zB_uB, zB_uR, zB_uN, zR_uI, zR_uJ, zR_uA, zR_uB, zR_uR, zR_uN, zN_uI, zN_uJ, zN_uA, zN_uB, zN_uR, zN_uN, zI_ne, zJ_ne, zA_ne, zB_ne, zR_ne, zN_ne, bi_T, bi_F, nz16, ↓reduceIte, not_true_eq_false, not_false_eq_true, Bool.false_eq_true, reduceCtorEq, l20001, uA_uA, h2]
          exact nx
      · have hbad : ¬ (rx (zs g S) 8 ≤ 20000 ∧ oA (zs g S) 8 ≤ 20) := fun x => hok ⟨by omega, by omega⟩
        refine ⟨upd f i (nI (rx (zs g S) i)), fun j _ hx => absurd hx hbad, ?_⟩
        rw [if_neg hbad, decide_eq_false hbad]
        have hr : i < gN g := by
          apply Decidable.byContradiction
          intro hr
          have z0 : zs g S i = 0 := by
            unfold zs
            rw [if_neg (fun x => hr (hS.2 i hi9 x))]
          rw [en, ea, z0] at hok
          exact hok ⟨by omega, by omega⟩
        rw [decide_eq_true hr] at h2
        rw [en, ea] at hok
        by_cases hx : rx (zs g S) i * (zs g S i + 1) ≤ 20000
        · have hy : ¬ oA (zs g S) i + zs g S i ≤ 20 := fun y => hok ⟨hx, y⟩
          simp (disch := omega) only [l0, l1, l2, l3, l4, l5, l6, l7, l8, l9, l10, l11, l12, l16, l18, l19, l20, l21, l24, l96, l128, l100, l144, l200, l256, l288, l1536, l1728, l1800, bnd, nI_add, pk_mul, pI_sub, pI_m1, pT_le, pF_le, pT_lt, pF_lt, pT_eq, pF_eq, pF_m1, mF_eq, mT_eq, mT_lt, mF_le, lm1, rd_nI, wr_nI, cl_nI, pk_us, un_ne, pk_uLs, uL_ne, zI_uI, zI_uJ, zI_uA, zI_uB, zI_uR, zI_uN, zJ_uI, zJ_uJ, zJ_uA, zJ_uB, zJ_uR, zJ_uN, zA_uI, zA_uJ, zA_uA, zA_uB, zA_uR, zA_uN, zB_uI, zB_uJ, zB_uA, zB_uB, zB_uR, zB_uN, zR_uI, zR_uJ, zR_uA, zR_uB, zR_uR, zR_uN, zN_uI, zN_uJ, zN_uA, zN_uB, zN_uR, zN_uN, zI_ne, zJ_ne, zA_ne, zB_ne, zR_ne, zN_ne, bi_T, bi_F, nz16, ↓reduceIte, not_true_eq_false, not_false_eq_true, Bool.false_eq_true, reduceCtorEq, l20001, uA_uA, h2, h3]
        · simp (disch := omega) only [l0, l1, l2, l3, l4, l5, l6, l7, l8, l9, l10, l11, l12, l16, l18, l19, l20, l21, l24, l96, l128, l100, l144, l200, l256, l288, l1536, l1728, l1800, bnd, nI_add, pk_mul, pI_sub, pI_m1, pT_le, pF_le, pT_lt, pF_lt, pT_eq, pF_eq, pF_m1, mF_eq, mT_eq, mT_lt, mF_le, lm1, rd_nI, wr_nI, cl_nI, pk_us, un_ne, pk_uLs, uL_ne, zI_uI, zI_uJ, zI_uA, zI_uB, zI_uR, zI_uN, zJ_uI, zJ_uJ, zJ_uA, zJ_uB, zJ_uR, zJ_uN, zA_uI, zA_uJ, zA_uA, zA_uB, zA_uR, zA_uN, zB_uI, zB_uJ, zB_uA, zB_uB, zB_uR, zB_uN, zR_uI, zR_uJ, zR_uA, zR_uB, zR_uR, zR_uN, zN_uI, zN_uJ, zN_uA, zN_uB, zN_uR, zN_uN, zI_ne, zJ_ne, zA_ne, zB_ne, zR_ne, zN_ne, bi_T, bi_F, nz16, ↓reduceIte, not_true_eq_false, not_false_eq_true, Bool.false_eq_true, reduceCtorEq, l20001, uA_uA, h2, h3]
