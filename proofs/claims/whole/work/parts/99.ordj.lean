/-! orders: the first of the best orders, both sides -/
def fW (P : Nat → Bool) : Nat → Nat → Nat
  | 0, r => r
  | k + 1, r => if P r = true then r else fW P k (r + 1)
theorem fW_is {P : Nat → Bool} : ∀ k i, (∃ r, i ≤ r ∧ r < i + k ∧ P r = true) → i ≤ fW P k i ∧ fW P k i < i + k ∧ P (fW P k i) = true ∧ ∀ q, i ≤ q → q < fW P k i → P q = false
  | 0, i, ⟨r, h1, h2, _⟩ => by omega
  | k + 1, i, ⟨r, h1, h2, h3⟩ => by
    unfold fW
    by_cases hp : P i = true
    · rw [if_pos hp]
      exact ⟨Nat.le_refl _, by omega, hp, fun q h4 h5 => by omega⟩
    · rw [if_neg hp]
      have ih := fW_is (P := P) k (i + 1) ⟨r, by
        by_cases e : r = i
        · rw [e] at h3
          exact absurd h3 hp
        · omega, by omega, h3⟩
      refine ⟨by omega, by omega, ih.2.2.1, fun q h4 h5 => ?_⟩
      by_cases e : q = i
      · rw [e]
        exact Bool.eq_false_iff.mpr hp
      · exact ih.2.2.2 q (by omega) h5
def xP (g : Gh) (S st last r : Nat) : Bool := decide (sd (zs g S) st r < zs g S r ∧ (xN g S st last r).1 = (xL g S st last).1)
def xW (g : Gh) (S st last : Nat) : Nat := fW (xP g S st last) 8 0
theorem xW_is {g : Gh} {S st last : Nat} (hs : sm g S) (hm : 0 < rm (zs g S) st 8) : xW g S st last < 8 ∧ (sd (zs g S) st (xW g S st last) < zs g S (xW g S st last) ∧ (xN g S st last (xW g S st last)).1 = (xL g S st last).1) ∧ ∀ q, q < xW g S st last → ¬ (sd (zs g S) st q < zs g S q ∧ (xN g S st last q).1 = (xL g S st last).1) := by
  have h1 := oL_step (z := zs g S) (gp := og g (zs g S)) (last := last) hm
  have hx : ∃ r, 0 ≤ r ∧ r < 0 + 8 ∧ xP g S st last r = true := by
    have hle := xL_le (st := st) (last := last) hs
    rcases oG_at (z := zs g S) (st := st) (f := xN g S st last) (List.range 8) (1000, 0) with h2 | ⟨r, h2, h3, h4⟩
    · exfalso
      rw [← h1] at h2
      have h5 : (xL g S st last).1 = 1000 := by
        show (oL (zs g S) (og g (zs g S)) st last).1 = 1000
        rw [h2]
      omega
    · rw [← h1] at h4
      exact ⟨r, Nat.zero_le _, by have := List.mem_range.mp h2; omega, decide_eq_true ⟨h3, h4⟩⟩
  have h2 := fW_is (P := xP g S st last) 8 0 hx
  refine ⟨by have := h2.2.1; show fW _ 8 0 < 8; omega, of_decide_eq_true h2.2.2.1, fun q hq => of_decide_eq_false (h2.2.2.2 q (Nat.zero_le _) hq)⟩
def pw (g : Gh) (S : Nat) : Nat → Nat × Nat × Nat
  | 0 => (0, 0, 0)
  | i + 1 => ((pw g S i).1 + rx (zs g S) (xW g S (pw g S i).1 (pw g S i).2.1), xW g S (pw g S i).1 (pw g S i).2.1 + 1, 16 * xW g S (pw g S i).1 (pw g S i).2.1 + sd (zs g S) (pw g S i).1 (xW g S (pw g S i).1 (pw g S i).2.1))
theorem rm_nil (z : Nat → Nat) : ∀ n, rm z 0 n = oA z n
  | 0 => rfl
  | n + 1 => by
    show rm z 0 n + (z n - sd z 0 n) = oA z n + z n
    rw [rm_nil z n, sd_nil, Nat.sub_zero]
theorem pw_ok {g : Gh} {S : Nat} (hs : sm g S) : ∀ i, i ≤ oA (zs g S) 8 → (pw g S i).1 < rx (zs g S) 8 ∧ rm (zs g S) (pw g S i).1 8 + i = oA (zs g S) 8 ∧ (((pw g S i).2.1 = 0 ∧ (pw g S i).1 = 0) ∨ (1 ≤ (pw g S i).2.1 ∧ (pw g S i).2.1 ≤ 8 ∧ 0 < sd (zs g S) (pw g S i).1 ((pw g S i).2.1 - 1)))
  | 0, _ => ⟨rx_pos _ 8, rm_nil _ 8, .inl ⟨rfl, rfl⟩⟩
  | i + 1, hi => by
    obtain ⟨h1, h2, h3⟩ := pw_ok hs i (by omega)
    have h4 := xW_is (last := (pw g S i).2.1) hs (show 0 < rm (zs g S) (pw g S i).1 8 by omega)
    show (pw g S i).1 + rx (zs g S) (xW g S (pw g S i).1 (pw g S i).2.1) < _ ∧ rm (zs g S) ((pw g S i).1 + rx (zs g S) (xW g S (pw g S i).1 (pw g S i).2.1)) 8 + (i + 1) = _ ∧ ((xW g S (pw g S i).1 (pw g S i).2.1 + 1 = 0 ∧ _) ∨ (1 ≤ xW g S (pw g S i).1 (pw g S i).2.1 + 1 ∧ xW g S (pw g S i).1 (pw g S i).2.1 + 1 ≤ 8 ∧ 0 < sd (zs g S) ((pw g S i).1 + rx (zs g S) (xW g S (pw g S i).1 (pw g S i).2.1)) (xW g S (pw g S i).1 (pw g S i).2.1 + 1 - 1)))
    have h5 := rm_step h4.2.1.1 8 h4.1
    have h6 := sd_room h4.2.1.1 h4.1 h1
    refine ⟨h6, by omega, .inr ⟨by omega, by omega, ?_⟩⟩
    rw [Nat.add_sub_cancel, sd_same h4.2.1.1]
    omega
def fa (g : Gh) (S p : Nat) : Int32 := if p < oA (zs g S) 8 then nI (pw g S (p + 1)).2.2 else mI
theorem m_firstR {σ : St} {g : Gh} {S st last : Nat} {v2 v6 : Int32} (k1 : Int32 → Option (Int32 × St)) (hg : okG g) (h : JS σ g S) (hT : TL g S (zA σ 74) (zB σ 76) 0) (hst : st < rx (zs g S) 8) (hm : 0 < rm (zs g S) st 8) (hl : (last = 0 ∧ st = 0) ∨ (1 ≤ last ∧ last ≤ 8 ∧ 0 < sd (zs g S) st (last - 1))) : fX12_first_P55 v2 (nI st) (nI last) v6 k1 σ (nI 0) = k1 (nI (xW g S st last)) := by
  have hs : sm g S := h.2.2.2.2.2
  have hN := h.2.2.2.2.2.1
  have hw := xW_is (last := last) hs hm
  have hle := xL_le (st := st) (last := last) hs
  have key := it_for (β := Unit) (body := fun (kb : Int32 → Option (Int32 × St)) (t : Int32) => fX12_first_L55 v2 (nI st) (nI last) v6 k1 (fun v7 => kb v7) σ t) (xW g S st last) (by omega) (fun r _ => nI r) (fun _ _ => True) (fun _ _ z => z = k1 (nI (xW g S st last))) ?_ 0 () (Nat.zero_le _) trivial
  · exact key
  · intro r _ hr _ kb hkb
    show fX12_first_L55 v2 (nI st) (nI last) v6 k1 (fun v7 => kb v7) σ (nI r) = _
    have hm1 := m_mayGo (r := r) (st := st) h hg (by omega) (by omega)
    unfold fX12_first_L55
    by_cases hsd : sd (zs g S) st r < zs g S r
    · rw [decide_eq_true hsd] at hm1
      have hroom := sd_room hsd (show r < 8 by omega) hst
      have h73 := h.2.2.2.2.1 r (by omega)
      have hgap := m_gapOf (r := r) (st := st) (last := last) h hg (by omega) (by omega) hsd (by omega) (fun h1 => by rcases hl with h2 | h2; omega; exact h2.2.2)
      have ht1 := (hT (st + rx (zs g S) r) (r + 1) (Nat.zero_le _) hroom (by omega) (.inr ⟨by omega, by rw [Nat.add_sub_cancel, sd_same hsd]; omega⟩)).1
      have ht2 := (hT st last (Nat.zero_le _) hst (by omega) (by rcases hl with h2 | h2; exact .inl h2; exact .inr ⟨h2.1, h2.2.2⟩)).1
      have hx1 := xL_le (st := st + rx (zs g S) r) (last := r + 1) hs
      have hog := og_le g (zs g S) st last r
      have e1 : (xN g S st last r).1 = (xL g S (st + rx (zs g S) r) (r + 1)).1 + og g (zs g S) st last r := rfl
      rw [show 9 * (st + rx (zs g S) r) + (r + 1) = 9 * (st + rx (zs g S) r) + r + 1 by omega] at ht1
      by_cases he : (xN g S st last r).1 = (xL g S st last).1
      · have er : r = xW g S st last := by
          apply Decidable.byContradiction
          intro hne
          exact hw.2.2 r (by omega) ⟨hsd, he⟩
        rw [e1] at he
        simp (disch := omega) only [l0, l1, l2, l3, l4, l5, l6, l7, l8, l9, l10, l11, l12, l16, l18, l19, l20, l21, l24, l96, l128, l100, l144, l200, l256, l288, l1536, l1728, l1800, bnd, nI_add, pk_mul, pI_sub, pI_m1, pT_le, pF_le, pT_lt, pF_lt, pT_eq, pF_eq, pF_m1, mF_eq, mT_eq, mT_lt, mF_le, lm1, rd_nI, wr_nI, cl_nI, pk_us, un_ne, pk_uLs, uL_ne, zI_uI, zI_uJ, zI_uA, zI_uB, zI_uR, zI_uN, zJ_uI, zJ_uJ, zJ_uA, zJ_uB, zJ_uR, zJ_uN, zA_uI, zA_uJ, zA_uA, zA_uB, zA_uR, zA_uN, zB_uI, zB_uJ, zB_uA, zB_uB, zB_uR, zB_uN, zR_uI, zR_uJ, zR_uA, zR_uB, zR_uR, zR_uN, zN_uI, zN_uJ, zN_uA, zN_uB, zN_uR, zN_uN, zI_ne, zJ_ne, zA_ne, zB_ne, zR_ne, zN_ne, bi_T, bi_F, nz16, ↓reduceIte, not_true_eq_false, not_false_eq_true, Bool.false_eq_true, reduceCtorEq, hm1, h73, ht1, ht2, hgap, he]
        rw [er]
      · have hlt : r < xW g S st last := by
          apply Decidable.byContradiction
          intro hne
          rw [show r = xW g S st last by omega] at he
          exact he hw.2.1.2
        have nx := hkb () hlt trivial
        rw [e1] at he
        simp (disch := omega) only [l0, l1, l2, l3, l4, l5, l6, l7, l8, l9, l10, l11, l12, l16, l18, l19, l20, l21, l24, l96, l128, l100, l144, l200, l256, l288, l1536, l1728, l1800, bnd, nI_add, pk_mul, pI_sub, pI_m1, pT_le, pF_le, pT_lt, pF_lt, pT_eq, pF_eq, pF_m1, mF_eq, mT_eq, mT_lt, mF_le, lm1, rd_nI, wr_nI, cl_nI, pk_us, un_ne, pk_uLs, uL_ne, zI_uI, zI_uJ, zI_uA, zI_uB, zI_uR, zI_uN, zJ_uI, zJ_uJ, zJ_uA, zJ_uB, zJ_uR, zJ_uN, zA_uI, zA_uJ, zA_uA, zA_uB, zA_uR, zA_uN, zB_uI, zB_uJ, zB_uA, zB_uB, zB_uR, zB_uN, zR_uI, zR_uJ, zR_uA, zR_uB, zR_uR, zR_uN, zN_uI, zN_uJ, zN_uA, zN_uB, zN_uR, zN_uN, zI_ne, zJ_ne, zA_ne, zB_ne, zR_ne, zN_ne, bi_T, bi_F, nz16, ↓reduceIte, not_true_eq_false, not_false_eq_true, Bool.false_eq_true, reduceCtorEq, hm1, h73, ht1, ht2, hgap]
        exact nx
    · rw [decide_eq_false hsd] at hm1
      have hlt : r < xW g S st last := by
        apply Decidable.byContradiction
        intro hne
        rw [show r = xW g S st last by omega] at hsd
        exact hsd hw.2.1.1
      have nx := hkb () hlt trivial
      simp (disch := omega) only [l0, l1, l2, l3, l4, l5, l6, l7, l8, l9, l10, l11, l12, l16, l18, l19, l20, l21, l24, l96, l128, l100, l144, l200, l256, l288, l1536, l1728, l1800, bnd, nI_add, pk_mul, pI_sub, pI_m1, pT_le, pF_le, pT_lt, pF_lt, pT_eq, pF_eq, pF_m1, mF_eq, mT_eq, mT_lt, mF_le, lm1, rd_nI, wr_nI, cl_nI, pk_us, un_ne, pk_uLs, uL_ne, zI_uI, zI_uJ, zI_uA, zI_uB, zI_uR, zI_uN, zJ_uI, zJ_uJ, zJ_uA, zJ_uB, zJ_uR, zJ_uN, zA_uI, zA_uJ, zA_uA, zA_uB, zA_uR, zA_uN, zB_uI, zB_uJ, zB_uA, zB_uB, zB_uR, zB_uN, zR_uI, zR_uJ, zR_uA, zR_uB, zR_uR, zR_uN, zN_uI, zN_uJ, zN_uA, zN_uB, zN_uR, zN_uN, zI_ne, zJ_ne, zA_ne, zB_ne, zR_ne, zN_ne, bi_T, bi_F, nz16, ↓reduceIte, not_true_eq_false, not_false_eq_true, Bool.false_eq_true, reduceCtorEq, hm1]
      exact nx
theorem m_firstP {σ : St} {g : Gh} {S p : Nat} (hg : okG g) (h : JS σ g S) (hT : TL g S (zA σ 74) (zB σ 76) 0) (hp : p < 2147483648) : fX12_first_P34 (nI p) σ (nI 0) (nI 0) mI (nI 0) = some (fa g S p, σ) := by
  have hs : sm g S := h.2.2.2.2.2
  have hN := h.2.2.2.2.2.1
  have hA := hs.2
  have h46 := h.2.2.2.1
  have key := it_for (β := Unit) (body := fun (kb : (Int32 × Int32 × Int32 × Int32) → Option (Int32 × St)) (t : Int32 × Int32 × Int32 × Int32) => fX12_first_L34 (nI p) (fun v3 v4 v5 v6 => kb (v3, v4, v5, v6)) σ t.1 t.2.1 t.2.2.1 t.2.2.2) (oA (zs g S) 8) (by omega) (fun i _ => (nI (pw g S i).1, nI (pw g S i).2.1, (if i = 0 then mI else nI (pw g S i).2.2), nI i)) (fun i _ => i ≤ p + 1) (fun _ _ z => z = some (fa g S p, σ)) ?_ 0 () (Nat.zero_le _) (Nat.zero_le _)
  · exact key
  · intro i _ hi hip kb hkb
    have hip : i ≤ p + 1 := hip
    have hkb := hkb ()
    show fX12_first_L34 (nI p) (fun v3 v4 v5 v6 => kb (v3, v4, v5, v6)) σ (nI (pw g S i).1) (nI (pw g S i).2.1) (if i = 0 then mI else nI (pw g S i).2.2) (nI i) = _
    obtain ⟨h1, h2, h3⟩ := pw_ok hs i hi
    have hsub : nI (rx (zs g S) 8) - nI 1 = nI (rx (zs g S) 8 - 1) := pI_sub (by omega)
    unfold fX12_first_L34
    by_cases hlt : p < i
    · have e : i = p + 1 := by omega
      have e2 : fa g S p = nI (pw g S i).2.2 := by
        unfold fa
        rw [if_pos (by omega), e]
      rw [e2, if_neg (show ¬ i = 0 by omega)]
      simp (disch := omega) only [l0, l1, l2, l3, l4, l5, l6, l7, l8, l9, l10, l11, l12, l16, l18, l19, l20, l21, l24, l96, l128, l100, l144, l200, l256, l288, l1536, l1728, l1800, bnd, nI_add, pk_mul, pI_sub, pI_m1, pT_le, pF_le, pT_lt, pF_lt, pT_eq, pF_eq, pF_m1, mF_eq, mT_eq, mT_lt, mF_le, lm1, rd_nI, wr_nI, cl_nI, pk_us, un_ne, pk_uLs, uL_ne, zI_uI, zI_uJ, zI_uA, zI_uB, zI_uR, zI_uN, zJ_uI, zJ_uJ, zJ_uA, zJ_uB, zJ_uR, zJ_uN, zA_uI, zA_uJ, zA_uA, zA_uB, zA_uR, zA_uN, zB_uI, zB_uJ, zB_uA, zB_uB, zB_uR, zB_uN, zR_uI, zR_uJ, zR_uA, zR_uB, zR_uR, zR_uN, zN_uI, zN_uJ, zN_uA, zN_uB, zN_uR, zN_uN, zI_ne, zJ_ne, zA_ne, zB_ne, zR_ne, zN_ne, bi_T, bi_F, nz16, ↓reduceIte, not_true_eq_false, not_false_eq_true, Bool.false_eq_true, reduceCtorEq]
    · by_cases hl : i = oA (zs g S) 8
      · have h4 := rm_zero (z := zs g S) (st := (pw g S i).1) (n := 8) (by omega)
        have h5 := sd_last h1 h4
        have e2 : fa g S p = mI := by
          unfold fa
          rw [if_neg (by omega)]
        rw [e2]
        simp (disch := omega) only [l0, l1, l2, l3, l4, l5, l6, l7, l8, l9, l10, l11, l12, l16, l18, l19, l20, l21, l24, l96, l128, l100, l144, l200, l256, l288, l1536, l1728, l1800, bnd, nI_add, pk_mul, pI_sub, pI_m1, pT_le, pF_le, pT_lt, pF_lt, pT_eq, pF_eq, pF_m1, mF_eq, mT_eq, mT_lt, mF_le, lm1, rd_nI, wr_nI, cl_nI, pk_us, un_ne, pk_uLs, uL_ne, zI_uI, zI_uJ, zI_uA, zI_uB, zI_uR, zI_uN, zJ_uI, zJ_uJ, zJ_uA, zJ_uB, zJ_uR, zJ_uN, zA_uI, zA_uJ, zA_uA, zA_uB, zA_uR, zA_uN, zB_uI, zB_uJ, zB_uA, zB_uB, zB_uR, zB_uN, zR_uI, zR_uJ, zR_uA, zR_uB, zR_uR, zR_uN, zN_uI, zN_uJ, zN_uA, zN_uB, zN_uR, zN_uN, zI_ne, zJ_ne, zA_ne, zB_ne, zR_ne, zN_ne, bi_T, bi_F, nz16, ↓reduceIte, not_true_eq_false, not_false_eq_true, Bool.false_eq_true, reduceCtorEq, h46, hsub]
      · have hm : 0 < rm (zs g S) (pw g S i).1 8 := by omega
        have hne : (pw g S i).1 + 1 ≠ rx (zs g S) 8 := fun e => by
          have := rm_full e
          omega
        have nx := hkb (by omega) (by show i + 1 ≤ p + 1; omega)
        have hR := fun k1 => m_firstR (v2 := nI p) (v6 := nI i) k1 hg h hT h1 hm h3
        have hw := xW_is (last := (pw g S i).2.1) hs hm
        have hsa := m_saidOf (r := xW g S (pw g S i).1 (pw g S i).2.1) (st := (pw g S i).1) h hg hw.1 (by omega)
        have h73 := h.2.2.2.2.1 (xW g S (pw g S i).1 (pw g S i).2.1) hw.1
        rw [if_neg (show ¬ i + 1 = 0 by omega)] at nx
        have nx : kb (nI ((pw g S i).1 + rx (zs g S) (xW g S (pw g S i).1 (pw g S i).2.1)), nI (xW g S (pw g S i).1 (pw g S i).2.1 + 1), nI (16 * xW g S (pw g S i).1 (pw g S i).2.1 + sd (zs g S) (pw g S i).1 (xW g S (pw g S i).1 (pw g S i).2.1)), nI (i + 1)) = some (fa g S p, σ) := nx
        generalize xW g S (pw g S i).1 (pw g S i).2.1 = w at *
        simp (disch := omega) only [l0, l1, l2, l3, l4, l5, l6, l7, l8, l9, l10, l11, l12, l16, l18, l19, l20, l21, l24, l96, l128, l100, l144, l200, l256, l288, l1536, l1728, l1800, bnd, nI_add, pk_mul, pI_sub, pI_m1, pT_le, pF_le, pT_lt, pF_lt, pT_eq, pF_eq, pF_m1, mF_eq, mT_eq, mT_lt, mF_le, lm1, rd_nI, wr_nI, cl_nI, pk_us, un_ne, pk_uLs, uL_ne, zI_uI, zI_uJ, zI_uA, zI_uB, zI_uR, zI_uN, zJ_uI, zJ_uJ, zJ_uA, zJ_uB, zJ_uR, zJ_uN, zA_uI, zA_uJ, zA_uA, zA_uB, zA_uR, zA_uN, zB_uI, zB_uJ, zB_uA, zB_uB, zB_uR, zB_uN, zR_uI, zR_uJ, zR_uA, zR_uB, zR_uR, zR_uN, zN_uI, zN_uJ, zN_uA, zN_uB, zN_uR, zN_uN, zI_ne, zJ_ne, zA_ne, zB_ne, zR_ne, zN_ne, bi_T, bi_F, nz16, ↓reduceIte, not_true_eq_false, not_false_eq_true, Bool.false_eq_true, reduceCtorEq, h46, hsub, hR, hsa, h73]
        exact nx
theorem m_first {σ : St} {g : Gh} {S : Nat} (hg : okG g) (hj : JM σ g) (hS : al g S = true) (p : Int32) : ∃ υ, fX12_first σ (nI S) p = some (if sm g S ∧ ¬ p < 0 then fa g S p.toNatClampNeg else mI, υ) ∧ SE σ υ := by
  obtain ⟨υ, h1, h2, h3⟩ := m_isSmall hg (hj.se (se30 σ (nI 0))) hS
  unfold fX12_first
  by_cases hs : sm g S
  · rw [decide_eq_true hs] at h1
    rcases i32_of p with hp | ⟨k, hk, rfl⟩
    · refine ⟨υ, ?_, SE.tr (se30 σ _) h2⟩
      rw [if_neg (fun x => x.2 hp)]
      have hp2 : ¬ (nI 0 ≤ p) := by
        intro h
        have h5 := Int32.le_iff_toInt_le.mp h
        have h6 := Int32.lt_iff_toInt_lt.mp hp
        have h7 : (nI 0).toInt = 0 := rfl
        have h8 : (0 : Int32).toInt = 0 := rfl
        omega
      simp (disch := omega) only [l0, l1, l2, l3, l4, l5, l6, l7, l8, l9, l10, l11, l12, l16, l18, l19, l20, l21, l24, l96, l128, l100, l144, l200, l256, l288, l1536, l1728, l1800, bnd, nI_add, pk_mul, pI_sub, pI_m1, pT_le, pF_le, pT_lt, pF_lt, pT_eq, pF_eq, pF_m1, mF_eq, mT_eq, mT_lt, mF_le, lm1, rd_nI, wr_nI, cl_nI, pk_us, un_ne, pk_uLs, uL_ne, zI_uI, zI_uJ, zI_uA, zI_uB, zI_uR, zI_uN, zJ_uI, zJ_uJ, zJ_uA, zJ_uB, zJ_uR, zJ_uN, zA_uI, zA_uJ, zA_uA, zA_uB, zA_uR, zA_uN, zB_uI, zB_uJ, zB_uA, zB_uB, zB_uR, zB_uN, zR_uI, zR_uJ, zR_uA, zR_uB, zR_uR, zR_uN, zN_uI, zN_uJ, zN_uA, zN_uB, zN_uR, zN_uN, zI_ne, zJ_ne, zA_ne, zB_ne, zR_ne, zN_ne, bi_T, bi_F, nz16, ↓reduceIte, not_true_eq_false, not_false_eq_true, Bool.false_eq_true, reduceCtorEq, h1, if_neg hp2]
    · obtain ⟨f, b, h4, h5⟩ := m_layLeft (h3 hs) hg
      have hJ : JS (uB (uA υ 74 f) 76 b) g S := (h3 hs).up (by decide) (by decide) (by decide)
      have hf := m_firstP (p := k) hg hJ (by rw [zA_uB, zA_uA, zB_uB]; exact h4) hk
      refine ⟨uB (uA υ 74 f) 76 b, ?_, SE.tr (se30 σ _) (SE.tr h2 (se7476 _ _ _))⟩
      rw [if_pos ⟨hs, by rw [neg_nI hk]; exact fun x => x⟩, nI_clamp hk]
      simp (disch := omega) only [l0, l1, l2, l3, l4, l5, l6, l7, l8, l9, l10, l11, l12, l16, l18, l19, l20, l21, l24, l96, l128, l100, l144, l200, l256, l288, l1536, l1728, l1800, bnd, nI_add, pk_mul, pI_sub, pI_m1, pT_le, pF_le, pT_lt, pF_lt, pT_eq, pF_eq, pF_m1, mF_eq, mT_eq, mT_lt, mF_le, lm1, rd_nI, wr_nI, cl_nI, pk_us, un_ne, pk_uLs, uL_ne, zI_uI, zI_uJ, zI_uA, zI_uB, zI_uR, zI_uN, zJ_uI, zJ_uJ, zJ_uA, zJ_uB, zJ_uR, zJ_uN, zA_uI, zA_uJ, zA_uA, zA_uB, zA_uR, zA_uN, zB_uI, zB_uJ, zB_uA, zB_uB, zB_uR, zB_uN, zR_uI, zR_uJ, zR_uA, zR_uB, zR_uR, zR_uN, zN_uI, zN_uJ, zN_uA, zN_uB, zN_uR, zN_uN, zI_ne, zJ_ne, zA_ne, zB_ne, zR_ne, zN_ne, bi_T, bi_F, nz16, ↓reduceIte, not_true_eq_false, not_false_eq_true, Bool.false_eq_true, reduceCtorEq, h1, h5, hf]
  · refine ⟨υ, ?_, SE.tr (se30 σ _) h2⟩
    rw [decide_eq_false hs] at h1
    rw [if_neg (fun x => hs x.1)]
    simp (disch := omega) only [l0, l1, l2, l3, l4, l5, l6, l7, l8, l9, l10, l11, l12, l16, l18, l19, l20, l21, l24, l96, l128, l100, l144, l200, l256, l288, l1536, l1728, l1800, bnd, nI_add, pk_mul, pI_sub, pI_m1, pT_le, pF_le, pT_lt, pF_lt, pT_eq, pF_eq, pF_m1, mF_eq, mT_eq, mT_lt, mF_le, lm1, rd_nI, wr_nI, cl_nI, pk_us, un_ne, pk_uLs, uL_ne, zI_uI, zI_uJ, zI_uA, zI_uB, zI_uR, zI_uN, zJ_uI, zJ_uJ, zJ_uA, zJ_uB, zJ_uR, zJ_uN, zA_uI, zA_uJ, zA_uA, zA_uB, zA_uR, zA_uN, zB_uI, zB_uJ, zB_uA, zB_uB, zB_uR, zB_uN, zR_uI, zR_uJ, zR_uA, zR_uB, zR_uR, zR_uN, zN_uI, zN_uJ, zN_uA, zN_uB, zN_uR, zN_uN, zI_ne, zJ_ne, zA_ne, zB_ne, zR_ne, zN_ne, bi_T, bi_F, nz16, ↓reduceIte, not_true_eq_false, not_false_eq_true, Bool.false_eq_true, reduceCtorEq, h1]
