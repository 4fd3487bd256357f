/-! orders: the model lays what led to a state -/
theorem oP_le {v : Nat → Nat} {T : Nat → Nat × Nat} : ∀ (l : List Nat) (a : Nat × Nat), (l.foldl (oP v T) a).1 ≤ a.1
  | [], _ => Nat.le_refl _
  | q :: l, a => by
    rw [List.foldl_cons]
    refine Nat.le_trans (oP_le l _) ?_
    unfold oP
    split
    · exact Nat.le_refl _
    · split
      · show (T q).1 + v q ≤ a.1
        omega
      · split
        · exact Nat.le_refl _
        · exact Nat.le_refl _
theorem oP_at {v : Nat → Nat} {T : Nat → Nat × Nat} {a : Nat × Nat} {q x : Nat} {y : Nat × Nat} (h1 : T q = y) (h2 : v q = x) : oP v T a q = if y.2 = 0 then a else if y.1 + x < a.1 then (y.1 + x, y.2) else if y.1 + x = a.1 then (a.1, a.2 + y.2) else a := by
  subst h1 h2
  rfl
/-- what the first n that may have spoken last give a slot *-/
def QF (g : Gh) (S s q n : Nat) : Nat × Nat := (List.range n).foldl (oP (fun p => og g (zs g S) (s - rx (zs g S) (q - 1)) p (q - 1)) (fun p => xQ g S (s - rx (zs g S) (q - 1)) p)) (10000, 0)
def QN (z : Nat → Nat) (st last r s q : Nat) : Nat := if s - rx z (q - 1) < st then 9 else if s - rx z (q - 1) = st then (if q - 1 < r then last + 1 else last) else 0
def QV (g : Gh) (S st last r s q : Nat) : Nat × Nat := if 1 ≤ q ∧ 0 < sd (zs g S) s (q - 1) then QF g S s q (QN (zs g S) st last r s q) else if s = 0 ∧ q = 0 then (0, 1) else (10000, 0)
theorem QF_succ (g : Gh) (S s q n : Nat) : QF g S s q (n + 1) = oP (fun p => og g (zs g S) (s - rx (zs g S) (q - 1)) p (q - 1)) (fun p => xQ g S (s - rx (zs g S) (q - 1)) p) (QF g S s q n) n := by
  unfold QF
  rw [List.range_succ, List.foldl_append]
  rfl
theorem QV_le (g : Gh) (S st last r s q : Nat) : (QV g S st last r s q).1 ≤ 10000 := by
  unfold QV
  split
  · exact oP_le _ _
  · split
    · exact Nat.zero_le _
    · exact Nat.le_refl _
theorem xQ_full {g : Gh} {S s q : Nat} (hq : q ≤ 8) (hA : rm (zs g S) (s - rx (zs g S) (q - 1)) 8 ≤ oA (zs g S) 8) : xQ g S s q = if 1 ≤ q ∧ 0 < sd (zs g S) s (q - 1) then QF g S s q 9 else if s = 0 ∧ q = 0 then (0, 1) else (10000, 0) := by
  by_cases h : 1 ≤ q ∧ 0 < sd (zs g S) s (q - 1)
  · rw [if_pos h]
    have h1 := sd_pos h.2
    have h2 := sd_back_lt h.2
    have h3 := oB_step (z := zs g S) (gp := og g (zs g S)) (A := oA (zs g S) 8) (st := s - rx (zs g S) (q - 1)) (r := q - 1) (by omega) h2 hA
    rw [show s - rx (zs g S) (q - 1) + rx (zs g S) (q - 1) = s by omega, show q - 1 + 1 = q by omega] at h3
    exact h3
  · rw [if_neg h]
    exact oB_none (by
      by_cases h1 : q = 0
      · exact .inl h1
      · exact .inr (by
          apply Decidable.byContradiction
          intro h2
          exact h ⟨by omega, by omega⟩))
theorem QV_self {g : Gh} {S st last r q : Nat} (hq : q ≤ 8) : QV g S st last r st q = xQ g S st q := by
  rw [xQ_full hq (rm_le _ _ _)]
  unfold QV
  by_cases h : 1 ≤ q ∧ 0 < sd (zs g S) st (q - 1)
  · rw [if_pos h, if_pos h]
    have h1 := sd_pos h.2
    have h2 := rx_pos (zs g S) (q - 1)
    unfold QN
    rw [if_pos (by omega)]
  · rw [if_neg h, if_neg h]
theorem QV_end {g : Gh} {S s q : Nat} (hq : q ≤ 8) (hs : s < rx (zs g S) 8) : QV g S (rx (zs g S) 8) 0 0 s q = xQ g S s q := by
  rw [xQ_full hq (rm_le _ _ _)]
  unfold QV
  by_cases h : 1 ≤ q ∧ 0 < sd (zs g S) s (q - 1)
  · rw [if_pos h, if_pos h]
    unfold QN
    rw [if_pos (by omega)]
  · rw [if_neg h, if_neg h]
theorem xQ_none {g : Gh} {S st q : Nat} (h : ¬ okE (zs g S) st q) : (xQ g S st q).2 = 0 := by
  have h1 : xQ g S st q = _ := oB_none (z := zs g S) (gp := og g (zs g S)) (A := oA (zs g S) 8) (st := st) (q := q) (by
    by_cases h1 : q = 0
    · exact .inl h1
    · exact .inr (by
        apply Decidable.byContradiction
        intro h2
        exact h (.inr ⟨by omega, by omega⟩)))
  rw [h1, if_neg (fun e => h (.inl ⟨e.2, e.1⟩))]
theorem xQ_ways {g : Gh} {S st q : Nat} (hs : sm g S) : (xQ g S st q).2 ≤ 2 ^ 60 := by
  have h1 := oQ_ways (z := zs g S) (gp := og g (zs g S)) (oA (zs g S) 8 - rm (zs g S) st 8) st q
  have h2 := hs.2
  have h5 : (8 : Nat) ^ (oA (zs g S) 8 - rm (zs g S) st 8 - 1) ≤ 8 ^ 20 := Nat.pow_le_pow_right (by decide) (by omega)
  exact Nat.le_trans h1 (Nat.le_trans h5 (by decide))
theorem QF_zero {g : Gh} {S s q n : Nat} (h : (xQ g S (s - rx (zs g S) (q - 1)) n).2 = 0) : QF g S s q (n + 1) = QF g S s q n := by
  rw [QF_succ]
  unfold oP
  rw [if_pos h]
theorem QF_more {g : Gh} {S s q n : Nat} (hS : inG g S) (hn : gN g + 1 ≤ n) : ∀ d, (s - rx (zs g S) (q - 1)) = s - rx (zs g S) (q - 1) → QF g S s q (n + d) = QF g S s q n
  | 0, _ => rfl
  | d + 1, _ => by
    rw [← Nat.add_assoc, QF_zero, QF_more hS hn d rfl]
    apply xQ_none
    rintro (h | h)
    · omega
    · have h1 := zs_none (g := g) (S := S) (r := n + d - 1) hS (by omega)
      have h2 := sd_le (zs g S) (s - rx (zs g S) (q - 1)) (n + d - 1)
      omega
theorem QV_lasts {g : Gh} {S st s q : Nat} (hS : inG g S) (hg : okG g) : QV g S st (gN g + 1) 0 s q = QV g S (st + 1) 0 0 s q := by
  have hgn := hg.1
  unfold QV
  by_cases h : 1 ≤ q ∧ 0 < sd (zs g S) s (q - 1)
  · rw [if_pos h, if_pos h]
    unfold QN
    by_cases h1 : s - rx (zs g S) (q - 1) < st
    · rw [if_pos h1, if_pos (by omega)]
    · rw [if_neg h1]
      by_cases h2 : s - rx (zs g S) (q - 1) = st
      · rw [if_pos h2, if_neg (Nat.not_lt_zero _), if_pos (by omega)]
        have h3 := QF_more (g := g) (S := S) (s := s) (q := q) hS (Nat.le_refl (gN g + 1)) (8 - gN g) rfl
        rw [show gN g + 1 + (8 - gN g) = 9 by omega] at h3
        exact h3.symm
      · rw [if_neg h2, if_neg (by omega)]
        split
        · rw [if_neg (Nat.not_lt_zero _)]
        · rfl
  · rw [if_neg h, if_neg h]
theorem QV_rolls {g : Gh} {S st last s q : Nat} (hS : inG g S) : QV g S st last (gN g) s q = QV g S st (last + 1) 0 s q := by
  unfold QV
  by_cases h : 1 ≤ q ∧ 0 < sd (zs g S) s (q - 1)
  · rw [if_pos h, if_pos h]
    have h4 : q - 1 < gN g := by
      apply Decidable.byContradiction
      intro hx
      have h1 := zs_none (g := g) (S := S) (r := q - 1) hS (by omega)
      have h2 := sd_le (zs g S) s (q - 1)
      omega
    unfold QN
    rw [if_pos h4, if_neg (Nat.not_lt_zero _)]
  · rw [if_neg h, if_neg h]
theorem QV_skip {g : Gh} {S st last s q : Nat} (h0 : (xQ g S st last).2 = 0) : QV g S st last 0 s q = QV g S st (last + 1) 0 s q := by
  unfold QV
  by_cases h : 1 ≤ q ∧ 0 < sd (zs g S) s (q - 1)
  · rw [if_pos h, if_pos h]
    unfold QN
    by_cases h1 : s - rx (zs g S) (q - 1) < st
    · rw [if_pos h1, if_pos h1]
    · rw [if_neg h1, if_neg h1]
      by_cases h2 : s - rx (zs g S) (q - 1) = st
      · rw [if_pos h2, if_pos h2, if_neg (Nat.not_lt_zero _), if_neg (Nat.not_lt_zero _), QF_zero]
        rw [h2]
        exact h0
      · rw [if_neg h2, if_neg h2]
  · rw [if_neg h, if_neg h]
/-- one roll more: nothing but its own slot changes -/
theorem QV_keep {g : Gh} {S st last r s q : Nat} (h : ¬ (q = r + 1 ∧ s = st + rx (zs g S) r ∧ sd (zs g S) st r < zs g S r)) : QV g S st last (r + 1) s q = QV g S st last r s q := by
  unfold QV
  by_cases h1 : 1 ≤ q ∧ 0 < sd (zs g S) s (q - 1)
  · rw [if_pos h1, if_pos h1]
    unfold QN
    by_cases h2 : s - rx (zs g S) (q - 1) < st
    · rw [if_pos h2, if_pos h2]
    · rw [if_neg h2, if_neg h2]
      by_cases h3 : s - rx (zs g S) (q - 1) = st
      · rw [if_pos h3, if_pos h3]
        by_cases h4 : q - 1 = r
        · exfalso
          have h5 := sd_pos h1.2
          have h6 := sd_back_lt h1.2
          rw [h3, h4] at h6
          rw [h4] at h3 h5
          exact h ⟨by omega, by omega, h6⟩
        · by_cases h5 : q - 1 < r
          · rw [if_pos h5, if_pos (by omega)]
          · rw [if_neg h5, if_neg (by omega)]
      · rw [if_neg h3, if_neg h3]
  · rw [if_neg h1, if_neg h1]
theorem QV_put {g : Gh} {S st last r : Nat} (hs : sd (zs g S) st r < zs g S r) : QV g S st last (r + 1) (st + rx (zs g S) r) (r + 1) = oP (fun p => og g (zs g S) st p r) (fun p => xQ g S st p) (QV g S st last r (st + rx (zs g S) r) (r + 1)) last := by
  have h1 : 1 ≤ r + 1 ∧ 0 < sd (zs g S) (st + rx (zs g S) r) (r + 1 - 1) := ⟨by omega, by rw [Nat.add_sub_cancel, sd_same hs]; omega⟩
  have e : st + rx (zs g S) r - rx (zs g S) (r + 1 - 1) = st := by rw [Nat.add_sub_cancel r 1]; exact Nat.add_sub_cancel st _
  unfold QV
  rw [if_pos h1, if_pos h1]
  have e1 : QN (zs g S) st last (r + 1) (st + rx (zs g S) r) (r + 1) = last + 1 := by
    unfold QN
    rw [e, if_neg (Nat.lt_irrefl _), if_pos rfl, if_pos (by omega)]
  have e2 : QN (zs g S) st last r (st + rx (zs g S) r) (r + 1) = last := by
    unfold QN
    rw [e, if_neg (Nat.lt_irrefl _), if_pos rfl, if_neg (by omega)]
  rw [e1, e2, QF_succ, e, Nat.add_sub_cancel]
def TQ (g : Gh) (S : Nat) (f : Nat → Int32) (b : Nat → Int64) (st last r : Nat) : Prop := ∀ s q, s < rx (zs g S) 8 → q ≤ 8 → f (9 * s + q) = nI (QV g S st last r s q).1 ∧ b (9 * s + q) = lN (QV g S st last r s q).2
theorem m_soFar1 {σ : St} {g : Gh} {S st last : Nat} {f0 : Nat → Int32} {b0 : Nat → Int64} (k1 : St → Option St) (h : JS σ g S) (hg : okG g) (hst : st < rx (zs g S) 8) (hl : last ≤ 8) (hok : okE (zs g S) st last) (hw : (xQ g S st last).2 ≠ 0) (hT : TQ g S f0 b0 st last 0) : ∃ f b, TQ g S f b st (last + 1) 0 ∧ fX12_laySoFar_P95 (nI st) (nI last) (nI (9 * st + last)) k1 (uB (uA σ 75 f0) 77 b0) (nI 0) = k1 (uB (uA σ 75 f) 77 b) := by
  have hN := h.2.2.2.2.2.1
  have hgn := hg.1
  have key := it_for (β := (Nat → Int32) × (Nat → Int64)) (body := fun (kb : (St × Int32) → Option St) (t : St × Int32) => fX12_laySoFar_L95 (nI st) (nI last) (nI (9 * st + last)) k1 (fun σ v4 => kb (σ, v4)) t.1 t.2) (gN g) (by omega) (fun i fb => (uB (uA σ 75 fb.1) 77 fb.2, nI i)) (fun i fb => TQ g S fb.1 fb.2 st last i) (fun i fb z => ∃ f b, TQ g S f b st (last + 1) 0 ∧ z = k1 (uB (uA σ 75 f) 77 b)) ?_ 0 (f0, b0) (Nat.zero_le _) hT
  · exact key
  · rintro i ⟨f, b⟩ hi hT kb hkb
    have hT : TQ g S f b st last i := hT
    have hkb : ∀ f1 b1, i < gN g → TQ g S f1 b1 st last (i + 1) → ∃ f b, TQ g S f b st (last + 1) 0 ∧ kb (uB (uA σ 75 f1) 77 b1, nI (i + 1)) = k1 (uB (uA σ 75 f) 77 b) := fun f1 b1 hlt h1 => hkb (f1, b1) hlt h1
    show ∃ f1 b1, _ ∧ fX12_laySoFar_L95 (nI st) (nI last) (nI (9 * st + last)) k1 (fun σ v4 => kb (σ, v4)) (uB (uA σ 75 f) 77 b) (nI i) = _
    have h32 := h.1.1
    unfold fX12_laySoFar_L95
    by_cases hi8 : i = gN g
    · refine ⟨f, b, ?_, by simp (disch := omega) only [l0, l1, l2, l3, l4, l5, l6, l7, l8, l9, l10, l11, l12, l16, l18, l19, l20, l21, l24, l96, l128, l100, l144, l200, l256, l288, l1536, l1728, l1800, bnd, nI_add, pk_mul, pI_sub, pI_m1, pT_le, pF_le, pT_lt, pF_lt, pT_eq, pF_eq, pF_m1, mF_eq, mT_eq, mT_lt, mF_le, lm1, rd_nI, wr_nI, cl_nI, pk_us, un_ne, pk_uLs, uL_ne, zI_uI, zI_uJ, zI_uA, zI_uB, zI_uR, zI_uN, zJ_uI, zJ_uJ, zJ_uA, zJ_uB, zJ_uR, zJ_uN, zA_uI, zA_uJ, zA_uA, zA_uB, zA_uR, zA_uN, zB_uI, zB_uJ, zB_uA, zB_uB, zB_uR, zB_uN, zR_uI, zR_uJ, zR_uA, zR_uB, zR_uR, zR_uN, zN_uI, zN_uJ, zN_uA, zN_uB, zN_uR, zN_uN, zI_ne, zJ_ne, zA_ne, zB_ne, zR_ne, zN_ne, bi_T, bi_F, nz16, ↓reduceIte, not_true_eq_false, not_false_eq_true, Bool.false_eq_true, reduceCtorEq, h32, hi8]⟩
      intro s q h1 h2
      rw [← QV_rolls h.2.1, ← hi8]
      exact hT s q h1 h2
    · have hi9 : i < gN g := by omega
      have hJ : JS (uB (uA σ 75 f) 77 b) g S := h.up (by decide) (by decide) (by decide)
      have hm := m_mayGo (r := i) (st := st) hJ hg (by omega) (by omega)
      by_cases hs : sd (zs g S) st i < zs g S i
      · have hroom := sd_room hs (show i < 8 by omega) hst
        have hxp := rx_pos (zs g S) i
        have h73 := h.2.2.2.2.1 i (by omega)
        have hg1 := m_gapOf (r := i) (st := st) (last := last) hJ hg (by omega) (by omega) hs hl (fun h1 => by rcases hok with h2 | h2; omega; exact h2.2)
        have hTT := hT (st + rx (zs g S) i) (i + 1) hroom (by omega)
        rw [show 9 * (st + rx (zs g S) i) + (i + 1) = 9 * (st + rx (zs g S) i) + i + 1 by omega] at hTT
        have hTs := hT st last hst hl
        have hqs := QV_self (g := g) (S := S) (st := st) (last := last) (r := i) (q := last) hl
        rw [hqs] at hTs
        have hput := QV_put (last := last) hs
        have hle := QV_le g S st last i (st + rx (zs g S) i) (i + 1)
        have hle2 := QV_le g S st last i st last
        rw [hqs] at hle2
        have hogl := og_le g (zs g S) st last i
        have hne : 9 * (st + rx (zs g S) i) + i + 1 ≠ 9 * st + last := by omega
        rw [decide_eq_true hs] at hm
        have go : ∀ (f1 : Nat → Int32) (b1 : Nat → Int64), (∀ j, j ≠ 9 * (st + rx (zs g S) i) + i + 1 → f1 j = f j ∧ b1 j = b j) → f1 (9 * (st + rx (zs g S) i) + i + 1) = nI (QV g S st last (i + 1) (st + rx (zs g S) i) (i + 1)).1 → b1 (9 * (st + rx (zs g S) i) + i + 1) = lN (QV g S st last (i + 1) (st + rx (zs g S) i) (i + 1)).2 → ∃ f b, TQ g S f b st (last + 1) 0 ∧ kb (uB (uA σ 75 f1) 77 b1, nI (i + 1)) = k1 (uB (uA σ 75 f) 77 b) := by
          intro f1 b1 h1 h2 h3
          refine hkb f1 b1 hi9 (fun s q h4 h5 => ?_)
          by_cases e : q = i + 1 ∧ s = st + rx (zs g S) i
          · rw [e.1, e.2]
            exact ⟨h2, h3⟩
          · have e2 := h1 (9 * s + q) (by omega)
            rw [e2.1, e2.2, QV_keep (fun x => e ⟨x.1, x.2.1⟩)]
            exact hT s q h4 h5
        have hput := hput.trans (oP_at (y := xQ g S st last) (x := og g (zs g S) st last i) rfl rfl)
        rw [if_neg hw] at hput
        rw [hput] at go
        have hk9 : 9 * (st + rx (zs g S) i) + i + 1 < 180009 := by omega
        have hk8 : 9 * st + last < 180009 := by omega
        generalize QV g S st last i (st + rx (zs g S) i) (i + 1) = a at *
        generalize xQ g S st last = y at *
        generalize og g (zs g S) st last i = v at *
        obtain ⟨hTs1, hTs2⟩ := hTs
        obtain ⟨hTT1, hTT2⟩ := hTT
        by_cases hlt : y.1 + v < a.1
        · rw [if_pos hlt] at go
          have nx := go (upd f (9 * (st + rx (zs g S) i) + i + 1) (nI (y.1 + v))) (vp_updL b (9 * (st + rx (zs g S) i) + i + 1) (lN y.2)) (fun j hj => ⟨un_ne hj, uL_ne hj⟩) pk_us pk_uLs
          have hmm := jmin (a := a.1) (b := y.1 + v) (by omega) (by omega)
          rw [show min a.1 (y.1 + v) = y.1 + v by omega] at hmm
          simp (disch := omega) only [l0, l1, l2, l3, l4, l5, l6, l7, l8, l9, l10, l11, l12, l16, l18, l19, l20, l21, l24, l96, l128, l100, l144, l200, l256, l288, l1536, l1728, l1800, bnd, nI_add, pk_mul, pI_sub, pI_m1, pT_le, pF_le, pT_lt, pF_lt, pT_eq, pF_eq, pF_m1, mF_eq, mT_eq, mT_lt, mF_le, lm1, rd_nI, wr_nI, cl_nI, pk_us, un_ne, pk_uLs, uL_ne, zI_uI, zI_uJ, zI_uA, zI_uB, zI_uR, zI_uN, zJ_uI, zJ_uJ, zJ_uA, zJ_uB, zJ_uR, zJ_uN, zA_uI, zA_uJ, zA_uA, zA_uB, zA_uR, zA_uN, zB_uI, zB_uJ, zB_uA, zB_uB, zB_uR, zB_uN, zR_uI, zR_uJ, zR_uA, zR_uB, zR_uR, zR_uN, zN_uI, zN_uJ, zN_uA, zN_uB, zN_uR, zN_uN, zI_ne, zJ_ne, zA_ne, zB_ne, zR_ne, zN_ne, bi_T, bi_F, nz16, ↓reduceIte, not_true_eq_false, not_false_eq_true, Bool.false_eq_true, reduceCtorEq, h32, hm, h73, hTs1, hTs2, hTT1, hTT2, hg1, L0, lN_add, hmm, uA_uB, uA_uA, uB_uB, uL_uL, Nat.zero_add]
          exact nx
        · rw [if_neg hlt] at go
          by_cases heq : y.1 + v = a.1
          · rw [if_pos heq] at go
            have nx := go (upd f (9 * (st + rx (zs g S) i) + i + 1) (nI a.1)) (vp_updL b (9 * (st + rx (zs g S) i) + i + 1) (lN (a.2 + y.2))) (fun j hj => ⟨un_ne hj, uL_ne hj⟩) pk_us pk_uLs
            have hmm := jmin (a := a.1) (b := a.1) (by omega) (by omega)
            rw [Nat.min_self] at hmm
            simp (disch := omega) only [l0, l1, l2, l3, l4, l5, l6, l7, l8, l9, l10, l11, l12, l16, l18, l19, l20, l21, l24, l96, l128, l100, l144, l200, l256, l288, l1536, l1728, l1800, bnd, nI_add, pk_mul, pI_sub, pI_m1, pT_le, pF_le, pT_lt, pF_lt, pT_eq, pF_eq, pF_m1, mF_eq, mT_eq, mT_lt, mF_le, lm1, rd_nI, wr_nI, cl_nI, pk_us, un_ne, pk_uLs, uL_ne, zI_uI, zI_uJ, zI_uA, zI_uB, zI_uR, zI_uN, zJ_uI, zJ_uJ, zJ_uA, zJ_uB, zJ_uR, zJ_uN, zA_uI, zA_uJ, zA_uA, zA_uB, zA_uR, zA_uN, zB_uI, zB_uJ, zB_uA, zB_uB, zB_uR, zB_uN, zR_uI, zR_uJ, zR_uA, zR_uB, zR_uR, zR_uN, zN_uI, zN_uJ, zN_uA, zN_uB, zN_uR, zN_uN, zI_ne, zJ_ne, zA_ne, zB_ne, zR_ne, zN_ne, bi_T, bi_F, nz16, ↓reduceIte, not_true_eq_false, not_false_eq_true, Bool.false_eq_true, reduceCtorEq, h32, hm, h73, hTs1, hTs2, hTT1, hTT2, hg1, heq, L0, lN_add, hmm, uA_uB, uA_uA, uB_uB]
            exact nx
          · rw [if_neg heq] at go
            have nx := go (upd f (9 * (st + rx (zs g S) i) + i + 1) (nI a.1)) b (fun j hj => ⟨un_ne hj, rfl⟩) pk_us hTT2
            have hmm := jmin (a := a.1) (b := y.1 + v) (by omega) (by omega)
            rw [show min a.1 (y.1 + v) = a.1 by omega] at hmm
            simp (disch := omega) only [l0, l1, l2, l3, l4, l5, l6, l7, l8, l9, l10, l11, l12, l16, l18, l19, l20, l21, l24, l96, l128, l100, l144, l200, l256, l288, l1536, l1728, l1800, bnd, nI_add, pk_mul, pI_sub, pI_m1, pT_le, pF_le, pT_lt, pF_lt, pT_eq, pF_eq, pF_m1, mF_eq, mT_eq, mT_lt, mF_le, lm1, rd_nI, wr_nI, cl_nI, pk_us, un_ne, pk_uLs, uL_ne, zI_uI, zI_uJ, zI_uA, zI_uB, zI_uR, zI_uN, zJ_uI, zJ_uJ, zJ_uA, zJ_uB, zJ_uR, zJ_uN, zA_uI, zA_uJ, zA_uA, zA_uB, zA_uR, zA_uN, zB_uI, zB_uJ, zB_uA, zB_uB, zB_uR, zB_uN, zR_uI, zR_uJ, zR_uA, zR_uB, zR_uR, zR_uN, zN_uI, zN_uJ, zN_uA, zN_uB, zN_uR, zN_uN, zI_ne, zJ_ne, zA_ne, zB_ne, zR_ne, zN_ne, bi_T, bi_F, nz16, ↓reduceIte, not_true_eq_false, not_false_eq_true, Bool.false_eq_true, reduceCtorEq, h32, hm, h73, hTs1, hTs2, hTT1, hTT2, hg1, L0, lN_add, hmm, uA_uB, uA_uA, uB_uB]
            exact nx
      · have nx := hkb f b hi9 (fun s q h1 h2 => by
          rw [QV_keep (fun x => hs x.2.2)]
          exact hT s q h1 h2)
        rw [decide_eq_false hs] at hm
        simp (disch := omega) only [l0, l1, l2, l3, l4, l5, l6, l7, l8, l9, l10, l11, l12, l16, l18, l19, l20, l21, l24, l96, l128, l100, l144, l200, l256, l288, l1536, l1728, l1800, bnd, nI_add, pk_mul, pI_sub, pI_m1, pT_le, pF_le, pT_lt, pF_lt, pT_eq, pF_eq, pF_m1, mF_eq, mT_eq, mT_lt, mF_le, lm1, rd_nI, wr_nI, cl_nI, pk_us, un_ne, pk_uLs, uL_ne, zI_uI, zI_uJ, zI_uA, zI_uB, zI_uR, zI_uN, zJ_uI, zJ_uJ, zJ_uA, zJ_uB, zJ_uR, zJ_uN, zA_uI, zA_uJ, zA_uA, zA_uB, zA_uR, zA_uN, zB_uI, zB_uJ, zB_uA, zB_uB, zB_uR, zB_uN, zR_uI, zR_uJ, zR_uA, zR_uB, zR_uR, zR_uN, zN_uI, zN_uJ, zN_uA, zN_uB, zN_uR, zN_uN, zI_ne, zJ_ne, zA_ne, zB_ne, zR_ne, zN_ne, bi_T, bi_F, nz16, ↓reduceIte, not_true_eq_false, not_false_eq_true, Bool.false_eq_true, reduceCtorEq, h32, hm]
        exact nx
theorem m_soFar2 {σ : St} {g : Gh} {S st : Nat} {f0 : Nat → Int32} {b0 : Nat → Int64} (k1 : St → Option St) (h : JS σ g S) (hg : okG g) (hst : st < rx (zs g S) 8) (hT : TQ g S f0 b0 st 0 0) : ∃ f b, TQ g S f b (st + 1) 0 0 ∧ fX12_laySoFar_P63 (nI st) k1 (uB (uA σ 75 f0) 77 b0) (nI 0) = k1 (uB (uA σ 75 f) 77 b) := by
  have hN := h.2.2.2.2.2.1
  have hgn := hg.1
  have key := it_for (β := (Nat → Int32) × (Nat → Int64)) (body := fun (kb : (St × Int32) → Option St) (t : St × Int32) => fX12_laySoFar_L63 (nI st) k1 (fun σ v2 => kb (σ, v2)) t.1 t.2) (gN g + 1) (by omega) (fun i fb => (uB (uA σ 75 fb.1) 77 fb.2, nI i)) (fun i fb => TQ g S fb.1 fb.2 st i 0) (fun i fb z => ∃ f b, TQ g S f b (st + 1) 0 0 ∧ z = k1 (uB (uA σ 75 f) 77 b)) ?_ 0 (f0, b0) (Nat.zero_le _) hT
  · exact key
  · rintro i ⟨f, b⟩ hi hT kb hkb
    have hT : TQ g S f b st i 0 := hT
    show ∃ f1 b1, _ ∧ fX12_laySoFar_L63 (nI st) k1 (fun σ v2 => kb (σ, v2)) (uB (uA σ 75 f) 77 b) (nI i) = _
    have h32 := h.1.1
    unfold fX12_laySoFar_L63
    by_cases hi8 : i = gN g + 1
    · refine ⟨f, b, ?_, by simp (disch := omega) only [l0, l1, l2, l3, l4, l5, l6, l7, l8, l9, l10, l11, l12, l16, l18, l19, l20, l21, l24, l96, l128, l100, l144, l200, l256, l288, l1536, l1728, l1800, bnd, nI_add, pk_mul, pI_sub, pI_m1, pT_le, pF_le, pT_lt, pF_lt, pT_eq, pF_eq, pF_m1, mF_eq, mT_eq, mT_lt, mF_le, lm1, rd_nI, wr_nI, cl_nI, pk_us, un_ne, pk_uLs, uL_ne, zI_uI, zI_uJ, zI_uA, zI_uB, zI_uR, zI_uN, zJ_uI, zJ_uJ, zJ_uA, zJ_uB, zJ_uR, zJ_uN, zA_uI, zA_uJ, zA_uA, zA_uB, zA_uR, zA_uN, zB_uI, zB_uJ, zB_uA, zB_uB, zB_uR, zB_uN, zR_uI, zR_uJ, zR_uA, zR_uB, zR_uR, zR_uN, zN_uI, zN_uJ, zN_uA, zN_uB, zN_uR, zN_uN, zI_ne, zJ_ne, zA_ne, zB_ne, zR_ne, zN_ne, bi_T, bi_F, nz16, ↓reduceIte, not_true_eq_false, not_false_eq_true, Bool.false_eq_true, reduceCtorEq, h32, hi8]⟩
      intro s q h1 h2
      rw [← QV_lasts h.2.1 hg, ← hi8]
      exact hT s q h1 h2
    · have hi9 : i ≤ gN g := by omega
      have hTs := (hT st i hst (by omega)).2
      rw [QV_self (by omega)] at hTs
      have hway := xQ_ways (g := g) (S := S) (st := st) (q := i) h.2.2.2.2.2
      have e60 : (2 : Nat) ^ 60 = 1152921504606846976 := by decide
      by_cases hw : (xQ g S st i).2 = 0
      · obtain ⟨f2, b2, h1, h2⟩ := hkb (f, b) (by omega) (fun s q h1 h2 => by
          rw [← QV_skip hw]
          exact hT s q h1 h2)
        refine ⟨f2, b2, h1, ?_⟩
        rw [← h2]
        have hcmp := cT_eq hw
        simp (disch := omega) only [l0, l1, l2, l3, l4, l5, l6, l7, l8, l9, l10, l11, l12, l16, l18, l19, l20, l21, l24, l96, l128, l100, l144, l200, l256, l288, l1536, l1728, l1800, bnd, nI_add, pk_mul, pI_sub, pI_m1, pT_le, pF_le, pT_lt, pF_lt, pT_eq, pF_eq, pF_m1, mF_eq, mT_eq, mT_lt, mF_le, lm1, rd_nI, wr_nI, cl_nI, pk_us, un_ne, pk_uLs, uL_ne, zI_uI, zI_uJ, zI_uA, zI_uB, zI_uR, zI_uN, zJ_uI, zJ_uJ, zJ_uA, zJ_uB, zJ_uR, zJ_uN, zA_uI, zA_uJ, zA_uA, zA_uB, zA_uR, zA_uN, zB_uI, zB_uJ, zB_uA, zB_uB, zB_uR, zB_uN, zR_uI, zR_uJ, zR_uA, zR_uB, zR_uR, zR_uN, zN_uI, zN_uJ, zN_uA, zN_uB, zN_uR, zN_uN, zI_ne, zJ_ne, zA_ne, zB_ne, zR_ne, zN_ne, bi_T, bi_F, nz16, ↓reduceIte, not_true_eq_false, not_false_eq_true, Bool.false_eq_true, reduceCtorEq, h32, hTs, L0, hcmp]
      · have hok : okE (zs g S) st i := by
          apply Classical.byContradiction
          intro hx
          exact hw (xQ_none hx)
        obtain ⟨f1, b1, h1, h2⟩ := m_soFar1 (fun s38 => kb (s38, nI i + nI 1)) h hg hst (show i ≤ 8 by omega) hok hw hT
        obtain ⟨f2, b2, h3, h4⟩ := hkb (f1, b1) (by omega) h1
        refine ⟨f2, b2, h3, ?_⟩
        rw [← h4]
        have hcmp := cF_eq hw (by omega) (show 0 < 9223372036854775808 by omega)
        rw [nI_add] at h2
        simp (disch := omega) only [l0, l1, l2, l3, l4, l5, l6, l7, l8, l9, l10, l11, l12, l16, l18, l19, l20, l21, l24, l96, l128, l100, l144, l200, l256, l288, l1536, l1728, l1800, bnd, nI_add, pk_mul, pI_sub, pI_m1, pT_le, pF_le, pT_lt, pF_lt, pT_eq, pF_eq, pF_m1, mF_eq, mT_eq, mT_lt, mF_le, lm1, rd_nI, wr_nI, cl_nI, pk_us, un_ne, pk_uLs, uL_ne, zI_uI, zI_uJ, zI_uA, zI_uB, zI_uR, zI_uN, zJ_uI, zJ_uJ, zJ_uA, zJ_uB, zJ_uR, zJ_uN, zA_uI, zA_uJ, zA_uA, zA_uB, zA_uR, zA_uN, zB_uI, zB_uJ, zB_uA, zB_uB, zB_uR, zB_uN, zR_uI, zR_uJ, zR_uA, zR_uB, zR_uR, zR_uN, zN_uI, zN_uJ, zN_uA, zN_uB, zN_uR, zN_uN, zI_ne, zJ_ne, zA_ne, zB_ne, zR_ne, zN_ne, bi_T, bi_F, nz16, ↓reduceIte, not_true_eq_false, not_false_eq_true, Bool.false_eq_true, reduceCtorEq, h32, hTs, L0, hcmp]
        exact h2
theorem m_laySoFar {σ : St} {g : Gh} {S : Nat} (h : JS σ g S) (hg : okG g) : ∃ f b, (∀ s q, s < rx (zs g S) 8 → q ≤ 8 → f (9 * s + q) = nI (xQ g S s q).1 ∧ b (9 * s + q) = lN (xQ g S s q).2) ∧ fX12_laySoFar σ = some (uB (uA σ 75 f) 77 b) := by
  have hN := h.2.2.2.2.2.1
  have hp := rx_pos (zs g S) 8
  have h46 := h.2.2.2.1
  have mid : ∀ f0 b0, TQ g S f0 b0 0 0 0 → ∃ f b, (∀ s q, s < rx (zs g S) 8 → q ≤ 8 → f (9 * s + q) = nI (xQ g S s q).1 ∧ b (9 * s + q) = lN (xQ g S s q).2) ∧ fX12_laySoFar_P53 (uB (uA σ 75 f0) 77 b0) (nI 0) = some (uB (uA σ 75 f) 77 b) := by
    intro f0 b0 hT
    have key := it_for (β := (Nat → Int32) × (Nat → Int64)) (body := fun (kb : (St × Int32) → Option St) (t : St × Int32) => fX12_laySoFar_L53 (fun σ v1 => kb (σ, v1)) t.1 t.2) (rx (zs g S) 8) (by omega) (fun i fb => (uB (uA σ 75 fb.1) 77 fb.2, nI i)) (fun i fb => TQ g S fb.1 fb.2 i 0 0) (fun i fb z => ∃ f b, (∀ s q, s < rx (zs g S) 8 → q ≤ 8 → f (9 * s + q) = nI (xQ g S s q).1 ∧ b (9 * s + q) = lN (xQ g S s q).2) ∧ z = some (uB (uA σ 75 f) 77 b)) ?_ 0 (f0, b0) (Nat.zero_le _) hT
    · exact key
    · rintro i ⟨f, b⟩ hi hT kb hkb
      have hT : TQ g S f b i 0 0 := hT
      show ∃ f1 b1, _ ∧ fX12_laySoFar_L53 (fun σ v1 => kb (σ, v1)) (uB (uA σ 75 f) 77 b) (nI i) = _
      unfold fX12_laySoFar_L53
      by_cases hi8 : i = rx (zs g S) 8
      · refine ⟨f, b, fun s q h1 h2 => ?_, by simp (disch := omega) only [l0, l1, l2, l3, l4, l5, l6, l7, l8, l9, l10, l11, l12, l16, l18, l19, l20, l21, l24, l96, l128, l100, l144, l200, l256, l288, l1536, l1728, l1800, bnd, nI_add, pk_mul, pI_sub, pI_m1, pT_le, pF_le, pT_lt, pF_lt, pT_eq, pF_eq, pF_m1, mF_eq, mT_eq, mT_lt, mF_le, lm1, rd_nI, wr_nI, cl_nI, pk_us, un_ne, pk_uLs, uL_ne, zI_uI, zI_uJ, zI_uA, zI_uB, zI_uR, zI_uN, zJ_uI, zJ_uJ, zJ_uA, zJ_uB, zJ_uR, zJ_uN, zA_uI, zA_uJ, zA_uA, zA_uB, zA_uR, zA_uN, zB_uI, zB_uJ, zB_uA, zB_uB, zB_uR, zB_uN, zR_uI, zR_uJ, zR_uA, zR_uB, zR_uR, zR_uN, zN_uI, zN_uJ, zN_uA, zN_uB, zN_uR, zN_uN, zI_ne, zJ_ne, zA_ne, zB_ne, zR_ne, zN_ne, bi_T, bi_F, nz16, ↓reduceIte, not_true_eq_false, not_false_eq_true, Bool.false_eq_true, reduceCtorEq, h46, hi8]⟩
        rw [hi8] at hT
        rw [← QV_end h2 h1]
        exact hT s q h1 h2
      · obtain ⟨f1, b1, h1, h2⟩ := m_soFar2 (fun s39 => kb (s39, nI i + nI 1)) h hg (show i < rx (zs g S) 8 by omega) hT
        obtain ⟨f2, b2, h3, h4⟩ := hkb (f1, b1) (by omega) h1
        refine ⟨f2, b2, h3, ?_⟩
        rw [← h4]
        rw [nI_add] at h2
        simp (disch := omega) only [l0, l1, l2, l3, l4, l5, l6, l7, l8, l9, l10, l11, l12, l16, l18, l19, l20, l21, l24, l96, l128, l100, l144, l200, l256, l288, l1536, l1728, l1800, bnd, nI_add, pk_mul, pI_sub, pI_m1, pT_le, pF_le, pT_lt, pF_lt, pT_eq, pF_eq, pF_m1, mF_eq, mT_eq, mT_lt, mF_le, lm1, rd_nI, wr_nI, cl_nI, pk_us, un_ne, pk_uLs, uL_ne, zI_uI, zI_uJ, zI_uA, zI_uB, zI_uR, zI_uN, zJ_uI, zJ_uJ, zJ_uA, zJ_uB, zJ_uR, zJ_uN, zA_uI, zA_uJ, zA_uA, zA_uB, zA_uR, zA_uN, zB_uI, zB_uJ, zB_uA, zB_uB, zB_uR, zB_uN, zR_uI, zR_uJ, zR_uA, zR_uB, zR_uR, zR_uN, zN_uI, zN_uJ, zN_uA, zN_uB, zN_uR, zN_uN, zI_ne, zJ_ne, zA_ne, zB_ne, zR_ne, zN_ne, bi_T, bi_F, nz16, ↓reduceIte, not_true_eq_false, not_false_eq_true, Bool.false_eq_true, reduceCtorEq, h46]
        exact h2
  have key := it_for (β := (Nat → Int32) × (Nat → Int64)) (body := fun (kb : (St × Int32) → Option St) (t : St × Int32) => fX12_laySoFar_L2 (fun s7 => fX12_laySoFar_P53 s7 (nI 0)) (fun σ v1 => kb (σ, v1)) t.1 t.2) (9 * rx (zs g S) 8) (by omega) (fun i fb => (uB (uA σ 75 fb.1) 77 fb.2, nI i)) (fun i fb => ∀ k, k < i → fb.1 k = nI (if k = 0 then 0 else 10000) ∧ fb.2 k = lN (if k = 0 then 1 else 0)) (fun i fb z => ∃ f b, (∀ s q, s < rx (zs g S) 8 → q ≤ 8 → f (9 * s + q) = nI (xQ g S s q).1 ∧ b (9 * s + q) = lN (xQ g S s q).2) ∧ z = some (uB (uA σ 75 f) 77 b)) ?_ 0 (zA σ 75, zB σ 77) (Nat.zero_le _) (fun k hk => absurd hk (Nat.not_lt_zero _))
  · have key : ∃ f b, (∀ s q, s < rx (zs g S) 8 → q ≤ 8 → f (9 * s + q) = nI (xQ g S s q).1 ∧ b (9 * s + q) = lN (xQ g S s q).2) ∧ fX12_laySoFar_P2 (fun s7 => fX12_laySoFar_P53 s7 (nI 0)) (uB (uA σ 75 (zA σ 75)) 77 (zB σ 77)) (nI 0) = some (uB (uA σ 75 f) 77 b) := key
    obtain ⟨f, b, h1, h2⟩ := key
    refine ⟨f, b, h1, ?_⟩
    rw [uA_self, uB_self] at h2
    rw [← h2]
    rfl
  · rintro i ⟨f, b⟩ hi hT kb hkb
    have hT : ∀ k, k < i → f k = nI (if k = 0 then 0 else 10000) ∧ b k = lN (if k = 0 then 1 else 0) := hT
    show ∃ f1 b1, _ ∧ fX12_laySoFar_L2 (fun s7 => fX12_laySoFar_P53 s7 (nI 0)) (fun σ v1 => kb (σ, v1)) (uB (uA σ 75 f) 77 b) (nI i) = _
    unfold fX12_laySoFar_L2
    by_cases hi8 : i = 9 * rx (zs g S) 8
    · obtain ⟨f2, b2, h1, h2⟩ := mid f b (fun s q h1 h2 => by
        have h3 := hT (9 * s + q) (by omega)
        rw [h3.1, h3.2]
        have e : QV g S 0 0 0 s q = if 9 * s + q = 0 then (0, 1) else (10000, 0) := by
          unfold QV
          by_cases h4 : 1 ≤ q ∧ 0 < sd (zs g S) s (q - 1)
          · rw [if_pos h4, if_neg (by omega)]
            unfold QN
            rw [if_neg (Nat.not_lt_zero _), if_neg (Nat.not_lt_zero _)]
            split <;> rfl
          · rw [if_neg h4]
            by_cases h5 : s = 0 ∧ q = 0
            · rw [if_pos h5, if_pos (by omega)]
            · rw [if_neg h5, if_neg (by omega)]
        rw [e]
        by_cases h5 : 9 * s + q = 0
        · rw [if_pos h5, if_pos h5, if_pos h5]
          exact ⟨rfl, rfl⟩
        · rw [if_neg h5, if_neg h5, if_neg h5]
          exact ⟨rfl, rfl⟩)
      refine ⟨f2, b2, h1, ?_⟩
      rw [← h2]
      simp (disch := omega) only [l0, l1, l2, l3, l4, l5, l6, l7, l8, l9, l10, l11, l12, l16, l18, l19, l20, l21, l24, l96, l128, l100, l144, l200, l256, l288, l1536, l1728, l1800, bnd, nI_add, pk_mul, pI_sub, pI_m1, pT_le, pF_le, pT_lt, pF_lt, pT_eq, pF_eq, pF_m1, mF_eq, mT_eq, mT_lt, mF_le, lm1, rd_nI, wr_nI, cl_nI, pk_us, un_ne, pk_uLs, uL_ne, zI_uI, zI_uJ, zI_uA, zI_uB, zI_uR, zI_uN, zJ_uI, zJ_uJ, zJ_uA, zJ_uB, zJ_uR, zJ_uN, zA_uI, zA_uJ, zA_uA, zA_uB, zA_uR, zA_uN, zB_uI, zB_uJ, zB_uA, zB_uB, zB_uR, zB_uN, zR_uI, zR_uJ, zR_uA, zR_uB, zR_uR, zR_uN, zN_uI, zN_uJ, zN_uA, zN_uB, zN_uR, zN_uN, zI_ne, zJ_ne, zA_ne, zB_ne, zR_ne, zN_ne, bi_T, bi_F, nz16, ↓reduceIte, not_true_eq_false, not_false_eq_true, Bool.false_eq_true, reduceCtorEq, h46, hi8]
    · have nx : ∀ x y, x = (if i = 0 then 0 else 10000) → y = (if i = 0 then 1 else 0) → ∃ f1 b1, (∀ s q, s < rx (zs g S) 8 → q ≤ 8 → f1 (9 * s + q) = nI (xQ g S s q).1 ∧ b1 (9 * s + q) = lN (xQ g S s q).2) ∧ kb (uB (uA σ 75 (upd f i (nI x))) 77 (vp_updL b i (lN y)), nI (i + 1)) = some (uB (uA σ 75 f1) 77 b1) := fun x y hx hy => hkb (upd f i (nI x), vp_updL b i (lN y)) (by omega) (fun k hk => by
        show upd f i (nI x) k = _ ∧ vp_updL b i (lN y) k = _
        by_cases e : k = i
        · rw [e, pk_us, pk_uLs, hx, hy]
          exact ⟨rfl, rfl⟩
        · rw [pk_un e, uL_ne e]
          exact hT k (by omega))
      by_cases h0 : i = 0
      · have n2 := nx 0 1 (by rw [if_pos h0]) (by rw [if_pos h0])
        rw [h0] at n2
        simp (disch := omega) only [l0, l1, l2, l3, l4, l5, l6, l7, l8, l9, l10, l11, l12, l16, l18, l19, l20, l21, l24, l96, l128, l100, l144, l200, l256, l288, l1536, l1728, l1800, bnd, nI_add, pk_mul, pI_sub, pI_m1, pT_le, pF_le, pT_lt, pF_lt, pT_eq, pF_eq, pF_m1, mF_eq, mT_eq, mT_lt, mF_le, lm1, rd_nI, wr_nI, cl_nI, pk_us, un_ne, pk_uLs, uL_ne, zI_uI, zI_uJ, zI_uA, zI_uB, zI_uR, zI_uN, zJ_uI, zJ_uJ, zJ_uA, zJ_uB, zJ_uR, zJ_uN, zA_uI, zA_uJ, zA_uA, zA_uB, zA_uR, zA_uN, zB_uI, zB_uJ, zB_uA, zB_uB, zB_uR, zB_uN, zR_uI, zR_uJ, zR_uA, zR_uB, zR_uR, zR_uN, zN_uI, zN_uJ, zN_uA, zN_uB, zN_uR, zN_uN, zI_ne, zJ_ne, zA_ne, zB_ne, zR_ne, zN_ne, bi_T, bi_F, nz16, ↓reduceIte, not_true_eq_false, not_false_eq_true, Bool.false_eq_true, reduceCtorEq, h46, h0, uA_uB, uA_uA, uB_uB, L0, L1]
        exact n2
      · have n2 := nx 10000 0 (by rw [if_neg h0]) (by rw [if_neg h0])
        simp (disch := omega) only [l0, l1, l2, l3, l4, l5, l6, l7, l8, l9, l10, l11, l12, l16, l18, l19, l20, l21, l24, l96, l128, l100, l144, l200, l256, l288, l1536, l1728, l1800, bnd, nI_add, pk_mul, pI_sub, pI_m1, pT_le, pF_le, pT_lt, pF_lt, pT_eq, pF_eq, pF_m1, mF_eq, mT_eq, mT_lt, mF_le, lm1, rd_nI, wr_nI, cl_nI, pk_us, un_ne, pk_uLs, uL_ne, zI_uI, zI_uJ, zI_uA, zI_uB, zI_uR, zI_uN, zJ_uI, zJ_uJ, zJ_uA, zJ_uB, zJ_uR, zJ_uN, zA_uI, zA_uJ, zA_uA, zA_uB, zA_uR, zA_uN, zB_uI, zB_uJ, zB_uA, zB_uB, zB_uR, zB_uN, zR_uI, zR_uJ, zR_uA, zR_uB, zR_uR, zR_uN, zN_uI, zN_uJ, zN_uA, zN_uB, zN_uR, zN_uN, zI_ne, zJ_ne, zA_ne, zB_ne, zR_ne, zN_ne, bi_T, bi_F, nz16, ↓reduceIte, not_true_eq_false, not_false_eq_true, Bool.false_eq_true, reduceCtorEq, h46, uA_uB, uA_uA, uB_uB, L0, L1, l10000]
        exact n2
