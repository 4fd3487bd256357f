/-! orders: the class counts pairs *-/
abbrev xU (g : Gh) (S st q : Nat) : Nat := oU (zs g S) (og g (zs g S)) (oA (zs g S) 8 - rm (zs g S) st 8) st q
def uS (g : Gh) (S s q : Nat) (u p : Nat) : Nat := if og g (zs g S) (s - rx (zs g S) (q - 1)) p (q - 1) + (xL g S s q).1 = (xL g S (s - rx (zs g S) (q - 1)) p).1 then u + xU g S (s - rx (zs g S) (q - 1)) p else u
def UF (g : Gh) (S s q n : Nat) : Nat := (List.range n).foldl (uS g S s q) 0
def UV (g : Gh) (S st last r s q : Nat) : Nat := UF g S s q (QN (zs g S) st last r s q)
theorem UF_succ (g : Gh) (S s q n : Nat) : UF g S s q (n + 1) = uS g S s q (UF g S s q n) n := by
  unfold UF
  rw [List.range_succ, List.foldl_append]
  rfl
theorem zs_8 {g : Gh} {S r : Nat} (hS : S < 256) (h : 8 ≤ r) : zs g S r = 0 := zs_out (Nat.testBit_lt_two_pow (Nat.lt_of_lt_of_le hS (Nat.pow_le_pow_right (n := 2) (by decide) h)))
theorem xU_rel {g : Gh} {S st q : Nat} (hS : S < 256) (hs : sm g S) : xU g S st q = (if (xQ g S st q).1 + (xL g S st q).1 = (xL g S 0 0).1 then (xQ g S st q).2 else 0) ∧ (xL g S 0 0).1 ≤ (xQ g S st q).1 + (xL g S st q).1 := by
  have h0 : (oL (zs g S) (og g (zs g S)) 0 0).1 ≤ 20 := (xL_le (st := 0) (last := 0) hs).1
  exact oU_rel (z := zs g S) (gp := og g (zs g S)) (A := oA (zs g S) 8) (fun r hr => zs_8 hS hr) (by omega) _ st q (rm_le _ _ _) rfl
theorem xU_le {g : Gh} {S st q : Nat} (hS : S < 256) (hs : sm g S) : xU g S st q ≤ 2 ^ 60 := by
  have h1 := (xU_rel (st := st) (q := q) hS hs).1
  have h2 := xQ_ways (st := st) (q := q) hs
  rw [h1]
  split
  · exact h2
  · exact Nat.zero_le _
theorem xU_none {g : Gh} {S st q : Nat} (hS : S < 256) (hs : sm g S) (h : ¬ okE (zs g S) st q) : xU g S st q = 0 := by
  rw [(xU_rel hS hs).1, xQ_none h]
  split <;> rfl
theorem xU_full {g : Gh} {S s q : Nat} (h : 1 ≤ q ∧ 0 < sd (zs g S) s (q - 1)) (hq : q ≤ 8) : xU g S s q = UF g S s q 9 := by
  have h1 := sd_pos h.2
  have h2 := sd_back_lt h.2
  have h3 := rm_step h2 8 (by omega)
  rw [show s - rx (zs g S) (q - 1) + rx (zs g S) (q - 1) = s by omega] at h3
  have h4 := rm_le (zs g S) (s - rx (zs g S) (q - 1)) 8
  show oU _ _ (oA (zs g S) 8 - rm (zs g S) s 8) s q = _
  rw [show oA (zs g S) 8 - rm (zs g S) s 8 = (oA (zs g S) 8 - rm (zs g S) (s - rx (zs g S) (q - 1)) 8) + 1 by omega]
  show (if _ then _ else _) = _
  rw [if_pos h]
  rfl
theorem UF_skip {g : Gh} {S s q n : Nat} : ∀ d, (∀ p, n ≤ p → p < n + d → xU g S (s - rx (zs g S) (q - 1)) p = 0) → UF g S s q (n + d) = UF g S s q n
  | 0, _ => rfl
  | d + 1, H => by
    rw [← Nat.add_assoc, UF_succ]
    have h1 := H (n + d) (by omega) (by omega)
    unfold uS
    rw [h1, UF_skip d (fun p h2 h3 => H p h2 (by omega))]
    split <;> rfl
/-- what the tables hold when the class is at a state, behind who spoke last, ahead of roll r -/
def TU (τ : St) (g : Gh) (S st last r : Nat) : Prop := (∀ s a, s < rx (zs g S) 8 → a < am S → 0 < sd (zs g S) s (rho S a) → zB τ 46 (s * am S + a) = lN (UV g S st last r s (rho S a + 1))) ∧ ∀ a i b j, a < am S → b < am S → i < zs g S (rho S a) → j < zs g S (rho S b) → zB τ 44 (20 * (oA (zs g S) (rho S a) + i) + (oA (zs g S) (rho S b) + j)) = lN (pc g S (rho S a) i (rho S b) j st + if rho S a + 1 < last ∨ (rho S a + 1 = last ∧ rho S b < r) then pt g S (rho S a) i (rho S b) j st else 0)
theorem pt_zero {g : Gh} {S r i q j st : Nat} (hS : S < 256) (hs : sm g S) (h : xU g S st (r + 1) = 0) (hq : q < 8) (hsq : sd (zs g S) st q < zs g S q) : pt g S r i q j st = 0 := by
  unfold pt
  split
  · rename_i h1
    obtain ⟨h2, h3⟩ := xU_rel (st := st) (q := r + 1) hS hs
    have hm := rm_pos hsq hq
    have h4 := (oG_le (z := zs g S) (st := st) (f := xN g S st (r + 1)) (List.range 8) (1000, 0)).2 q (List.mem_range.mpr hq) hsq
    rw [← oL_step (z := zs g S) (gp := og g (zs g S)) (last := r + 1) hm] at h4
    have h4 : (xL g S st (r + 1)).1 ≤ (xN g S st (r + 1) q).1 := h4
    rw [h, if_pos (by omega)] at h2
    rw [← h2, Nat.zero_mul]
  · rfl
theorem pt_off {g : Gh} {S r i q j st : Nat} (hj : j < zs g S q) (h : ¬ sd (zs g S) st q < zs g S q) : pt g S r i q j st = 0 := by
  unfold pt
  rw [if_neg]
  rintro ⟨_, h2, _⟩
  omega
/-- who spoke last may be skipped where nothing led there -/
theorem TU_skip {τ : St} {g : Gh} {S st n m : Nat} (hS : S < 256) (hs : sm g S) (hnm : n ≤ m) (hz : ∀ p, n ≤ p → p < m → xU g S st p = 0) (h : TU τ g S st n 0) : TU τ g S st m 0 := by
  refine ⟨fun s a h1 h2 h3 => ?_, fun a i b j h1 h2 h3 h4 => ?_⟩
  · rw [h.1 s a h1 h2 h3]
    congr 1
    unfold UV QN
    by_cases e1 : s - rx (zs g S) (rho S a + 1 - 1) < st
    · rw [if_pos e1, if_pos e1]
    · rw [if_neg e1, if_neg e1]
      by_cases e2 : s - rx (zs g S) (rho S a + 1 - 1) = st
      · rw [if_pos e2, if_pos e2, if_neg (Nat.not_lt_zero _), if_neg (Nat.not_lt_zero _)]
        have h5 := UF_skip (g := g) (S := S) (s := s) (q := rho S a + 1) (n := n) (m - n) (fun p h6 h7 => by rw [e2]; exact hz p h6 (by omega))
        rw [show n + (m - n) = m by omega] at h5
        exact h5.symm
      · rw [if_neg e2, if_neg e2]
  · rw [h.2 a i b j h1 h2 h3 h4]
    congr 1
    by_cases e1 : rho S a + 1 < n
    · rw [if_pos (.inl e1), if_pos (.inl (by omega))]
    · rw [if_neg (by omega)]
      by_cases e2 : rho S a + 1 < m
      · rw [if_pos (.inl e2)]
        have hi := rho_in S hS b (by have := rho_am S hS; omega) h2
        by_cases e3 : sd (zs g S) st (rho S b) < zs g S (rho S b)
        · rw [pt_zero hS hs (hz _ (by omega) e2) hi.1 e3]
        · rw [pt_off h4 e3]
      · rw [if_neg (by omega)]
theorem TU_last {τ : St} {g : Gh} {S st n : Nat} (hS : S < 256) (h : TU τ g S st n 8) : TU τ g S st (n + 1) 0 := by
  have h18 := rho_am S hS
  refine ⟨fun s a h1 h2 h3 => ?_, fun a i b j h1 h2 h3 h4 => ?_⟩
  · have hi := rho_in S hS a (by omega) h2
    rw [h.1 s a h1 h2 h3]
    congr 1
    unfold UV QN
    rw [if_pos (show rho S a + 1 - 1 < 8 by omega), if_neg (Nat.not_lt_zero _)]
  · have hi := rho_in S hS b (by omega) h2
    rw [h.2 a i b j h1 h2 h3 h4]
    congr 1
    by_cases e1 : rho S a + 1 < n
    · rw [if_pos (.inl e1), if_pos (.inl (by omega))]
    · by_cases e2 : rho S a + 1 = n
      · rw [if_pos (.inr ⟨e2, hi.1⟩), if_pos (.inl (by omega))]
      · rw [if_neg (by omega), if_neg (by omega)]
theorem TU_state {τ : St} {g : Gh} {S st : Nat} (hS : S < 256) (h : TU τ g S st 9 0) : TU τ g S (st + 1) 0 0 := by
  have h18 := rho_am S hS
  refine ⟨fun s a h1 h2 h3 => ?_, fun a i b j h1 h2 h3 h4 => ?_⟩
  · rw [h.1 s a h1 h2 h3]
    congr 1
    unfold UV QN
    by_cases e1 : s - rx (zs g S) (rho S a + 1 - 1) < st
    · rw [if_pos e1, if_pos (by omega)]
    · rw [if_neg e1]
      by_cases e2 : s - rx (zs g S) (rho S a + 1 - 1) = st
      · rw [if_pos e2, if_neg (Nat.not_lt_zero _), if_pos (by omega)]
      · rw [if_neg e2, if_neg (by omega)]
        split
        · rw [if_neg (Nat.not_lt_zero _)]
        · rfl
  · have hi := rho_in S hS a (by omega) h1
    rw [h.2 a i b j h1 h2 h3 h4]
    congr 1
    rw [if_pos (.inl (by omega)), if_neg (by omega)]
    rfl
theorem TU.fr {σ τ : St} {g : Gh} {S st last r : Nat} {A B K N : List Nat} (h : TU σ g S st last r) (f : FR A B K N σ τ) (hB : ∀ q, q ∈ [44, 46] → q ∉ B) : TU τ g S st last r := by
  unfold TU
  rw [f.2.1 46 (hB 46 (by decide)), f.2.1 44 (hB 44 (by decide))]
  exact h
theorem l420 : (420 : Int32) = nI 420 := nrfl rfl
theorem c_clearPairs {σ : St} {c s : Nat} (hr : rOk σ) (hA : AC σ c s) : ∃ υ, FR [] [44, 46] [] [0, 1, 46] σ υ ∧ zN υ 45 ≤ zN υ 46 ∧ zN υ 46 ≤ 160001 ∧ AC υ (c + 1) s ∧ (∀ k, k < zN υ 46 → zB υ 46 k = lN 0) ∧ (∀ k, k < 420 → zB υ 44 k = lN 0) ∧ fX2_clearPairs σ = some υ := by
  have fin : ∀ τ : St, FR [] [44, 46] [] [0, 1, 46] σ τ → zN τ 45 ≤ zN τ 46 → zN τ 46 ≤ 160001 → AC τ (c + 1) s → ∃ υ, FR [] [44, 46] [] [0, 1, 46] σ υ ∧ zN υ 45 ≤ zN υ 46 ∧ zN υ 46 ≤ 160001 ∧ AC υ (c + 1) s ∧ (∀ k, k < zN υ 46 → zB υ 46 k = lN 0) ∧ (∀ k, k < 420 → zB υ 44 k = lN 0) ∧ fX2_clearPairs_P26 (fun s2 => fX2_clearPairs_P50 s2 (nI 0)) τ (nI 0) = some υ := by
    intro τ hF h1 h2 h3
    have fin2 : ∀ w : St, FR [] [46] [] [] τ w → (∀ k, k < zN w 46 → zB w 46 k = lN 0) → ∃ υ, FR [] [44, 46] [] [0, 1, 46] σ υ ∧ zN υ 45 ≤ zN υ 46 ∧ zN υ 46 ≤ 160001 ∧ AC υ (c + 1) s ∧ (∀ k, k < zN υ 46 → zB υ 46 k = lN 0) ∧ (∀ k, k < 420 → zB υ 44 k = lN 0) ∧ fX2_clearPairs_P50 w (nI 0) = some υ := by
      intro w hU hz
      have key := it_for (β := St) (body := fun (kb : (St × Int32) → Option St) (t : St × Int32) => fX2_clearPairs_L50 (fun σ v1 => kb (σ, v1)) t.1 t.2) 420 (by omega) (fun i y => (y, nI i)) (fun i y => FR [] [44] [] [] w y ∧ ∀ k, k < i → zB y 44 k = lN 0) (fun i y z => ∃ υ, FR [] [44, 46] [] [0, 1, 46] σ υ ∧ zN υ 45 ≤ zN υ 46 ∧ zN υ 46 ≤ 160001 ∧ AC υ (c + 1) s ∧ (∀ k, k < zN υ 46 → zB υ 46 k = lN 0) ∧ (∀ k, k < 420 → zB υ 44 k = lN 0) ∧ z = some υ) ?_ 0 w (Nat.zero_le _) ⟨FR.rf _ _ _ _ _, fun k hk => absurd hk (Nat.not_lt_zero _)⟩
      · exact key
      · rintro i y hi ⟨hY, hy⟩ kb hkb
        show ∃ υ, _ ∧ _ ∧ _ ∧ _ ∧ _ ∧ _ ∧ fX2_clearPairs_L50 (fun σ v1 => kb (σ, v1)) y (nI i) = _
        unfold fX2_clearPairs_L50
        by_cases e : i = 420
        · rw [e] at hy
          have hN46 : zN y 46 = zN τ 46 := (hY.2.2.2.1 46 (by decide)).trans (hU.2.2.2.1 46 (by decide))
          have hN45 : zN y 45 = zN τ 45 := (hY.2.2.2.1 45 (by decide)).trans (hU.2.2.2.1 45 (by decide))
          refine ⟨y, (hF.tr (hU.mono (by decide) (by decide) (by decide) (by decide))).tr (hY.mono (by decide) (by decide) (by decide) (by decide)), by rw [hN45, hN46]; exact h1, by rw [hN46]; exact h2, (h3.fr hU (by decide)).fr hY (by decide), fun k hk => ?_, hy, ?_⟩
          · rw [hY.2.1 46 (by decide)]
            exact hz k (by rw [hN46] at hk; rw [hU.2.2.2.1 46 (by decide)]; exact hk)
          · rw [e]
            simp (disch := omega) only [l0, l1, l2, l3, l4, l5, l6, l7, l8, l9, l10, l11, l12, l16, l18, l19, l20, l21, l24, l96, l128, l100, l144, l200, l256, l288, l1536, l1728, l1800, bnd, nI_add, pk_mul, pI_sub, pI_m1, pT_le, pF_le, pT_lt, pF_lt, pT_eq, pF_eq, pF_m1, mF_eq, mT_eq, mT_lt, mF_le, lm1, rd_nI, wr_nI, cl_nI, pk_us, un_ne, pk_uLs, uL_ne, zI_uI, zI_uJ, zI_uA, zI_uB, zI_uR, zI_uN, zJ_uI, zJ_uJ, zJ_uA, zJ_uB, zJ_uR, zJ_uN, zA_uI, zA_uJ, zA_uA, zA_uB, zA_uR, zA_uN, zB_uI, zB_uJ, zB_uA, zB_uB, zB_uR, zB_uN, zR_uI, zR_uJ, zR_uA, zR_uB, zR_uR, zR_uN, zN_uI, zN_uJ, zN_uA, zN_uB, zN_uR, zN_uN, zI_ne, zJ_ne, zA_ne, zB_ne, zR_ne, zN_ne, bi_T, bi_F, nz16, ↓reduceIte, not_true_eq_false, not_false_eq_true, Bool.false_eq_true, reduceCtorEq, l420]
        · have nx := hkb (uB y 44 (vp_updL (zB y 44) i (lN 0))) (by omega) ⟨FR.uB hY (by decide), fun k hk => by
            by_cases e2 : k = i
            · rw [e2, zB_uB, pk_uLs]
            · rw [zB_uB, uL_ne e2]
              exact hy k (by omega)⟩
          simp (disch := omega) only [l0, l1, l2, l3, l4, l5, l6, l7, l8, l9, l10, l11, l12, l16, l18, l19, l20, l21, l24, l96, l128, l100, l144, l200, l256, l288, l1536, l1728, l1800, bnd, nI_add, pk_mul, pI_sub, pI_m1, pT_le, pF_le, pT_lt, pF_lt, pT_eq, pF_eq, pF_m1, mF_eq, mT_eq, mT_lt, mF_le, lm1, rd_nI, wr_nI, cl_nI, pk_us, un_ne, pk_uLs, uL_ne, zI_uI, zI_uJ, zI_uA, zI_uB, zI_uR, zI_uN, zJ_uI, zJ_uJ, zJ_uA, zJ_uB, zJ_uR, zJ_uN, zA_uI, zA_uJ, zA_uA, zA_uB, zA_uR, zA_uN, zB_uI, zB_uJ, zB_uA, zB_uB, zB_uR, zB_uN, zR_uI, zR_uJ, zR_uA, zR_uB, zR_uR, zR_uN, zN_uI, zN_uJ, zN_uA, zN_uB, zN_uR, zN_uN, zI_ne, zJ_ne, zA_ne, zB_ne, zR_ne, zN_ne, bi_T, bi_F, nz16, ↓reduceIte, not_true_eq_false, not_false_eq_true, Bool.false_eq_true, reduceCtorEq, l420, L0]
          exact nx
    have key := it_for (β := St) (body := fun (kb : (St × Int32) → Option St) (t : St × Int32) => fX2_clearPairs_L26 (fun s2 => fX2_clearPairs_P50 s2 (nI 0)) (fun σ v1 => kb (σ, v1)) t.1 t.2) (zN τ 46) (by omega) (fun i y => (y, nI i)) (fun i y => FR [] [46] [] [] τ y ∧ ∀ k, k < i → zB y 46 k = lN 0) (fun i y z => ∃ υ, FR [] [44, 46] [] [0, 1, 46] σ υ ∧ zN υ 45 ≤ zN υ 46 ∧ zN υ 46 ≤ 160001 ∧ AC υ (c + 1) s ∧ (∀ k, k < zN υ 46 → zB υ 46 k = lN 0) ∧ (∀ k, k < 420 → zB υ 44 k = lN 0) ∧ z = some υ) ?_ 0 τ (Nat.zero_le _) ⟨FR.rf _ _ _ _ _, fun k hk => absurd hk (Nat.not_lt_zero _)⟩
    · exact key
    · rintro i y hi ⟨hY, hy⟩ kb hkb
      have hN46 : zN y 46 = zN τ 46 := hY.2.2.2.1 46 (by decide)
      by_cases e : i = zN τ 46
      · obtain ⟨υ, h4, h5, h6, h7, h8, h9, h10⟩ := fin2 y hY (by rw [hN46, ← e]; exact hy)
        refine ⟨υ, h4, h5, h6, h7, h8, h9, ?_⟩
        show fX2_clearPairs_L26 _ (fun σ v1 => kb (σ, v1)) y (nI i) = _
        unfold fX2_clearPairs_L26
        rw [← h10]
        simp (disch := omega) only [l0, l1, l2, l3, l4, l5, l6, l7, l8, l9, l10, l11, l12, l16, l18, l19, l20, l21, l24, l96, l128, l100, l144, l200, l256, l288, l1536, l1728, l1800, bnd, nI_add, pk_mul, pI_sub, pI_m1, pT_le, pF_le, pT_lt, pF_lt, pT_eq, pF_eq, pF_m1, mF_eq, mT_eq, mT_lt, mF_le, lm1, rd_nI, wr_nI, cl_nI, pk_us, un_ne, pk_uLs, uL_ne, zI_uI, zI_uJ, zI_uA, zI_uB, zI_uR, zI_uN, zJ_uI, zJ_uJ, zJ_uA, zJ_uB, zJ_uR, zJ_uN, zA_uI, zA_uJ, zA_uA, zA_uB, zA_uR, zA_uN, zB_uI, zB_uJ, zB_uA, zB_uB, zB_uR, zB_uN, zR_uI, zR_uJ, zR_uA, zR_uB, zR_uR, zR_uN, zN_uI, zN_uJ, zN_uA, zN_uB, zN_uR, zN_uN, zI_ne, zJ_ne, zA_ne, zB_ne, zR_ne, zN_ne, bi_T, bi_F, nz16, ↓reduceIte, not_true_eq_false, not_false_eq_true, Bool.false_eq_true, reduceCtorEq, oNI, hN46, e]
      · obtain ⟨υ, h4, h5, h6, h7, h8, h9, h10⟩ := hkb (uB y 46 (vp_updL (zB y 46) i (lN 0))) (by omega) ⟨FR.uB hY (by decide), fun k hk => by
          by_cases e2 : k = i
          · rw [e2, zB_uB, pk_uLs]
          · rw [zB_uB, uL_ne e2]
            exact hy k (by omega)⟩
        refine ⟨υ, h4, h5, h6, h7, h8, h9, ?_⟩
        rw [← h10]
        show fX2_clearPairs_L26 _ (fun σ v1 => kb (σ, v1)) y (nI i) = _
        unfold fX2_clearPairs_L26
        simp (disch := omega) only [l0, l1, l2, l3, l4, l5, l6, l7, l8, l9, l10, l11, l12, l16, l18, l19, l20, l21, l24, l96, l128, l100, l144, l200, l256, l288, l1536, l1728, l1800, bnd, nI_add, pk_mul, pI_sub, pI_m1, pT_le, pF_le, pT_lt, pF_lt, pT_eq, pF_eq, pF_m1, mF_eq, mT_eq, mT_lt, mF_le, lm1, rd_nI, wr_nI, cl_nI, pk_us, un_ne, pk_uLs, uL_ne, zI_uI, zI_uJ, zI_uA, zI_uB, zI_uR, zI_uN, zJ_uI, zJ_uJ, zJ_uA, zJ_uB, zJ_uR, zJ_uN, zA_uI, zA_uJ, zA_uA, zA_uB, zA_uR, zA_uN, zB_uI, zB_uJ, zB_uA, zB_uB, zB_uR, zB_uN, zR_uI, zR_uJ, zR_uA, zR_uB, zR_uR, zR_uN, zN_uI, zN_uJ, zN_uA, zN_uB, zN_uR, zN_uN, zI_ne, zJ_ne, zA_ne, zB_ne, zR_ne, zN_ne, bi_T, bi_F, nz16, ↓reduceIte, not_true_eq_false, not_false_eq_true, Bool.false_eq_true, reduceCtorEq, oNI, hN46, L0]
  obtain ⟨hA1, hA2, hA3, hA4⟩ := hA
  by_cases hn : zN σ 45 ≤ zN σ 46
  · obtain ⟨υ, h4, h5, h6, h7, h8, h9, h10⟩ := fin σ (FR.rf _ _ _ _ _) hn (by omega) ⟨hA1, hA2, by omega, hA4⟩
    refine ⟨υ, h4, h5, h6, h7, h8, h9, ?_⟩
    unfold fX2_clearPairs
    rw [← h10]
    simp (disch := omega) only [l0, l1, l2, l3, l4, l5, l6, l7, l8, l9, l10, l11, l12, l16, l18, l19, l20, l21, l24, l96, l128, l100, l144, l200, l256, l288, l1536, l1728, l1800, bnd, nI_add, pk_mul, pI_sub, pI_m1, pT_le, pF_le, pT_lt, pF_lt, pT_eq, pF_eq, pF_m1, mF_eq, mT_eq, mT_lt, mF_le, lm1, rd_nI, wr_nI, cl_nI, pk_us, un_ne, pk_uLs, uL_ne, zI_uI, zI_uJ, zI_uA, zI_uB, zI_uR, zI_uN, zJ_uI, zJ_uJ, zJ_uA, zJ_uB, zJ_uR, zJ_uN, zA_uI, zA_uJ, zA_uA, zA_uB, zA_uR, zA_uN, zB_uI, zB_uJ, zB_uA, zB_uB, zB_uR, zB_uN, zR_uI, zR_uJ, zR_uA, zR_uB, zR_uR, zR_uN, zN_uI, zN_uJ, zN_uA, zN_uB, zN_uR, zN_uN, zI_ne, zJ_ne, zA_ne, zB_ne, zR_ne, zN_ne, bi_T, bi_F, nz16, ↓reduceIte, not_true_eq_false, not_false_eq_true, Bool.false_eq_true, reduceCtorEq, oNI]
  · have hnb := fun (o : Option St) => nb_ok (σ := σ) (id := 46) (n := zN σ 45) (o := o) (by omega) (fun k => (hr k).2)
    have hF : FR [] [44, 46] [] [0, 1, 46] σ (uNew σ 46 (nI (zN σ 45))) := by
      unfold uNew
      exact FR.uN (FR.uN (FR.uN (FR.uB (FR.rf _ _ _ _ _) (by decide)) (by decide)) (by decide)) (by decide)
    have e46 : zN (uNew σ 46 (nI (zN σ 45))) 46 = zN σ 45 := by unfold uNew; simp (disch := omega) only [l0, l1, l2, l3, l4, l5, l6, l7, l8, l9, l10, l11, l12, l16, l18, l19, l20, l21, l24, l96, l128, l100, l144, l200, l256, l288, l1536, l1728, l1800, bnd, nI_add, pk_mul, pI_sub, pI_m1, pT_le, pF_le, pT_lt, pF_lt, pT_eq, pF_eq, pF_m1, mF_eq, mT_eq, mT_lt, mF_le, lm1, rd_nI, wr_nI, cl_nI, pk_us, un_ne, pk_uLs, uL_ne, zI_uI, zI_uJ, zI_uA, zI_uB, zI_uR, zI_uN, zJ_uI, zJ_uJ, zJ_uA, zJ_uB, zJ_uR, zJ_uN, zA_uI, zA_uJ, zA_uA, zA_uB, zA_uR, zA_uN, zB_uI, zB_uJ, zB_uA, zB_uB, zB_uR, zB_uN, zR_uI, zR_uJ, zR_uA, zR_uB, zR_uR, zR_uN, zN_uI, zN_uJ, zN_uA, zN_uB, zN_uR, zN_uN, zI_ne, zJ_ne, zA_ne, zB_ne, zR_ne, zN_ne, bi_T, bi_F, nz16, ↓reduceIte, not_true_eq_false, not_false_eq_true, Bool.false_eq_true, reduceCtorEq]
    have e45 : zN (uNew σ 46 (nI (zN σ 45))) 45 = zN σ 45 := hF.2.2.2.1 45 (by decide)
    have e0 : zN (uNew σ 46 (nI (zN σ 45))) 0 = zN σ 0 + 1 := by unfold uNew; simp (disch := omega) only [l0, l1, l2, l3, l4, l5, l6, l7, l8, l9, l10, l11, l12, l16, l18, l19, l20, l21, l24, l96, l128, l100, l144, l200, l256, l288, l1536, l1728, l1800, bnd, nI_add, pk_mul, pI_sub, pI_m1, pT_le, pF_le, pT_lt, pF_lt, pT_eq, pF_eq, pF_m1, mF_eq, mT_eq, mT_lt, mF_le, lm1, rd_nI, wr_nI, cl_nI, pk_us, un_ne, pk_uLs, uL_ne, zI_uI, zI_uJ, zI_uA, zI_uB, zI_uR, zI_uN, zJ_uI, zJ_uJ, zJ_uA, zJ_uB, zJ_uR, zJ_uN, zA_uI, zA_uJ, zA_uA, zA_uB, zA_uR, zA_uN, zB_uI, zB_uJ, zB_uA, zB_uB, zB_uR, zB_uN, zR_uI, zR_uJ, zR_uA, zR_uB, zR_uR, zR_uN, zN_uI, zN_uJ, zN_uA, zN_uB, zN_uR, zN_uN, zI_ne, zJ_ne, zA_ne, zB_ne, zR_ne, zN_ne, bi_T, bi_F, nz16, ↓reduceIte, not_true_eq_false, not_false_eq_true, Bool.false_eq_true, reduceCtorEq]
    have e1 : zN (uNew σ 46 (nI (zN σ 45))) 1 = zN σ 1 + zN σ 45 := by unfold uNew; simp (disch := omega) only [l0, l1, l2, l3, l4, l5, l6, l7, l8, l9, l10, l11, l12, l16, l18, l19, l20, l21, l24, l96, l128, l100, l144, l200, l256, l288, l1536, l1728, l1800, bnd, nI_add, pk_mul, pI_sub, pI_m1, pT_le, pF_le, pT_lt, pF_lt, pT_eq, pF_eq, pF_m1, mF_eq, mT_eq, mT_lt, mF_le, lm1, rd_nI, wr_nI, cl_nI, pk_us, un_ne, pk_uLs, uL_ne, zI_uI, zI_uJ, zI_uA, zI_uB, zI_uR, zI_uN, zJ_uI, zJ_uJ, zJ_uA, zJ_uB, zJ_uR, zJ_uN, zA_uI, zA_uJ, zA_uA, zA_uB, zA_uR, zA_uN, zB_uI, zB_uJ, zB_uA, zB_uB, zB_uR, zB_uN, zR_uI, zR_uJ, zR_uA, zR_uB, zR_uR, zR_uN, zN_uI, zN_uJ, zN_uA, zN_uB, zN_uR, zN_uN, zI_ne, zJ_ne, zA_ne, zB_ne, zR_ne, zN_ne, bi_T, bi_F, nz16, ↓reduceIte, not_true_eq_false, not_false_eq_true, Bool.false_eq_true, reduceCtorEq]
    obtain ⟨υ, h4, h5, h6, h7, h8, h9, h10⟩ := fin (uNew σ 46 (nI (zN σ 45))) hF (by rw [e45, e46]; exact Nat.le_refl _) (by rw [e46]; exact hA1) ⟨by rw [e45]; exact hA1, .inl (by rw [e45, e46]), by rw [e0]; omega, by
      rw [e1, e45, e46]
      have hp : pot (zN σ 46) + zN σ 45 ≤ pot (zN σ 45) := by
        unfold pot
        rw [if_neg (show ¬ zN σ 46 = 160001 by omega)]
        split <;> omega
      omega⟩
    refine ⟨υ, h4, h5, h6, h7, h8, h9, ?_⟩
    unfold fX2_clearPairs
    rw [← h10]
    simp (disch := omega) only [l0, l1, l2, l3, l4, l5, l6, l7, l8, l9, l10, l11, l12, l16, l18, l19, l20, l21, l24, l96, l128, l100, l144, l200, l256, l288, l1536, l1728, l1800, bnd, nI_add, pk_mul, pI_sub, pI_m1, pT_le, pF_le, pT_lt, pF_lt, pT_eq, pF_eq, pF_m1, mF_eq, mT_eq, mT_lt, mF_le, lm1, rd_nI, wr_nI, cl_nI, pk_us, un_ne, pk_uLs, uL_ne, zI_uI, zI_uJ, zI_uA, zI_uB, zI_uR, zI_uN, zJ_uI, zJ_uJ, zJ_uA, zJ_uB, zJ_uR, zJ_uN, zA_uI, zA_uJ, zA_uA, zA_uB, zA_uR, zA_uN, zB_uI, zB_uJ, zB_uA, zB_uB, zB_uR, zB_uN, zR_uI, zR_uJ, zR_uA, zR_uB, zR_uR, zR_uN, zN_uI, zN_uJ, zN_uA, zN_uB, zN_uR, zN_uN, zI_ne, zJ_ne, zA_ne, zB_ne, zR_ne, zN_ne, bi_T, bi_F, nz16, ↓reduceIte, not_true_eq_false, not_false_eq_true, Bool.false_eq_true, reduceCtorEq, oNI, hnb]
theorem UV_keep {g : Gh} {S st last s a b : Nat} (hS : S < 256) (ha : a < am S) (hb : b < am S) (hv : 0 < sd (zs g S) s (rho S a)) (h : ¬ (a = b ∧ s = st + rx (zs g S) (rho S b) ∧ sd (zs g S) st (rho S b) < zs g S (rho S b))) : UV g S st last (rho S (b + 1)) s (rho S a + 1) = UV g S st last (rho S b) s (rho S a + 1) := by
  unfold UV QN
  rw [Nat.add_sub_cancel]
  by_cases h2 : s - rx (zs g S) (rho S a) < st
  · rw [if_pos h2, if_pos h2]
  · rw [if_neg h2, if_neg h2]
    by_cases h3 : s - rx (zs g S) (rho S a) = st
    · rw [if_pos h3, if_pos h3]
      rcases Nat.lt_trichotomy a b with h4 | h4 | h4
      · have h5 := rho_mono hS (by omega) h4
        have h6 := rho_mono hS (show b + 1 ≤ am S by omega) (show b < b + 1 by omega)
        rw [if_pos (by omega), if_pos h5]
      · exfalso
        have h5 := sd_pos hv
        have h6 := sd_back_lt hv
        rw [h3, h4] at h6
        rw [h4] at h3 h5
        exact h ⟨h4, by omega, h6⟩
      · have h5 := rho_mono hS (show a ≤ am S by omega) h4
        have h6 : rho S (b + 1) ≤ rho S a := by
          by_cases e : b + 1 = a
          · rw [e]
            exact Nat.le_refl _
          · exact Nat.le_of_lt (rho_mono hS (show a ≤ am S by omega) (show b + 1 < a by omega))
        rw [if_neg (by omega), if_neg (by omega)]
    · rw [if_neg h3, if_neg h3]
theorem UV_put {g : Gh} {S st last b : Nat} (hS : S < 256) (hb : b < am S) (hs : sd (zs g S) st (rho S b) < zs g S (rho S b)) : UV g S st last (rho S (b + 1)) (st + rx (zs g S) (rho S b)) (rho S b + 1) = if (xN g S st last (rho S b)).1 = (xL g S st last).1 then UV g S st last (rho S b) (st + rx (zs g S) (rho S b)) (rho S b + 1) + xU g S st last else UV g S st last (rho S b) (st + rx (zs g S) (rho S b)) (rho S b + 1) := by
  have e : st + rx (zs g S) (rho S b) - rx (zs g S) (rho S b + 1 - 1) = st := by rw [Nat.add_sub_cancel (rho S b) 1]; exact Nat.add_sub_cancel st _
  have h6 := rho_mono hS (show b + 1 ≤ am S by omega) (show b < b + 1 by omega)
  have e1 : QN (zs g S) st last (rho S (b + 1)) (st + rx (zs g S) (rho S b)) (rho S b + 1) = last + 1 := by
    unfold QN
    rw [e, if_neg (Nat.lt_irrefl _), if_pos rfl, if_pos (by omega)]
  have e2 : QN (zs g S) st last (rho S b) (st + rx (zs g S) (rho S b)) (rho S b + 1) = last := by
    unfold QN
    rw [e, if_neg (Nat.lt_irrefl _), if_pos rfl, if_neg (by omega)]
  unfold UV
  rw [e1, e2, UF_succ]
  unfold uS
  rw [e, Nat.add_sub_cancel]
  have e3 : (xN g S st last (rho S b)).1 = (xL g S (st + rx (zs g S) (rho S b)) (rho S b + 1)).1 + og g (zs g S) st last (rho S b) := rfl
  rw [e3, Nat.add_comm]
theorem pt_put {g : Gh} {S st r i q j : Nat} (hS : S < 256) (hsm : sm g S) (hq : q < 8) (hj : j < zs g S q) (hsr : sd (zs g S) st r = i + 1) (hsq : sd (zs g S) st q = j) : pt g S r i q j st = if (xN g S st (r + 1) q).1 = (xL g S st (r + 1)).1 then xU g S st (r + 1) * (xN g S st (r + 1) q).2 else 0 := by
  have hlt : sd (zs g S) st q < zs g S q := by omega
  obtain ⟨h2, h3⟩ := xU_rel (st := st) (q := r + 1) hS hsm
  have hm := rm_pos hlt hq
  have h4 := (oG_le (z := zs g S) (st := st) (f := xN g S st (r + 1)) (List.range 8) (1000, 0)).2 q (List.mem_range.mpr hq) hlt
  rw [← oL_step (z := zs g S) (gp := og g (zs g S)) (last := r + 1) hm] at h4
  have h4 : (xL g S st (r + 1)).1 ≤ (xN g S st (r + 1) q).1 := h4
  unfold pt
  by_cases e : (xN g S st (r + 1) q).1 = (xL g S st (r + 1)).1
  · rw [if_pos e, h2]
    by_cases e2 : (xQ g S st (r + 1)).1 + (xL g S st (r + 1)).1 = (xL g S 0 0).1
    · rw [if_pos e2, if_pos ⟨hsr, hsq, by omega⟩]
    · rw [if_neg e2, if_neg (fun x => e2 (by omega)), Nat.zero_mul]
  · rw [if_neg e, if_neg (fun x => e (by omega))]
theorem pt_not {g : Gh} {S st r i q j : Nat} (h : ¬ (sd (zs g S) st r = i + 1 ∧ sd (zs g S) st q = j)) : pt g S r i q j st = 0 := if_neg (fun x => h ⟨x.1, x.2.1⟩)
/-- the counting of pairs is under way -/
def QF2 (σ τ : St) : Prop := FR [40, 41, 42] [43, 44, 46] [] [] σ τ
theorem c_spread {σ τ : St} {g : Gh} {S st last x k : Nat} (hg : okG g) (hT : TD σ g S) (h46 : zN σ 45 ≤ zN σ 46) (h461 : zN σ 46 ≤ 160001) (hF : QF2 σ τ) (hst : st < rx (zs g S) 8) (hA : LA τ g S st (am S)) (hD : SD τ g S st) (hx : LC g S st last x) (hk : SK σ g S st last k) (hU : TU τ g S st last 0) : ∃ υ, QF2 σ υ ∧ LA υ g S st (am S) ∧ SD υ g S st ∧ TU υ g S st (last + 1) 0 ∧ fX2_spread τ (nI st) (nI x) (nI k) (lN (xU g S st last)) = some υ := by
  have hS := hT.1.1
  have hsm := hT.1.2.1
  have h1 := rho_am S hS.1
  have hx20 : x ≤ 20 := by
    rcases hx with hx | hx
    · omega
    · have h3 := oA_lt (z := zs g S) (r := last - 1) (n := 8) (by omega)
      have h4 := sd_le (zs g S) st (last - 1)
      have h5 := hsm.2
      omega
  have key := it_for (β := St) (body := fun (kb : (St × Int32) → Option St) (t : St × Int32) => fX2_spread_L3 (nI st) (nI x) (nI k) (lN (xU g S st last)) (fun σ v6 => kb (σ, v6)) t.1 t.2) (am S) (by omega) (fun b y => (y, nI b)) (fun b y => QF2 σ y ∧ LA y g S st (am S) ∧ SD y g S st ∧ TU y g S st last (rho S b)) (fun b y z => ∃ υ, QF2 σ υ ∧ LA υ g S st (am S) ∧ SD υ g S st ∧ TU υ g S st (last + 1) 0 ∧ z = some υ) ?_ 0 τ (Nat.zero_le _) ⟨hF, hA, hD, ?_⟩
  · exact key
  · rintro b y hb ⟨hY, hyA, hyD, hyU⟩ kb hkb
    show ∃ υ, _ ∧ _ ∧ _ ∧ _ ∧ fX2_spread_L3 (nI st) (nI x) (nI k) (lN (xU g S st last)) (fun σ v6 => kb (σ, v6)) y (nI b) = _
    have hTy : TD y g S := hT.fr hY (by decide) (by decide) (by decide) (by decide)
    have h21 := hTy.1.2.2.2.1
    unfold fX2_spread_L3
    by_cases hbe : b = am S
    · rw [hbe, (rho_cnt S hS.1).2.1] at hyU
      exact ⟨y, hY, hyA, hyD, TU_last hS.1 hyU, by simp (disch := omega) only [l0, l1, l2, l3, l4, l5, l6, l7, l8, l9, l10, l11, l12, l16, l18, l19, l20, l21, l24, l96, l128, l100, l144, l200, l256, l288, l1536, l1728, l1800, bnd, nI_add, pk_mul, pI_sub, pI_m1, pT_le, pF_le, pT_lt, pF_lt, pT_eq, pF_eq, pF_m1, mF_eq, mT_eq, mT_lt, mF_le, lm1, rd_nI, wr_nI, cl_nI, pk_us, un_ne, pk_uLs, uL_ne, zI_uI, zI_uJ, zI_uA, zI_uB, zI_uR, zI_uN, zJ_uI, zJ_uJ, zJ_uA, zJ_uB, zJ_uR, zJ_uN, zA_uI, zA_uJ, zA_uA, zA_uB, zA_uR, zA_uN, zB_uI, zB_uJ, zB_uA, zB_uB, zB_uR, zB_uN, zR_uI, zR_uJ, zR_uA, zR_uB, zR_uR, zR_uN, zN_uI, zN_uJ, zN_uA, zN_uB, zN_uR, zN_uN, zI_ne, zJ_ne, zA_ne, zB_ne, zR_ne, zN_ne, bi_T, bi_F, nz16, ↓reduceIte, not_true_eq_false, not_false_eq_true, Bool.false_eq_true, reduceCtorEq, h21, hbe]⟩
    · have hb2 : b < am S := by omega
      have hi := rho_in S hS.1 b (by omega) hb2
      have hl := hTy.1.2.2.1 b hb2
      have h40 := hyD b hb2
      have hky := hk.fr hY (by decide) (by decide)
      have hxl := xL_le (st := st) (last := last) hsm
      have hga := c_gapsAt (τ := y) hky.1 hTy.1.2.2.2.2.2.2.2 (by omega) hky.2
      have hgn := c_gapsIfNext hg hS hyA hb2 hx hsm
      have hle := sd_le (zs g S) st (rho S b)
      have hz := zs_le hg hS hi.1
      have hol := oA_lt (z := zs g S) hi.1
      have ho20 := hsm.2
      have hy46 : zN y 46 = zN σ 46 := hY.2.2.2.1 46 (by decide)
      have hy45 : zN y 45 = zN σ 45 := hY.2.2.2.1 45 (by decide)
      unfold gn at hgn
      have skip : (∀ a i j, a < am S → i < zs g S (rho S a) → j < zs g S (rho S b) → rho S a + 1 = last → pt g S (rho S a) i (rho S b) j st = 0) → UV g S st last (rho S (b + 1)) (st + rx (zs g S) (rho S b)) (rho S b + 1) = UV g S st last (rho S b) (st + rx (zs g S) (rho S b)) (rho S b + 1) ∨ ¬ sd (zs g S) st (rho S b) < zs g S (rho S b) → TU y g S st last (rho S (b + 1)) := by
        intro hp hu
        refine ⟨fun s a h2 h3 h4 => ?_, fun a i c j h2 h3 h4 h5 => ?_⟩
        · rw [hyU.1 s a h2 h3 h4]
          by_cases e : a = b ∧ s = st + rx (zs g S) (rho S b) ∧ sd (zs g S) st (rho S b) < zs g S (rho S b)
          · rcases hu with hu | hu
            · rw [e.1, e.2.1, hu]
            · exact absurd e.2.2 hu
          · rw [UV_keep hS.1 h3 hb2 h4 e]
        · rw [hyU.2 a i c j h2 h3 h4 h5]
          congr 1
          have hmb := rho_mono hS.1 (show b + 1 ≤ am S by omega) (show b < b + 1 by omega)
          by_cases e1 : rho S a + 1 < last
          · rw [if_pos (.inl e1), if_pos (.inl e1)]
          · by_cases e2 : rho S a + 1 = last
            · by_cases e3 : c = b
              · rw [e3, if_neg (by omega), if_pos (.inr ⟨e2, hmb⟩), hp a i j h2 h4 (by rw [← e3]; exact h5) e2]
              · by_cases e4 : rho S c < rho S b
                · rw [if_pos (.inr ⟨e2, e4⟩), if_pos (.inr ⟨e2, by omega⟩)]
                · have e5 : b < c := by
                    apply Decidable.byContradiction
                    intro hx
                    exact e4 (rho_mono hS.1 (by omega) (show c < b by omega))
                  have e6 : rho S (b + 1) ≤ rho S c := by
                    by_cases e : b + 1 = c
                    · rw [e]
                      exact Nat.le_refl _
                    · exact Nat.le_of_lt (rho_mono hS.1 (by omega) (show b + 1 < c by omega))
                  rw [if_neg (by omega), if_neg (by omega)]
            · rw [if_neg (by omega), if_neg (by omega)]
      by_cases hs : sd (zs g S) st (rho S b) < zs g S (rho S b)
      · rw [if_pos hs] at hgn
        have hxn : (xN g S st last (rho S b)).1 ≤ 21 := oN_le (og_le g (zs g S)) hsm.2
        have huv := UV_put (last := last) hS.1 hb2 hs
        by_cases he : (xN g S st last (rho S b)).1 = (xL g S st last).1
        · rw [if_pos he] at huv
          have hsk := SK_next hTy hst hb2 hs
          have hbh : fX2_slotBehind y (nI st) (nI b) = some (nI ((st + rx (zs g S) (rho S b)) * am S + b)) := by
            unfold fX2_slotBehind
            simp (disch := omega) only [l0, l1, l2, l3, l4, l5, l6, l7, l8, l9, l10, l11, l12, l16, l18, l19, l20, l21, l24, l96, l128, l100, l144, l200, l256, l288, l1536, l1728, l1800, bnd, nI_add, pk_mul, pI_sub, pI_m1, pT_le, pF_le, pT_lt, pF_lt, pT_eq, pF_eq, pF_m1, mF_eq, mT_eq, mT_lt, mF_le, lm1, rd_nI, wr_nI, cl_nI, pk_us, un_ne, pk_uLs, uL_ne, zI_uI, zI_uJ, zI_uA, zI_uB, zI_uR, zI_uN, zJ_uI, zJ_uJ, zJ_uA, zJ_uB, zJ_uR, zJ_uN, zA_uI, zA_uJ, zA_uA, zA_uB, zA_uR, zA_uN, zB_uI, zB_uJ, zB_uA, zB_uB, zB_uR, zB_uN, zR_uI, zR_uJ, zR_uA, zR_uB, zR_uR, zR_uN, zN_uI, zN_uJ, zN_uA, zN_uB, zN_uR, zN_uN, zI_ne, zJ_ne, zA_ne, zB_ne, zR_ne, zN_ne, bi_T, bi_F, nz16, ↓reduceIte, not_true_eq_false, not_false_eq_true, Bool.false_eq_true, reduceCtorEq, hl.2.2.1, h21]
          have hroom := sd_room hs hi.1 hst
          have hval : 0 < sd (zs g S) (st + rx (zs g S) (rho S b)) (rho S b) := by rw [sd_same hs]; omega
          have hold := hyU.1 _ b hroom hb2 hval
          have h43 := ((hyA b hb2).1 hs).2.1
          have e2 : (xN g S st last (rho S b)).2 = (xL g S (st + rx (zs g S) (rho S b)) (rho S b + 1)).2 := rfl
          rw [← e2] at h43
          have hk1 := hsk.1
          have hslt := slot_lt hroom hb2
          have hrm := hT.1.2.2.2.2.2.2
          obtain ⟨υ, hυ⟩ : ∃ υ, υ = uB (uB y 46 (vp_updL (zB y 46) ((st + rx (zs g S) (rho S b)) * am S + b) (lN (UV g S st last (rho S (b + 1)) (st + rx (zs g S) (rho S b)) (rho S b + 1))))) 44 (vp_updL (zB y 44) (20 * x + oA (zs g S) (rho S b) + sd (zs g S) st (rho S b)) (zB y 44 (20 * x + oA (zs g S) (rho S b) + sd (zs g S) st (rho S b)) + lN (xU g S st last * (xN g S st last (rho S b)).2))) := ⟨_, rfl⟩
          have hFy : FR [] [44, 46] [] [] y υ := by
            rw [hυ]
            exact FR.uB (FR.uB (FR.rf _ _ _ _ _) (by decide)) (by decide)
          have hUn : TU υ g S st last (rho S (b + 1)) := by
            refine ⟨fun s a h2 h3 h4 => ?_, fun a i c j h2 h3 h4 h5 => ?_⟩
            · have e46 : zB υ 46 = vp_updL (zB y 46) ((st + rx (zs g S) (rho S b)) * am S + b) (lN (UV g S st last (rho S (b + 1)) (st + rx (zs g S) (rho S b)) (rho S b + 1))) := by rw [hυ]; simp (disch := omega) only [l0, l1, l2, l3, l4, l5, l6, l7, l8, l9, l10, l11, l12, l16, l18, l19, l20, l21, l24, l96, l128, l100, l144, l200, l256, l288, l1536, l1728, l1800, bnd, nI_add, pk_mul, pI_sub, pI_m1, pT_le, pF_le, pT_lt, pF_lt, pT_eq, pF_eq, pF_m1, mF_eq, mT_eq, mT_lt, mF_le, lm1, rd_nI, wr_nI, cl_nI, pk_us, un_ne, pk_uLs, uL_ne, zI_uI, zI_uJ, zI_uA, zI_uB, zI_uR, zI_uN, zJ_uI, zJ_uJ, zJ_uA, zJ_uB, zJ_uR, zJ_uN, zA_uI, zA_uJ, zA_uA, zA_uB, zA_uR, zA_uN, zB_uI, zB_uJ, zB_uA, zB_uB, zB_uR, zB_uN, zR_uI, zR_uJ, zR_uA, zR_uB, zR_uR, zR_uN, zN_uI, zN_uJ, zN_uA, zN_uB, zN_uR, zN_uN, zI_ne, zJ_ne, zA_ne, zB_ne, zR_ne, zN_ne, bi_T, bi_F, nz16, ↓reduceIte, not_true_eq_false, not_false_eq_true, Bool.false_eq_true, reduceCtorEq]
              rw [e46]
              by_cases e : s = st + rx (zs g S) (rho S b) ∧ a = b
              · rw [e.1, e.2, pk_uLs]
              · rw [uL_ne (oslot_ne h3 hb2 e), hyU.1 s a h2 h3 h4, UV_keep hS.1 h3 hb2 h4 (fun x => e ⟨x.2.1, x.1⟩)]
            · have e44 : zB υ 44 = vp_updL (zB y 44) (20 * x + oA (zs g S) (rho S b) + sd (zs g S) st (rho S b)) (zB y 44 (20 * x + oA (zs g S) (rho S b) + sd (zs g S) st (rho S b)) + lN (xU g S st last * (xN g S st last (rho S b)).2)) := by rw [hυ]; simp (disch := omega) only [l0, l1, l2, l3, l4, l5, l6, l7, l8, l9, l10, l11, l12, l16, l18, l19, l20, l21, l24, l96, l128, l100, l144, l200, l256, l288, l1536, l1728, l1800, bnd, nI_add, pk_mul, pI_sub, pI_m1, pT_le, pF_le, pT_lt, pF_lt, pT_eq, pF_eq, pF_m1, mF_eq, mT_eq, mT_lt, mF_le, lm1, rd_nI, wr_nI, cl_nI, pk_us, un_ne, pk_uLs, uL_ne, zI_uI, zI_uJ, zI_uA, zI_uB, zI_uR, zI_uN, zJ_uI, zJ_uJ, zJ_uA, zJ_uB, zJ_uR, zJ_uN, zA_uI, zA_uJ, zA_uA, zA_uB, zA_uR, zA_uN, zB_uI, zB_uJ, zB_uA, zB_uB, zB_uR, zB_uN, zR_uI, zR_uJ, zR_uA, zR_uB, zR_uR, zR_uN, zN_uI, zN_uJ, zN_uA, zN_uB, zN_uR, zN_uN, zI_ne, zJ_ne, zA_ne, zB_ne, zR_ne, zN_ne, bi_T, bi_F, nz16, ↓reduceIte, not_true_eq_false, not_false_eq_true, Bool.false_eq_true, reduceCtorEq]
              rw [e44]
              have hia := rho_in S hS.1 a (by omega) h2
              have hic := rho_in S hS.1 c (by omega) h3
              have hoa := oA_lt (z := zs g S) hia.1
              have hoc := oA_lt (z := zs g S) hic.1
              have hmb := rho_mono hS.1 (show b + 1 ≤ am S by omega) (show b < b + 1 by omega)
              have hold2 := hyU.2 a i c j h2 h3 h4 h5
              by_cases ek : 20 * (oA (zs g S) (rho S a) + i) + (oA (zs g S) (rho S c) + j) = 20 * x + oA (zs g S) (rho S b) + sd (zs g S) st (rho S b)
              · have ex : oA (zs g S) (rho S a) + i = x := by omega
                have ey : oA (zs g S) (rho S c) + j = oA (zs g S) (rho S b) + sd (zs g S) st (rho S b) := by omega
                obtain ⟨e3, e4⟩ := oA_inj h5 hs ey
                have hla : rho S a + 1 = last ∧ sd (zs g S) st (rho S a) = i + 1 := by
                  rcases hx with hx | ⟨h6, h7, h8, h9⟩
                  · omega
                  · have h10 := sd_le (zs g S) st (last - 1)
                    have h11 : sd (zs g S) st (last - 1) - 1 < zs g S (last - 1) := by omega
                    obtain ⟨h12, h13⟩ := oA_inj h4 h11 (show oA (zs g S) (rho S a) + i = oA (zs g S) (last - 1) + (sd (zs g S) st (last - 1) - 1) by omega)
                    rw [h12]
                    exact ⟨by omega, by omega⟩
                rw [← ek, pk_uLs, hold2, lN_add]
                congr 1
                rw [e3, e4, if_neg (by omega), if_pos (.inr ⟨hla.1, hmb⟩), Nat.add_zero]
                have h14 := pt_put (r := rho S a) (i := i) (q := rho S b) (j := sd (zs g S) st (rho S b)) hS.1 hsm hi.1 hs hla.2 rfl
                rw [hla.1, if_pos he] at h14
                rw [h14]
              · rw [uL_ne ek, hold2]
                congr 1
                by_cases e1 : rho S a + 1 < last
                · rw [if_pos (.inl e1), if_pos (.inl e1)]
                · by_cases e2 : rho S a + 1 = last
                  · by_cases e3 : c = b
                    · rw [if_neg (by rw [e3]; omega), if_pos (.inr ⟨e2, by rw [e3]; exact hmb⟩)]
                      rw [pt_not]
                      rintro ⟨h6, h7⟩
                      rcases hx with hx | ⟨h8, h9, h10, h11⟩
                      · omega
                      · rw [show last - 1 = rho S a by omega, h6] at h11
                        rw [e3] at h7 ek
                        omega
                    · by_cases e4 : rho S c < rho S b
                      · rw [if_pos (.inr ⟨e2, e4⟩), if_pos (.inr ⟨e2, by omega⟩)]
                      · have e5 : b < c := by
                          apply Decidable.byContradiction
                          intro hx
                          exact e4 (rho_mono hS.1 (by omega) (show c < b by omega))
                        have e6 : rho S (b + 1) ≤ rho S c := by
                          by_cases e : b + 1 = c
                          · rw [e]
                            exact Nat.le_refl _
                          · exact Nat.le_of_lt (rho_mono hS.1 (by omega) (show b + 1 < c by omega))
                        rw [if_neg (by omega), if_neg (by omega)]
                  · rw [if_neg (by omega), if_neg (by omega)]
          have nx := hkb υ hb2 ⟨hY.tr (hFy.mono (by decide) (by decide) (by decide) (by decide)), hyA.fr hFy (by decide) (by decide), hyD.fr hFy (by decide), hUn⟩
          rw [huv] at hυ
          rw [hυ] at nx
          rw [he] at hgn
          have h160 := hrm.2
          simp (disch := omega) only [l0, l1, l2, l3, l4, l5, l6, l7, l8, l9, l10, l11, l12, l16, l18, l19, l20, l21, l24, l96, l128, l100, l144, l200, l256, l288, l1536, l1728, l1800, bnd, nI_add, pk_mul, pI_sub, pI_m1, pT_le, pF_le, pT_lt, pF_lt, pT_eq, pF_eq, pF_m1, mF_eq, mT_eq, mT_lt, mF_le, lm1, rd_nI, wr_nI, cl_nI, pk_us, un_ne, pk_uLs, uL_ne, zI_uI, zI_uJ, zI_uA, zI_uB, zI_uR, zI_uN, zJ_uI, zJ_uJ, zJ_uA, zJ_uB, zJ_uR, zJ_uN, zA_uI, zA_uJ, zA_uA, zA_uB, zA_uR, zA_uN, zB_uI, zB_uJ, zB_uA, zB_uB, zB_uR, zB_uN, zR_uI, zR_uJ, zR_uA, zR_uB, zR_uR, zR_uN, zN_uI, zN_uJ, zN_uA, zN_uB, zN_uR, zN_uN, zI_ne, zJ_ne, zA_ne, zB_ne, zR_ne, zN_ne, bi_T, bi_F, nz16, ↓reduceIte, not_true_eq_false, not_false_eq_true, Bool.false_eq_true, reduceCtorEq, h21, hgn, hga, hbh, hl.2.2.2, h40, oNI, hy46, l420, hold, lN_add, h43, lN_mul]
          exact nx
        · rw [if_neg he] at huv
          have nx := hkb y hb2 ⟨hY, hyA, hyD, skip (fun a i j h2 h3 h4 h5 => by
            by_cases e : sd (zs g S) st (rho S a) = i + 1 ∧ sd (zs g S) st (rho S b) = j
            · have h14 := pt_put (r := rho S a) (i := i) (q := rho S b) (j := j) hS.1 hsm hi.1 h4 e.1 e.2
              rw [h5, if_neg he] at h14
              exact h14
            · exact pt_not e) (.inl huv)⟩
          simp (disch := omega) only [l0, l1, l2, l3, l4, l5, l6, l7, l8, l9, l10, l11, l12, l16, l18, l19, l20, l21, l24, l96, l128, l100, l144, l200, l256, l288, l1536, l1728, l1800, bnd, nI_add, pk_mul, pI_sub, pI_m1, pT_le, pF_le, pT_lt, pF_lt, pT_eq, pF_eq, pF_m1, mF_eq, mT_eq, mT_lt, mF_le, lm1, rd_nI, wr_nI, cl_nI, pk_us, un_ne, pk_uLs, uL_ne, zI_uI, zI_uJ, zI_uA, zI_uB, zI_uR, zI_uN, zJ_uI, zJ_uJ, zJ_uA, zJ_uB, zJ_uR, zJ_uN, zA_uI, zA_uJ, zA_uA, zA_uB, zA_uR, zA_uN, zB_uI, zB_uJ, zB_uA, zB_uB, zB_uR, zB_uN, zR_uI, zR_uJ, zR_uA, zR_uB, zR_uR, zR_uN, zN_uI, zN_uJ, zN_uA, zN_uB, zN_uR, zN_uN, zI_ne, zJ_ne, zA_ne, zB_ne, zR_ne, zN_ne, bi_T, bi_F, nz16, ↓reduceIte, not_true_eq_false, not_false_eq_true, Bool.false_eq_true, reduceCtorEq, h21, hgn, hga]
          exact nx
      · rw [if_neg hs] at hgn
        have nx := hkb y hb2 ⟨hY, hyA, hyD, skip (fun a i j h2 h3 h4 h5 => pt_off h4 hs) (.inr hs)⟩
        simp (disch := omega) only [l0, l1, l2, l3, l4, l5, l6, l7, l8, l9, l10, l11, l12, l16, l18, l19, l20, l21, l24, l96, l128, l100, l144, l200, l256, l288, l1536, l1728, l1800, bnd, nI_add, pk_mul, pI_sub, pI_m1, pT_le, pF_le, pT_lt, pF_lt, pT_eq, pF_eq, pF_m1, mF_eq, mT_eq, mT_lt, mF_le, lm1, rd_nI, wr_nI, cl_nI, pk_us, un_ne, pk_uLs, uL_ne, zI_uI, zI_uJ, zI_uA, zI_uB, zI_uR, zI_uN, zJ_uI, zJ_uJ, zJ_uA, zJ_uB, zJ_uR, zJ_uN, zA_uI, zA_uJ, zA_uA, zA_uB, zA_uR, zA_uN, zB_uI, zB_uJ, zB_uA, zB_uB, zB_uR, zB_uN, zR_uI, zR_uJ, zR_uA, zR_uB, zR_uR, zR_uN, zN_uI, zN_uJ, zN_uA, zN_uB, zN_uR, zN_uN, zI_ne, zJ_ne, zA_ne, zB_ne, zR_ne, zN_ne, bi_T, bi_F, nz16, ↓reduceIte, not_true_eq_false, not_false_eq_true, Bool.false_eq_true, reduceCtorEq, h21, hgn, hga]
        exact nx
  · refine ⟨fun s a h2 h3 h4 => ?_, fun a i b j h2 h3 h4 h5 => ?_⟩
    · rw [hU.1 s a h2 h3 h4]
      congr 1
      unfold UV QN
      have h5 : ¬ rho S a < rho S 0 := by
        intro h
        by_cases e : a = 0
        · rw [e] at h
          omega
        · have := rho_mono hS.1 (show a ≤ am S by omega) (show 0 < a by omega)
          omega
      rw [Nat.add_sub_cancel, if_neg (Nat.not_lt_zero _), if_neg h5]
    · rw [hU.2 a i b j h2 h3 h4 h5]
      congr 1
      have h6 : ¬ rho S b < rho S 0 := by
        intro h
        by_cases e : b = 0
        · rw [e] at h
          omega
        · have := rho_mono hS.1 (show b ≤ am S by omega) (show 0 < b by omega)
          omega
      by_cases e1 : rho S a + 1 < last
      · rw [if_pos (.inl e1), if_pos (.inl e1)]
      · rw [if_neg (by omega), if_neg (by omega)]
