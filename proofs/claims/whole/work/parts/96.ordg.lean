/-! orders: settle and countBack -/
theorem oG_skip {z : Nat → Nat} {st : Nat} {f : Nat → Nat × Nat} {a : Nat × Nat} {i : Nat} : ∀ d, (∀ r, i ≤ r → r < i + d → ¬ sd z st r < z r) → oG z st f (List.range (i + d)) a = oG z st f (List.range i) a
  | 0, _ => rfl
  | d + 1, H => by
    have ih := oG_skip (f := f) (a := a) d (fun r h1 h2 => H r h1 (by omega))
    rw [← Nat.add_assoc, oG_succ, ih]
    unfold oS
    rw [if_neg (H (i + d) (by omega) (by omega))]
theorem oG_rho {g : Gh} {S st : Nat} {f : Nat → Nat × Nat} {c : Nat × Nat} {a : Nat} (hS : S < 256) (ha : a < am S) : oG (zs g S) st f (List.range (rho S (a + 1))) c = oS (zs g S) st f (oG (zs g S) st f (List.range (rho S a)) c) (rho S a) := by
  have h1 := rho_am S hS
  have h2 := rho_mono hS (by omega) (show a < a + 1 by omega)
  have h3 := oG_skip (z := zs g S) (st := st) (f := f) (a := c) (i := rho S a + 1) (rho S (a + 1) - (rho S a + 1)) (fun r h4 h5 => by
    rw [zs_out (g := g) (S := S) (r := r) ?_]
    · exact Nat.not_lt_zero _
    · have h6 : rho S (a + 1) ≤ 8 := by
        by_cases h7 : a + 1 = am S
        · rw [h7, (rho_cnt S hS).2.1]
          omega
        · have := (rho_in S hS (a + 1) (by omega) (by omega)).1
          omega
      exact rho_out S hS a (by omega) r (by omega) (by omega) (by omega))
  rw [show rho S a + 1 + (rho S (a + 1) - (rho S a + 1)) = rho S (a + 1) by omega] at h3
  rw [h3, oG_succ]
theorem oG_rho0 {g : Gh} {S st : Nat} {f : Nat → Nat × Nat} {c : Nat × Nat} (hS : S < 256) : oG (zs g S) st f (List.range (rho S 0)) c = c := by
  have h3 := oG_skip (z := zs g S) (st := st) (f := f) (a := c) (i := 0) (rho S 0) (fun r _ h5 => by
    rw [zs_out (g := g) (S := S) (r := r) ?_]
    · exact Nat.not_lt_zero _
    · have h1 := rho_am S hS
      have h6 : rho S 0 ≤ 8 := by
        by_cases h0 : am S = 0
        · have h7 := (rho_cnt S hS).2.1
          rw [h0] at h7
          omega
        · have := (rho_in S hS 0 (by omega) (by omega)).1
          omega
      exact rho_out0 S hS r (by omega) (by omega))
  rw [Nat.zero_add] at h3
  rw [h3]
  rfl
theorem l32L : (32 : Int64) = lN 32 := nrfl rfl
theorem nI64 {n : Nat} (h : n < 2147483648) : (nI n).toInt64 = lN n := by
  apply Int64.toInt_inj.mp
  rw [Int32.toInt_toInt64, nI_toInt h]
  exact (Int64.toInt_ofNat_of_lt (n := n) (by omega)).symm
theorem sh5 (w : Nat) {p : Nat} (hp : p < 32) (hw : w ≤ 2 ^ 57) : (lN w <<< ((nI 5).toInt64 &&& 63)) ||| (nI p).toInt64 = lN (32 * w + p) := by
  have e57 : (2 : Nat) ^ 57 = 144115188075855872 := by decide
  have h1 := wb_shl w (k := 5) (by decide)
  have h2 := g_or (k := 5) (p := 32) (a := p) (b := w) (by decide) hp (by omega)
  rw [h1, nI64 (by omega), show w * 2 ^ 5 = w * 32 from rfl, h2, Nat.mul_comm]
theorem c_settle {τ : St} {g : Gh} {S st last x k : Nat} (hg : okG g) (hC : CL τ g S) (hst : st < rx (zs g S) 8) (hA : LA τ g S st (am S)) (hx : LC g S st last x) (hk : k < zN τ 45) : fX2_settle τ (nI x) (nI k) = some (uB τ 45 (vp_updL (zB τ 45) k (lN (xw (xL g S st last))))) := by
  have hS := hC.1
  have hsm := hC.2.1
  have h1 := rho_am S hS.1
  have h21 := hC.2.2.2.1
  have hN := hC.2.2.2.2.2.2.2
  have key := it_for (β := Nat × Nat) (body := fun (kb : (Int32 × Int64 × Int32) → Option St) (t : Int32 × Int64 × Int32) => fX2_settle_L10 (nI x) (nI k) (fun x5 x6 => if nI k < 0 then (some τ)
  else (if (Int32.ofNat (zN τ 45)) ≤ nI k then (some τ)
  else (if x5 = (1000 : Int32) then (wr (zN τ 45) (nI k) ((some (uB τ 45 (vp_updL (zB τ 45) (Int32.toNatClampNeg (nI k)) (32 : Int64)))).bind fun s8 => some s8))
  else (wr (zN τ 45) (nI k) ((some (uB τ 45 (vp_updL (zB τ 45) (Int32.toNatClampNeg (nI k)) ((x6 <<< (Int32.toInt64 (5 : Int32) &&& 63)) ||| (Int32.toInt64 x5))))).bind fun s7 => some s7))))) (fun v3 v4 v6 => kb (v3, v4, v6)) τ t.1 t.2.1 t.2.2) (am S) (by omega) (fun a p => (nI p.1, lN p.2, nI a)) (fun a p => p = oG (zs g S) st (xN g S st last) (List.range (rho S a)) (1000, 0)) (fun a p z => z = some (uB τ 45 (vp_updL (zB τ 45) k (lN (xw (xL g S st last)))))) ?_ 0 (1000, 0) (Nat.zero_le _) (oG_rho0 hS.1).symm
  · unfold fX2_settle
    rw [← key]
    rfl
  · rintro a p ha hp kb hkb
    have hp : p = oG (zs g S) st (xN g S st last) (List.range (rho S a)) (1000, 0) := hp
    have hkb : a < am S → kb (nI (oG (zs g S) st (xN g S st last) (List.range (rho S (a + 1))) (1000, 0)).1, lN (oG (zs g S) st (xN g S st last) (List.range (rho S (a + 1))) (1000, 0)).2, nI (a + 1)) = some (uB τ 45 (vp_updL (zB τ 45) k (lN (xw (xL g S st last))))) := fun h => hkb _ h rfl
    show fX2_settle_L10 (nI x) (nI k) _ (fun v3 v4 v6 => kb (v3, v4, v6)) τ (nI p.1) (lN p.2) (nI a) = _
    unfold fX2_settle_L10
    by_cases hae : a = am S
    · rw [hae, (rho_cnt S hS.1).2.1] at hp
      have hoi := oL_init (z := zs g S) (og_le g (zs g S)) hsm.2 (st := st) (last := last) (c := 1000) hst (by omega)
      by_cases hl : st + 1 = rx (zs g S) 8
      · have h0 := rm_full hl
        have hz : xL g S st last = (0, 1) := oL_zero h0
        have hn : p = (1000, 0) := by
          rw [hp]
          apply oG_nobody
          intro r hr hs
          have := rm_pos hs (List.mem_range.mp hr)
          omega
        rw [hz, hn]
        simp (disch := omega) only [l0, l1, l2, l3, l4, l5, l6, l7, l8, l9, l10, l11, l12, l16, l18, l19, l20, l21, l24, l96, l128, l100, l144, l200, l256, l288, l1536, l1728, l1800, bnd, nI_add, pk_mul, pI_sub, pI_m1, pT_le, pF_le, pT_lt, pF_lt, pT_eq, pF_eq, pF_m1, mF_eq, mT_eq, mT_lt, mF_le, lm1, rd_nI, wr_nI, cl_nI, pk_us, un_ne, pk_uLs, uL_ne, zI_uI, zI_uJ, zI_uA, zI_uB, zI_uR, zI_uN, zJ_uI, zJ_uJ, zJ_uA, zJ_uB, zJ_uR, zJ_uN, zA_uI, zA_uJ, zA_uA, zA_uB, zA_uR, zA_uN, zB_uI, zB_uJ, zB_uA, zB_uB, zB_uR, zB_uN, zR_uI, zR_uJ, zR_uA, zR_uB, zR_uR, zR_uN, zN_uI, zN_uJ, zN_uA, zN_uB, zN_uR, zN_uN, zI_ne, zJ_ne, zA_ne, zB_ne, zR_ne, zN_ne, bi_T, bi_F, nz16, ↓reduceIte, not_true_eq_false, not_false_eq_true, Bool.false_eq_true, reduceCtorEq, h21, hae, oNI, l1000, l32L]
        rfl
      · rw [if_neg hl, ← hp] at hoi
        have hle := xL_le (st := st) (last := last) hsm
        have hoi : xL g S st last = p := hoi
        rw [hoi] at hle ⊢
        have h5 := sh5 p.2 (p := p.1) (by omega) hle.2
        simp (disch := omega) only [l0, l1, l2, l3, l4, l5, l6, l7, l8, l9, l10, l11, l12, l16, l18, l19, l20, l21, l24, l96, l128, l100, l144, l200, l256, l288, l1536, l1728, l1800, bnd, nI_add, pk_mul, pI_sub, pI_m1, pT_le, pF_le, pT_lt, pF_lt, pT_eq, pF_eq, pF_m1, mF_eq, mT_eq, mT_lt, mF_le, lm1, rd_nI, wr_nI, cl_nI, pk_us, un_ne, pk_uLs, uL_ne, zI_uI, zI_uJ, zI_uA, zI_uB, zI_uR, zI_uN, zJ_uI, zJ_uJ, zJ_uA, zJ_uB, zJ_uR, zJ_uN, zA_uI, zA_uJ, zA_uA, zA_uB, zA_uR, zA_uN, zB_uI, zB_uJ, zB_uA, zB_uB, zB_uR, zB_uN, zR_uI, zR_uJ, zR_uA, zR_uB, zR_uR, zR_uN, zN_uI, zN_uJ, zN_uA, zN_uB, zN_uR, zN_uN, zI_ne, zJ_ne, zA_ne, zB_ne, zR_ne, zN_ne, bi_T, bi_F, nz16, ↓reduceIte, not_true_eq_false, not_false_eq_true, Bool.false_eq_true, reduceCtorEq, h21, hae, oNI, l1000, h5]
        rfl
    · have ha2 : a < am S := by omega
      have nx := hkb ha2
      have hgn := c_gapsIfNext hg hS hA ha2 hx hsm
      have hle := oG_le (z := zs g S) (st := st) (f := xN g S st last) (List.range (rho S a)) (1000, 0)
      rw [oG_rho hS.1 ha2, ← hp] at nx
      rw [← hp] at hle
      have hp1 : p.1 ≤ 1000 := hle.1
      unfold oS at nx
      unfold gn at hgn
      by_cases hs : sd (zs g S) st (rho S a) < zs g S (rho S a)
      · rw [if_pos hs] at nx hgn
        have h43 := ((hA a ha2).1 hs).2.1
        have e2 : (xN g S st last (rho S a)).2 = (xL g S (st + rx (zs g S) (rho S a)) (rho S a + 1)).2 := rfl
        rw [← e2] at h43
        have hy : (xN g S st last (rho S a)).1 ≤ 21 := oN_le (og_le g (zs g S)) hsm.2
        generalize xN g S st last (rho S a) = y at *
        by_cases hlt : y.1 < p.1
        · rw [if_pos hlt] at nx
          simp (disch := omega) only [l0, l1, l2, l3, l4, l5, l6, l7, l8, l9, l10, l11, l12, l16, l18, l19, l20, l21, l24, l96, l128, l100, l144, l200, l256, l288, l1536, l1728, l1800, bnd, nI_add, pk_mul, pI_sub, pI_m1, pT_le, pF_le, pT_lt, pF_lt, pT_eq, pF_eq, pF_m1, mF_eq, mT_eq, mT_lt, mF_le, lm1, rd_nI, wr_nI, cl_nI, pk_us, un_ne, pk_uLs, uL_ne, zI_uI, zI_uJ, zI_uA, zI_uB, zI_uR, zI_uN, zJ_uI, zJ_uJ, zJ_uA, zJ_uB, zJ_uR, zJ_uN, zA_uI, zA_uJ, zA_uA, zA_uB, zA_uR, zA_uN, zB_uI, zB_uJ, zB_uA, zB_uB, zB_uR, zB_uN, zR_uI, zR_uJ, zR_uA, zR_uB, zR_uR, zR_uN, zN_uI, zN_uJ, zN_uA, zN_uB, zN_uR, zN_uN, zI_ne, zJ_ne, zA_ne, zB_ne, zR_ne, zN_ne, bi_T, bi_F, nz16, ↓reduceIte, not_true_eq_false, not_false_eq_true, Bool.false_eq_true, reduceCtorEq, h21, hgn, h43]
          exact nx
        · rw [if_neg hlt] at nx
          by_cases heq : y.1 = p.1
          · rw [if_pos heq] at nx
            simp (disch := omega) only [l0, l1, l2, l3, l4, l5, l6, l7, l8, l9, l10, l11, l12, l16, l18, l19, l20, l21, l24, l96, l128, l100, l144, l200, l256, l288, l1536, l1728, l1800, bnd, nI_add, pk_mul, pI_sub, pI_m1, pT_le, pF_le, pT_lt, pF_lt, pT_eq, pF_eq, pF_m1, mF_eq, mT_eq, mT_lt, mF_le, lm1, rd_nI, wr_nI, cl_nI, pk_us, un_ne, pk_uLs, uL_ne, zI_uI, zI_uJ, zI_uA, zI_uB, zI_uR, zI_uN, zJ_uI, zJ_uJ, zJ_uA, zJ_uB, zJ_uR, zJ_uN, zA_uI, zA_uJ, zA_uA, zA_uB, zA_uR, zA_uN, zB_uI, zB_uJ, zB_uA, zB_uB, zB_uR, zB_uN, zR_uI, zR_uJ, zR_uA, zR_uB, zR_uR, zR_uN, zN_uI, zN_uJ, zN_uA, zN_uB, zN_uR, zN_uN, zI_ne, zJ_ne, zA_ne, zB_ne, zR_ne, zN_ne, bi_T, bi_F, nz16, ↓reduceIte, not_true_eq_false, not_false_eq_true, Bool.false_eq_true, reduceCtorEq, h21, hgn, h43, l1000, lN_add]
            exact nx
          · rw [if_neg heq] at nx
            simp (disch := omega) only [l0, l1, l2, l3, l4, l5, l6, l7, l8, l9, l10, l11, l12, l16, l18, l19, l20, l21, l24, l96, l128, l100, l144, l200, l256, l288, l1536, l1728, l1800, bnd, nI_add, pk_mul, pI_sub, pI_m1, pT_le, pF_le, pT_lt, pF_lt, pT_eq, pF_eq, pF_m1, mF_eq, mT_eq, mT_lt, mF_le, lm1, rd_nI, wr_nI, cl_nI, pk_us, un_ne, pk_uLs, uL_ne, zI_uI, zI_uJ, zI_uA, zI_uB, zI_uR, zI_uN, zJ_uI, zJ_uJ, zJ_uA, zJ_uB, zJ_uR, zJ_uN, zA_uI, zA_uJ, zA_uA, zA_uB, zA_uR, zA_uN, zB_uI, zB_uJ, zB_uA, zB_uB, zB_uR, zB_uN, zR_uI, zR_uJ, zR_uA, zR_uB, zR_uR, zR_uN, zN_uI, zN_uJ, zN_uA, zN_uB, zN_uR, zN_uN, zI_ne, zJ_ne, zA_ne, zB_ne, zR_ne, zN_ne, bi_T, bi_F, nz16, ↓reduceIte, not_true_eq_false, not_false_eq_true, Bool.false_eq_true, reduceCtorEq, h21, hgn]
            exact nx
      · rw [if_neg hs] at nx hgn
        by_cases he : p.1 = 1000
        · simp (disch := omega) only [l0, l1, l2, l3, l4, l5, l6, l7, l8, l9, l10, l11, l12, l16, l18, l19, l20, l21, l24, l96, l128, l100, l144, l200, l256, l288, l1536, l1728, l1800, bnd, nI_add, pk_mul, pI_sub, pI_m1, pT_le, pF_le, pT_lt, pF_lt, pT_eq, pF_eq, pF_m1, mF_eq, mT_eq, mT_lt, mF_le, lm1, rd_nI, wr_nI, cl_nI, pk_us, un_ne, pk_uLs, uL_ne, zI_uI, zI_uJ, zI_uA, zI_uB, zI_uR, zI_uN, zJ_uI, zJ_uJ, zJ_uA, zJ_uB, zJ_uR, zJ_uN, zA_uI, zA_uJ, zA_uA, zA_uB, zA_uR, zA_uN, zB_uI, zB_uJ, zB_uA, zB_uB, zB_uR, zB_uN, zR_uI, zR_uJ, zR_uA, zR_uB, zR_uR, zR_uN, zN_uI, zN_uJ, zN_uA, zN_uB, zN_uR, zN_uN, zI_ne, zJ_ne, zA_ne, zB_ne, zR_ne, zN_ne, bi_T, bi_F, nz16, ↓reduceIte, not_true_eq_false, not_false_eq_true, Bool.false_eq_true, reduceCtorEq, h21, hgn, l1000]
          exact nx
        · simp (disch := omega) only [l0, l1, l2, l3, l4, l5, l6, l7, l8, l9, l10, l11, l12, l16, l18, l19, l20, l21, l24, l96, l128, l100, l144, l200, l256, l288, l1536, l1728, l1800, bnd, nI_add, pk_mul, pI_sub, pI_m1, pT_le, pF_le, pT_lt, pF_lt, pT_eq, pF_eq, pF_m1, mF_eq, mT_eq, mT_lt, mF_le, lm1, rd_nI, wr_nI, cl_nI, pk_us, un_ne, pk_uLs, uL_ne, zI_uI, zI_uJ, zI_uA, zI_uB, zI_uR, zI_uN, zJ_uI, zJ_uJ, zJ_uA, zJ_uB, zJ_uR, zJ_uN, zA_uI, zA_uJ, zA_uA, zA_uB, zA_uR, zA_uN, zB_uI, zB_uJ, zB_uA, zB_uB, zB_uR, zB_uN, zR_uI, zR_uJ, zR_uA, zR_uB, zR_uR, zR_uN, zN_uI, zN_uJ, zN_uA, zN_uB, zN_uR, zN_uN, zI_ne, zJ_ne, zA_ne, zB_ne, zR_ne, zN_ne, bi_T, bi_F, nz16, ↓reduceIte, not_true_eq_false, not_false_eq_true, Bool.false_eq_true, reduceCtorEq, h21, hgn]
          exact nx
/-- the slot behind the last digit, and the one at the start *-/
theorem c_back1 {σ τ : St} {g : Gh} {S st : Nat} (k1 : St → Option St) (hg : okG g) (hC : CL σ g S) (hst : st < rx (zs g S) 8) (hF : FR [40, 41, 42] [43, 45] [] [] σ τ) (hL : LO τ g S (am S)) (hA : LA τ g S st (am S)) (hD : SD τ g S st) (hS1 : SL τ g S (st + 1)) : ∃ υ, FR [40, 41, 42] [43, 45] [] [] σ υ ∧ LO υ g S (am S) ∧ SD υ g S st ∧ SL υ g S st ∧ fX2_countBack_P46 (nI st) k1 τ (nI 0) = k1 υ := by
  have hS := hC.1
  have hsm := hC.2.1
  have h1 := rho_am S hS.1
  have key := it_for (β := St) (body := fun (kb : (St × Int32) → Option St) (t : St × Int32) => fX2_countBack_L46 (nI st) k1 (fun σ v2 => kb (σ, v2)) t.1 t.2) (am S) (by omega) (fun a τ => (τ, nI a)) (fun a τ => FR [40, 41, 42] [43, 45] [] [] σ τ ∧ LA τ g S st (am S) ∧ SD τ g S st ∧ SL τ g S (st + 1) ∧ ∀ b, b < a → 0 < sd (zs g S) st (rho S b) → zB τ 45 (st * am S + b) = lN (xw (xL g S st (rho S b + 1)))) (fun a τ z => ∃ υ, FR [40, 41, 42] [43, 45] [] [] σ υ ∧ LO υ g S (am S) ∧ SD υ g S st ∧ SL υ g S st ∧ z = k1 υ) ?_ 0 τ (Nat.zero_le _) ⟨hF, hA, hD, hS1, fun b hb => absurd hb (Nat.not_lt_zero _)⟩
  · exact key
  · rintro a τ ha ⟨hF, hA, hD, hS1, hlo⟩ kb hkb
    show ∃ υ, _ ∧ _ ∧ _ ∧ _ ∧ fX2_countBack_L46 (nI st) k1 (fun σ v2 => kb (σ, v2)) τ (nI a) = _
    have hC2 := hC.fr hF (by decide) (by decide) (by decide)
    have h21 := hC2.2.2.2.1
    unfold fX2_countBack_L46
    by_cases hae : a = am S
    · refine ⟨τ, hF, hC2.2.2.1, hD, ?_, by simp (disch := omega) only [l0, l1, l2, l3, l4, l5, l6, l7, l8, l9, l10, l11, l12, l16, l18, l19, l20, l21, l24, l96, l128, l100, l144, l200, l256, l288, l1536, l1728, l1800, bnd, nI_add, pk_mul, pI_sub, pI_m1, pT_le, pF_le, pT_lt, pF_lt, pT_eq, pF_eq, pF_m1, mF_eq, mT_eq, mT_lt, mF_le, lm1, rd_nI, wr_nI, cl_nI, pk_us, un_ne, pk_uLs, uL_ne, zI_uI, zI_uJ, zI_uA, zI_uB, zI_uR, zI_uN, zJ_uI, zJ_uJ, zJ_uA, zJ_uB, zJ_uR, zJ_uN, zA_uI, zA_uJ, zA_uA, zA_uB, zA_uR, zA_uN, zB_uI, zB_uJ, zB_uA, zB_uB, zB_uR, zB_uN, zR_uI, zR_uJ, zR_uA, zR_uB, zR_uR, zR_uN, zN_uI, zN_uJ, zN_uA, zN_uB, zN_uR, zN_uN, zI_ne, zJ_ne, zA_ne, zB_ne, zR_ne, zN_ne, bi_T, bi_F, nz16, ↓reduceIte, not_true_eq_false, not_false_eq_true, Bool.false_eq_true, reduceCtorEq, h21, hae]⟩
      intro s b h2 h3 h4 h5
      by_cases e : s = st
      · rw [e] at h5 ⊢
        exact hlo b (by omega) h5
      · exact hS1 s b (by omega) h3 h4 h5
    · have ha2 : a < am S := by omega
      have hi := rho_in S hS.1 a (by omega) ha2
      have hl := hC2.2.2.1 a ha2
      have h40 := hD a ha2
      have hle := sd_le (zs g S) st (rho S a)
      have hz := zs_le hg hS hi.1
      have hol := oA_lt (z := zs g S) hi.1
      have ho20 := hsm.2
      by_cases hs : 0 < sd (zs g S) st (rho S a)
      · have hslt := slot_lt hst ha2
        have hrm := hC2.2.2.2.2.2.2
        have hset := c_settle (τ := τ) (last := rho S a + 1) (x := oA (zs g S) (rho S a) + sd (zs g S) st (rho S a) - 1) (k := st * am S + a) hg hC2 hst hA (.inr ⟨by omega, by omega, by rw [Nat.add_sub_cancel]; exact hs, by rw [Nat.add_sub_cancel]⟩) (Nat.lt_trans hslt hrm.1)
        have hsub : nI (oA (zs g S) (rho S a) + sd (zs g S) st (rho S a)) - nI 1 = nI (oA (zs g S) (rho S a) + sd (zs g S) st (rho S a) - 1) := pI_sub (by omega)
        have h160 := hrm.2
        have hf1 : FR [] [45] [] [] τ (uB τ 45 (vp_updL (zB τ 45) (st * am S + a) (lN (xw (xL g S st (rho S a + 1)))))) := FR.uB (FR.rf _ _ _ _ τ) (by decide)
        have nx := hkb (uB τ 45 (vp_updL (zB τ 45) (st * am S + a) (lN (xw (xL g S st (rho S a + 1)))))) ha2 ⟨FR.uB hF (by decide), hA.fr hf1 (by decide) (by decide), hD.fr hf1 (by decide), fun s b h2 h3 h4 h5 => by
          rw [zB_uB, uL_ne (oslot_ne h4 ha2 (fun e => by omega))]
          exact hS1 s b h2 h3 h4 h5, fun b hb h5 => by
          rw [zB_uB]
          by_cases e : b = a
          · rw [e, pk_uLs]
          · rw [uL_ne (oslot_ne (show b < am S by omega) ha2 (fun e2 => e e2.2))]
            exact hlo b (by omega) h5⟩
        simp (disch := omega) only [l0, l1, l2, l3, l4, l5, l6, l7, l8, l9, l10, l11, l12, l16, l18, l19, l20, l21, l24, l96, l128, l100, l144, l200, l256, l288, l1536, l1728, l1800, bnd, nI_add, pk_mul, pI_sub, pI_m1, pT_le, pF_le, pT_lt, pF_lt, pT_eq, pF_eq, pF_m1, mF_eq, mT_eq, mT_lt, mF_le, lm1, rd_nI, wr_nI, cl_nI, pk_us, un_ne, pk_uLs, uL_ne, zI_uI, zI_uJ, zI_uA, zI_uB, zI_uR, zI_uN, zJ_uI, zJ_uJ, zJ_uA, zJ_uB, zJ_uR, zJ_uN, zA_uI, zA_uJ, zA_uA, zA_uB, zA_uR, zA_uN, zB_uI, zB_uJ, zB_uA, zB_uB, zB_uR, zB_uN, zR_uI, zR_uJ, zR_uA, zR_uB, zR_uR, zR_uN, zN_uI, zN_uJ, zN_uA, zN_uB, zN_uR, zN_uN, zI_ne, zJ_ne, zA_ne, zB_ne, zR_ne, zN_ne, bi_T, bi_F, nz16, ↓reduceIte, not_true_eq_false, not_false_eq_true, Bool.false_eq_true, reduceCtorEq, h21, h40, hl.2.2.2, hsub, hset]
        exact nx
      · have h0 : sd (zs g S) st (rho S a) = 0 := by omega
        have nx := hkb τ ha2 ⟨hF, hA, hD, hS1, fun b hb h5 => by
          by_cases e : b = a
          · rw [e] at h5
            exact absurd h5 hs
          · exact hlo b (by omega) h5⟩
        simp (disch := omega) only [l0, l1, l2, l3, l4, l5, l6, l7, l8, l9, l10, l11, l12, l16, l18, l19, l20, l21, l24, l96, l128, l100, l144, l200, l256, l288, l1536, l1728, l1800, bnd, nI_add, pk_mul, pI_sub, pI_m1, pT_le, pF_le, pT_lt, pF_lt, pT_eq, pF_eq, pF_m1, mF_eq, mT_eq, mT_lt, mF_le, lm1, rd_nI, wr_nI, cl_nI, pk_us, un_ne, pk_uLs, uL_ne, zI_uI, zI_uJ, zI_uA, zI_uB, zI_uR, zI_uN, zJ_uI, zJ_uJ, zJ_uA, zJ_uB, zJ_uR, zJ_uN, zA_uI, zA_uJ, zA_uA, zA_uB, zA_uR, zA_uN, zB_uI, zB_uJ, zB_uA, zB_uB, zB_uR, zB_uN, zR_uI, zR_uJ, zR_uA, zR_uB, zR_uR, zR_uN, zN_uI, zN_uJ, zN_uA, zN_uB, zN_uR, zN_uN, zI_ne, zJ_ne, zA_ne, zB_ne, zR_ne, zN_ne, bi_T, bi_F, nz16, ↓reduceIte, not_true_eq_false, not_false_eq_true, Bool.false_eq_true, reduceCtorEq, h21, h40, h0]
        exact nx
theorem c_back_fin {σ : St} {g : Gh} {S : Nat} (hg : okG g) (hC : CL σ g S) (τ : St) (hF : FR [40, 41, 42] [43, 45] [] [] σ τ) (hD : SD τ g S 0) (hSL : SL τ g S 1) : ∃ υ, FR [40, 41, 42] [43, 45] [] [] σ υ ∧ SL υ g S 1 ∧ zB υ 45 (rx (zs g S) 8 * am S) = lN (xw (xL g S 0 0)) ∧ ((fX2_lookAhead τ (0 : Int32)).bind fun s13 => (fX2_startSlot s13).bind fun x14 => (fX2_settle s13 (20 : Int32) x14).bind fun s15 => some s15) = some υ := by
  have hS := hC.1
  have hsm := hC.2.1
  have h1 := rho_am S hS.1
  have hxp := rx_pos (zs g S) 8
  have hx2 := hsm.1
  have hC2 := hC.fr hF (by decide) (by decide) (by decide)
  obtain ⟨w, h2, h3, h4⟩ := c_lookAhead hg hC2 hxp hD hSL
  have hC3 := hC2.fr h2 (by decide) (by decide) (by decide)
  have hrm := hC3.2.2.2.2.2.2
  have hset := c_settle (τ := w) (last := 0) (x := 20) (k := rx (zs g S) 8 * am S) hg hC3 hxp h3 (.inl ⟨rfl, rfl⟩) hrm.1
  have hss : fX2_startSlot w = some (nI (rx (zs g S) 8 * am S)) := by
    unfold fX2_startSlot
    rw [hC3.2.2.2.1, hC3.2.2.2.2.1]
    simp (disch := omega) only [l0, l1, l2, l3, l4, l5, l6, l7, l8, l9, l10, l11, l12, l16, l18, l19, l20, l21, l24, l96, l128, l100, l144, l200, l256, l288, l1536, l1728, l1800, bnd, nI_add, pk_mul, pI_sub, pI_m1, pT_le, pF_le, pT_lt, pF_lt, pT_eq, pF_eq, pF_m1, mF_eq, mT_eq, mT_lt, mF_le, lm1, rd_nI, wr_nI, cl_nI, pk_us, un_ne, pk_uLs, uL_ne, zI_uI, zI_uJ, zI_uA, zI_uB, zI_uR, zI_uN, zJ_uI, zJ_uJ, zJ_uA, zJ_uB, zJ_uR, zJ_uN, zA_uI, zA_uJ, zA_uA, zA_uB, zA_uR, zA_uN, zB_uI, zB_uJ, zB_uA, zB_uB, zB_uR, zB_uN, zR_uI, zR_uJ, zR_uA, zR_uB, zR_uR, zR_uN, zN_uI, zN_uJ, zN_uA, zN_uB, zN_uR, zN_uN, zI_ne, zJ_ne, zA_ne, zB_ne, zR_ne, zN_ne, bi_T, bi_F, nz16, ↓reduceIte, not_true_eq_false, not_false_eq_true, Bool.false_eq_true, reduceCtorEq]
  refine ⟨uB w 45 (vp_updL (zB w 45) (rx (zs g S) 8 * am S) (lN (xw (xL g S 0 0)))), FR.uB (hF.tr (h2.mono (by decide) (by decide) (by decide) (by decide))) (by decide), ?_, ?_, ?_⟩
  · intro s b h5 h6 h7 h8
    have h9 := slot_lt h6 h7
    rw [zB_uB, uL_ne (by omega)]
    exact hSL.fr h2 (by decide) s b h5 h6 h7 h8
  · rw [zB_uB, pk_uLs]
  · simp (disch := omega) only [l0, l1, l2, l3, l4, l5, l6, l7, l8, l9, l10, l11, l12, l16, l18, l19, l20, l21, l24, l96, l128, l100, l144, l200, l256, l288, l1536, l1728, l1800, bnd, nI_add, pk_mul, pI_sub, pI_m1, pT_le, pF_le, pT_lt, pF_lt, pT_eq, pF_eq, pF_m1, mF_eq, mT_eq, mT_lt, mF_le, lm1, rd_nI, wr_nI, cl_nI, pk_us, un_ne, pk_uLs, uL_ne, zI_uI, zI_uJ, zI_uA, zI_uB, zI_uR, zI_uN, zJ_uI, zJ_uJ, zJ_uA, zJ_uB, zJ_uR, zJ_uN, zA_uI, zA_uJ, zA_uA, zA_uB, zA_uR, zA_uN, zB_uI, zB_uJ, zB_uA, zB_uB, zB_uR, zB_uN, zR_uI, zR_uJ, zR_uA, zR_uB, zR_uR, zR_uN, zN_uI, zN_uJ, zN_uA, zN_uB, zN_uR, zN_uN, zI_ne, zJ_ne, zA_ne, zB_ne, zR_ne, zN_ne, bi_T, bi_F, nz16, ↓reduceIte, not_true_eq_false, not_false_eq_true, Bool.false_eq_true, reduceCtorEq, h4, hss, hset]
theorem c_back_mid {σ : St} {g : Gh} {S : Nat} (hg : okG g) (hC : CL σ g S) (τ : St) (hF : FR [40, 41, 42] [43, 45] [] [] σ τ) (hD : SD τ g S (rx (zs g S) 8 - 1)) : ∃ υ, FR [40, 41, 42] [43, 45] [] [] σ υ ∧ SL υ g S 1 ∧ zB υ 45 (rx (zs g S) 8 * am S) = lN (xw (xL g S 0 0)) ∧ fX2_countBack_P35 (fun s12 => (fX2_lookAhead s12 (0 : Int32)).bind fun s13 => (fX2_startSlot s13).bind fun x14 => (fX2_settle s13 (20 : Int32) x14).bind fun s15 => some s15) τ (nI (rx (zs g S) 8 - 1)) = some υ := by
  have hS := hC.1
  have hsm := hC.2.1
  have h1 := rho_am S hS.1
  have hxp := rx_pos (zs g S) 8
  have hx2 := hsm.1
  have key := it_down (β := St) (body := fun (kb : (St × Int32) → Option St) (t : St × Int32) => fX2_countBack_L35 (fun s12 => (fX2_lookAhead s12 (0 : Int32)).bind fun s13 => (fX2_startSlot s13).bind fun x14 => (fX2_settle s13 (20 : Int32) x14).bind fun s15 => some s15) (fun σ v1 => kb (σ, v1)) t.1 t.2) (fun i τ => (τ, nI i)) (fun i τ => i < rx (zs g S) 8 ∧ FR [40, 41, 42] [43, 45] [] [] σ τ ∧ SD τ g S i ∧ SL τ g S (i + 1)) (fun i τ z => ∃ υ, FR [40, 41, 42] [43, 45] [] [] σ υ ∧ SL υ g S 1 ∧ zB υ 45 (rx (zs g S) 8 * am S) = lN (xw (xL g S 0 0)) ∧ z = some υ) ?_ ?_ (rx (zs g S) 8 - 1) (by omega) τ ⟨by omega, hF, hD, fun s b h2 h3 => by omega⟩
  · exact key
  · rintro τ ⟨_, hF, hD, hSL⟩ kb
    obtain ⟨υ, h2, h3, h4, h5⟩ := c_back_fin hg hC τ hF hD hSL
    refine ⟨υ, h2, h3, h4, ?_⟩
    show fX2_countBack_L35 _ _ τ (nI 0) = _
    unfold fX2_countBack_L35
    simp (disch := omega) only [l0, l1, l2, l3, l4, l5, l6, l7, l8, l9, l10, l11, l12, l16, l18, l19, l20, l21, l24, l96, l128, l100, l144, l200, l256, l288, l1536, l1728, l1800, bnd, nI_add, pk_mul, pI_sub, pI_m1, pT_le, pF_le, pT_lt, pF_lt, pT_eq, pF_eq, pF_m1, mF_eq, mT_eq, mT_lt, mF_le, lm1, rd_nI, wr_nI, cl_nI, pk_us, un_ne, pk_uLs, uL_ne, zI_uI, zI_uJ, zI_uA, zI_uB, zI_uR, zI_uN, zJ_uI, zJ_uJ, zJ_uA, zJ_uB, zJ_uR, zJ_uN, zA_uI, zA_uJ, zA_uA, zA_uB, zA_uR, zA_uN, zB_uI, zB_uJ, zB_uA, zB_uB, zB_uR, zB_uN, zR_uI, zR_uJ, zR_uA, zR_uB, zR_uR, zR_uN, zN_uI, zN_uJ, zN_uA, zN_uB, zN_uR, zN_uN, zI_ne, zJ_ne, zA_ne, zB_ne, zR_ne, zN_ne, bi_T, bi_F, nz16, ↓reduceIte, not_true_eq_false, not_false_eq_true, Bool.false_eq_true, reduceCtorEq]
    exact h5
  · rintro i τ ⟨hi, hF, hD, hSL⟩ kb hkb
    have hC2 := hC.fr hF (by decide) (by decide) (by decide)
    obtain ⟨w, h2, h3, h4⟩ := c_lookAhead hg hC2 hi hD hSL
    have hFw : FR [40, 41, 42] [43, 45] [] [] σ w := hF.tr (h2.mono (by decide) (by decide) (by decide) (by decide))
    have hCw := hC.fr hFw (by decide) (by decide) (by decide)
    obtain ⟨u, h5, h6, h7, h8, h9⟩ := c_back1 (fun s10 => (fX2_stepBack s10).bind fun s11 => kb (s11, nI (i + 1) + (-1 : Int32))) hg hC hi hFw hCw.2.2.1 h3 (hD.fr h2 (by decide)) (hSL.fr h2 (by decide))
    have hCu := hC.fr h5 (by decide) (by decide) (by decide)
    obtain ⟨y, h10, h11, h12⟩ := c_stepBack hg hS h6 hCu.2.2.2.1 hi (Nat.succ_pos i) h7
    rw [Nat.add_sub_cancel] at h11
    obtain ⟨q, h13, h14, h15, h16⟩ := hkb y ⟨by omega, h5.tr (h10.mono (by decide) (by decide) (by decide) (by decide)), h11, h8.fr h10 (by decide)⟩
    refine ⟨q, h13, h14, h15, ?_⟩
    rw [← h16]
    show fX2_countBack_L35 _ _ τ (nI (i + 1)) = _
    have e : nI (i + 1) + (-1 : Int32) = nI i := pI_m1 (by omega)
    rw [e] at h9
    unfold fX2_countBack_L35
    simp (disch := omega) only [l0, l1, l2, l3, l4, l5, l6, l7, l8, l9, l10, l11, l12, l16, l18, l19, l20, l21, l24, l96, l128, l100, l144, l200, l256, l288, l1536, l1728, l1800, bnd, nI_add, pk_mul, pI_sub, pI_m1, pT_le, pF_le, pT_lt, pF_lt, pT_eq, pF_eq, pF_m1, mF_eq, mT_eq, mT_lt, mF_le, lm1, rd_nI, wr_nI, cl_nI, pk_us, un_ne, pk_uLs, uL_ne, zI_uI, zI_uJ, zI_uA, zI_uB, zI_uR, zI_uN, zJ_uI, zJ_uJ, zJ_uA, zJ_uB, zJ_uR, zJ_uN, zA_uI, zA_uJ, zA_uA, zA_uB, zA_uR, zA_uN, zB_uI, zB_uJ, zB_uA, zB_uB, zB_uR, zB_uN, zR_uI, zR_uJ, zR_uA, zR_uB, zR_uR, zR_uN, zN_uI, zN_uJ, zN_uA, zN_uB, zN_uR, zN_uN, zI_ne, zJ_ne, zA_ne, zB_ne, zR_ne, zN_ne, bi_T, bi_F, nz16, ↓reduceIte, not_true_eq_false, not_false_eq_true, Bool.false_eq_true, reduceCtorEq, h4, Nat.add_sub_cancel, h9, h12]
theorem c_countBack {σ : St} {g : Gh} {S : Nat} (hg : okG g) (hC : CL σ g S) : ∃ υ, FR [40, 41, 42] [43, 45] [] [] σ υ ∧ SL υ g S 1 ∧ zB υ 45 (rx (zs g S) 8 * am S) = lN (xw (xL g S 0 0)) ∧ fX2_countBack σ = some υ := by
  have hS := hC.1
  have hsm := hC.2.1
  have h1 := rho_am S hS.1
  have hxp := rx_pos (zs g S) 8
  have hx2 := hsm.1
  -- all is said
  have key := it_for (β := St) (body := fun (kb : (St × Int32) → Option St) (t : St × Int32) => fX2_countBack_L2 (fun s3 => (some (((zI s3 22) - (1 : Int32)))).bind fun x4 => fX2_countBack_P35 (fun s12 => (fX2_lookAhead s12 (0 : Int32)).bind fun s13 => (fX2_startSlot s13).bind fun x14 => (fX2_settle s13 (20 : Int32) x14).bind fun s15 => some s15) s3 x4) (fun σ v1 => kb (σ, v1)) t.1 t.2) (am S) (by omega) (fun a τ => (τ, nI a)) (fun a τ => FR [40] [] [] [] σ τ ∧ ∀ b, b < a → zA τ 40 b = nI (zs g S (rho S b))) (fun a τ z => ∃ υ, FR [40, 41, 42] [43, 45] [] [] σ υ ∧ SL υ g S 1 ∧ zB υ 45 (rx (zs g S) 8 * am S) = lN (xw (xL g S 0 0)) ∧ z = some υ) ?_ 0 σ (Nat.zero_le _) ⟨FR.rf _ _ _ _ _, fun b hb => absurd hb (Nat.not_lt_zero _)⟩
  · exact key
  · rintro a τ ha ⟨hF, hlo⟩ kb hkb
    show ∃ υ, _ ∧ _ ∧ _ ∧ fX2_countBack_L2 _ (fun σ v1 => kb (σ, v1)) τ (nI a) = _
    have hC2 := hC.fr hF (by decide) (by decide) (by decide)
    have h21 := hC2.2.2.2.1
    have h22 := hC2.2.2.2.2.1
    unfold fX2_countBack_L2
    by_cases hae : a = am S
    · obtain ⟨υ, h2, h3, h4, h5⟩ := c_back_mid hg hC τ (hF.mono (by decide) (by decide) (by decide) (by decide)) (fun b hb => by
        have hi := rho_in S hS.1 b (by omega) hb
        rw [hlo b (by omega), sd_full (n := 8) (by omega) _ hi.1])
      refine ⟨υ, h2, h3, h4, ?_⟩
      have hsub : nI (rx (zs g S) 8) - nI 1 = nI (rx (zs g S) 8 - 1) := pI_sub (by omega)
      rw [l0, l20] at h5
      simp (disch := omega) only [l0, l1, l2, l3, l4, l5, l6, l7, l8, l9, l10, l11, l12, l16, l18, l19, l20, l21, l24, l96, l128, l100, l144, l200, l256, l288, l1536, l1728, l1800, bnd, nI_add, pk_mul, pI_sub, pI_m1, pT_le, pF_le, pT_lt, pF_lt, pT_eq, pF_eq, pF_m1, mF_eq, mT_eq, mT_lt, mF_le, lm1, rd_nI, wr_nI, cl_nI, pk_us, un_ne, pk_uLs, uL_ne, zI_uI, zI_uJ, zI_uA, zI_uB, zI_uR, zI_uN, zJ_uI, zJ_uJ, zJ_uA, zJ_uB, zJ_uR, zJ_uN, zA_uI, zA_uJ, zA_uA, zA_uB, zA_uR, zA_uN, zB_uI, zB_uJ, zB_uA, zB_uB, zB_uR, zB_uN, zR_uI, zR_uJ, zR_uA, zR_uB, zR_uR, zR_uN, zN_uI, zN_uJ, zN_uA, zN_uB, zN_uR, zN_uN, zI_ne, zJ_ne, zA_ne, zB_ne, zR_ne, zN_ne, bi_T, bi_F, nz16, ↓reduceIte, not_true_eq_false, not_false_eq_true, Bool.false_eq_true, reduceCtorEq, h21, h22, hae, hsub]
      exact h5
    · have ha2 : a < am S := by omega
      have hl := hC2.2.2.1 a ha2
      have nx := hkb (uA τ 40 (upd (zA τ 40) a (nI (zs g S (rho S a))))) ha2 ⟨FR.uA hF (by decide), fun b hb => by
        by_cases e : b = a
        · rw [e, zA_uA, pk_us]
        · rw [zA_uA, pk_un e]
          exact hlo b (by omega)⟩
      simp (disch := omega) only [l0, l1, l2, l3, l4, l5, l6, l7, l8, l9, l10, l11, l12, l16, l18, l19, l20, l21, l24, l96, l128, l100, l144, l200, l256, l288, l1536, l1728, l1800, bnd, nI_add, pk_mul, pI_sub, pI_m1, pT_le, pF_le, pT_lt, pF_lt, pT_eq, pF_eq, pF_m1, mF_eq, mT_eq, mT_lt, mF_le, lm1, rd_nI, wr_nI, cl_nI, pk_us, un_ne, pk_uLs, uL_ne, zI_uI, zI_uJ, zI_uA, zI_uB, zI_uR, zI_uN, zJ_uI, zJ_uJ, zJ_uA, zJ_uB, zJ_uR, zJ_uN, zA_uI, zA_uJ, zA_uA, zA_uB, zA_uR, zA_uN, zB_uI, zB_uJ, zB_uA, zB_uB, zB_uR, zB_uN, zR_uI, zR_uJ, zR_uA, zR_uB, zR_uR, zR_uN, zN_uI, zN_uJ, zN_uA, zN_uB, zN_uR, zN_uN, zI_ne, zJ_ne, zA_ne, zB_ne, zR_ne, zN_ne, bi_T, bi_F, nz16, ↓reduceIte, not_true_eq_false, not_false_eq_true, Bool.false_eq_true, reduceCtorEq, h21, hl.2.1]
      exact nx
