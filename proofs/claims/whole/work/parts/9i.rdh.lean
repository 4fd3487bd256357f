/-! the class's reader of sort h: tokens cut up, and the steps *-/
def Jh (c : Nat) : Bool := decide (48 ≤ c ∧ c ≤ 57)
def gh (v c : Nat) : Nat := 10 * v + (c - 48)
theorem l48 : (48 : Int32) = nI 48 := nrfl rfl
theorem l57 : (57 : Int32) = nI 57 := nrfl rfl
theorem L48 : (48 : Int64) = lN 48 := nrfl rfl
theorem L10 : (10 : Int64) = lN 10 := nrfl rfl
theorem jnh {b : Nat} (hb : b < 256) : fX1_joins (nI b) = some (Jh b) := by
  unfold fX1_joins Jh
  by_cases h1 : 48 ≤ b
  · by_cases h2 : b ≤ 57
    · rw [decide_eq_true ⟨h1, h2⟩]
      simp (disch := omega) only [l0, l1, l2, l3, l4, l5, l6, l7, l8, l9, l10, l11, l12, l16, l18, l19, l20, l21, l24, l96, l128, l100, l144, l200, l256, l288, l1536, l1728, l1800, bnd, nI_add, pk_mul, pI_sub, pI_m1, pT_le, pF_le, pT_lt, pF_lt, pT_eq, pF_eq, pF_m1, mF_eq, mT_eq, mT_lt, mF_le, lm1, rd_nI, wr_nI, cl_nI, pk_us, un_ne, pk_uLs, uL_ne, zI_uI, zI_uJ, zI_uA, zI_uB, zI_uR, zI_uN, zJ_uI, zJ_uJ, zJ_uA, zJ_uB, zJ_uR, zJ_uN, zA_uI, zA_uJ, zA_uA, zA_uB, zA_uR, zA_uN, zB_uI, zB_uJ, zB_uA, zB_uB, zB_uR, zB_uN, zR_uI, zR_uJ, zR_uA, zR_uB, zR_uR, zR_uN, zN_uI, zN_uJ, zN_uA, zN_uB, zN_uR, zN_uN, zI_ne, zJ_ne, zA_ne, zB_ne, zR_ne, zN_ne, bi_T, bi_F, nz16, ↓reduceIte, not_true_eq_false, not_false_eq_true, Bool.false_eq_true, reduceCtorEq, l48, l57]
    · rw [decide_eq_false (fun h => h2 h.2)]
      simp (disch := omega) only [l0, l1, l2, l3, l4, l5, l6, l7, l8, l9, l10, l11, l12, l16, l18, l19, l20, l21, l24, l96, l128, l100, l144, l200, l256, l288, l1536, l1728, l1800, bnd, nI_add, pk_mul, pI_sub, pI_m1, pT_le, pF_le, pT_lt, pF_lt, pT_eq, pF_eq, pF_m1, mF_eq, mT_eq, mT_lt, mF_le, lm1, rd_nI, wr_nI, cl_nI, pk_us, un_ne, pk_uLs, uL_ne, zI_uI, zI_uJ, zI_uA, zI_uB, zI_uR, zI_uN, zJ_uI, zJ_uJ, zJ_uA, zJ_uB, zJ_uR, zJ_uN, zA_uI, zA_uJ, zA_uA, zA_uB, zA_uR, zA_uN, zB_uI, zB_uJ, zB_uA, zB_uB, zB_uR, zB_uN, zR_uI, zR_uJ, zR_uA, zR_uB, zR_uR, zR_uN, zN_uI, zN_uJ, zN_uA, zN_uB, zN_uR, zN_uN, zI_ne, zJ_ne, zA_ne, zB_ne, zR_ne, zN_ne, bi_T, bi_F, nz16, ↓reduceIte, not_true_eq_false, not_false_eq_true, Bool.false_eq_true, reduceCtorEq, l48, l57]
  · rw [decide_eq_false (fun h => h1 h.1)]
    simp (disch := omega) only [l0, l1, l2, l3, l4, l5, l6, l7, l8, l9, l10, l11, l12, l16, l18, l19, l20, l21, l24, l96, l128, l100, l144, l200, l256, l288, l1536, l1728, l1800, bnd, nI_add, pk_mul, pI_sub, pI_m1, pT_le, pF_le, pT_lt, pF_lt, pT_eq, pF_eq, pF_m1, mF_eq, mT_eq, mT_lt, mF_le, lm1, rd_nI, wr_nI, cl_nI, pk_us, un_ne, pk_uLs, uL_ne, zI_uI, zI_uJ, zI_uA, zI_uB, zI_uR, zI_uN, zJ_uI, zJ_uJ, zJ_uA, zJ_uB, zJ_uR, zJ_uN, zA_uI, zA_uJ, zA_uA, zA_uB, zA_uR, zA_uN, zB_uI, zB_uJ, zB_uA, zB_uB, zB_uR, zB_uN, zR_uI, zR_uJ, zR_uA, zR_uB, zR_uR, zR_uN, zN_uI, zN_uJ, zN_uA, zN_uB, zN_uR, zN_uN, zI_ne, zJ_ne, zA_ne, zB_ne, zR_ne, zN_ne, bi_T, bi_F, nz16, ↓reduceIte, not_true_eq_false, not_false_eq_true, Bool.false_eq_true, reduceCtorEq, l48]
theorem mjh : fX1_mostJoined = some (nI 4) := nrfl rfl
theorem gwh {v c r : Nat} (hj : Jh c = true) (hc : c < 256) (hv : v < 10 ^ r) (hr : r < 4) : fX1_grown (lN v) (nI c) = some (lN (gh v c)) ∧ gh v c < 10 ^ (r + 1) := by
  have hj := of_decide_eq_true hj
  unfold gh
  refine ⟨?_, ?_⟩
  · have h1 := nI64 (n := c) (by omega)
    have h2 : lN (10 * v + c) - lN 48 = lN (10 * v + (c - 48)) := by
      rw [show 10 * v + c = 48 + (10 * v + (c - 48)) by omega, lN_subl]
    unfold fX1_grown
    rw [h1, L10, L48, lN_mul, lN_add, h2]
  · rw [Nat.pow_succ]
    omega
theorem c_cutUp_h {σ : St} {bs : List Nat} (h2 : zI σ 2 = nI bs.length) (h11 : hB (zA σ 11) bs) (hl : bs.length ≤ 200) (hb : ∀ b, b ∈ bs → 1 ≤ b ∧ b < 256) : ∃ υ, FR [22] [21] [] [] σ υ ∧ RW υ 21 22 (tkF Jh 4 gh bs) ∧ (tkF Jh 4 gh bs).length ≤ 201 ∧ fX5_cutUp_h σ = some υ := by
  have key := it_for (β := St × Nat × List Tk × Option Tk) (body := fun (kb : (St × Int32 × Int32 × Int32) → Option St) (t : St × Int32 × Int32 × Int32) => fX5_cutUp_h_L7 (fun s20 x21 => wr 201 x21 ((some (uB s20 21 (vp_updL (zB s20 21) (Int32.toNatClampNeg x21) (256 : Int64)))).bind fun s22 => (fX9_size s22).bind fun x23 => wr 201 x21 ((some (uA s22 22 (upd (zA s22 22) (Int32.toNatClampNeg x21) x23))).bind fun s24 => some s24))) (fun σ v2 v3 v4 => kb (σ, v2, v3, v4)) t.1 t.2.1 t.2.2.1 t.2.2.2) bs.length (by omega) (fun p b => (b.1, nI (rows b.2.2.1 b.2.2.2).length, nI b.2.1, nI p)) (fun p b => FR [22] [21] [] [] σ b.1 ∧ RW b.1 21 22 (rows b.2.2.1 b.2.2.2) ∧ (rows b.2.2.1 b.2.2.2).length ≤ p ∧ tkF Jh 4 gh bs = b.2.2.1 ++ (tk Jh 4 gh (bs.drop p) p b.2.1 b.2.2.2 ++ [(256, bs.length)]) ∧ (∀ q, b.2.2.2 = some q → 1 ≤ b.2.1 ∧ b.2.1 ≤ 4 ∧ q.1 < 10 ^ b.2.1) ∧ (b.2.2.2 = none → b.2.1 = 0 ∨ 4 < b.2.1) ∧ b.2.1 ≤ p) (fun p b z => ∃ υ, FR [22] [21] [] [] σ υ ∧ RW υ 21 22 (tkF Jh 4 gh bs) ∧ (tkF Jh 4 gh bs).length ≤ 201 ∧ z = some υ) ?_ 0 (σ, 0, [], none) (Nat.zero_le _) ⟨FR.rf _ _ _ _ _, fun k hk => absurd hk (Nat.not_lt_zero _), Nat.le_refl _, rfl, (fun q hq => by cases hq), fun _ => .inl rfl, Nat.le_refl _⟩
  · exact key
  · rintro p ⟨τ, run, D, pend⟩ hp ⟨hF, hR, hlen, hT, hS, hN, hrp⟩ kb hkb
    have hF : FR [22] [21] [] [] σ τ := hF
    have hR : RW τ 21 22 (rows D pend) := hR
    have hlen : (rows D pend).length ≤ p := hlen
    have hT : tkF Jh 4 gh bs = D ++ (tk Jh 4 gh (bs.drop p) p run pend ++ [(256, bs.length)]) := hT
    have hS : ∀ q, pend = some q → 1 ≤ run ∧ run ≤ 4 ∧ q.1 < 10 ^ run := hS
    have hN : pend = none → run = 0 ∨ 4 < run := hN
    have hrp : run ≤ p := hrp
    have h2t : zI τ 2 = nI bs.length := (hF.2.2.1 2 (by decide)).trans h2
    have h11t : hB (zA τ 11) bs := by rw [hF.1 11 (by decide)]; exact h11
    show ∃ υ, _ ∧ _ ∧ _ ∧ fX5_cutUp_h_L7 _ (fun σ v2 v3 v4 => kb (σ, v2, v3, v4)) τ (nI (rows D pend).length) (nI run) (nI p) = some υ
    have hsz : fX9_size τ = some (nI bs.length) := by unfold fX9_size; rw [h2t]
    unfold fX5_cutUp_h_L7
    by_cases hpe : p = bs.length
    · have hT2 : tkF Jh 4 gh bs = rows D pend ++ [(256, bs.length)] := by
        rw [hT, hpe, drop_end (Nat.le_refl _)]
        cases pend with
        | none => rfl
        | some q => show D ++ ([(1000 + q.1, q.2)] ++ _) = _; rw [← List.append_assoc]; rfl
      have hadd := RW_add (v := 256) (s := bs.length) hR
      have hF2 : FR [22] [21] [] [] σ (uA (uB τ 21 (vp_updL (zB τ 21) (rows D pend).length (lN 256))) 22 (upd (zA τ 22) (rows D pend).length (nI bs.length))) := FR.uA (FR.uB hF (by decide)) (by decide)
      refine ⟨uA (uB τ 21 (vp_updL (zB τ 21) (rows D pend).length (lN 256))) 22 (upd (zA τ 22) (rows D pend).length (nI bs.length)), hF2, ?_, ?_, ?_⟩
      · rw [hT2]
        exact hadd
      · rw [hT2, List.length_append, List.length_singleton]
        omega
      · have hsz2 : ∀ f, fX9_size (uB τ 21 f) = some (nI bs.length) := fun f => by unfold fX9_size; rw [zI_uB, h2t]
        simp (disch := omega) only [l0, l1, l2, l3, l4, l5, l6, l7, l8, l9, l10, l11, l12, l16, l18, l19, l20, l21, l24, l96, l128, l100, l144, l200, l256, l288, l1536, l1728, l1800, bnd, nI_add, pk_mul, pI_sub, pI_m1, pT_le, pF_le, pT_lt, pF_lt, pT_eq, pF_eq, pF_m1, mF_eq, mT_eq, mT_lt, mF_le, lm1, rd_nI, wr_nI, cl_nI, pk_us, un_ne, pk_uLs, uL_ne, zI_uI, zI_uJ, zI_uA, zI_uB, zI_uR, zI_uN, zJ_uI, zJ_uJ, zJ_uA, zJ_uB, zJ_uR, zJ_uN, zA_uI, zA_uJ, zA_uA, zA_uB, zA_uR, zA_uN, zB_uI, zB_uJ, zB_uA, zB_uB, zB_uR, zB_uN, zR_uI, zR_uJ, zR_uA, zR_uB, zR_uR, zR_uN, zN_uI, zN_uJ, zN_uA, zN_uB, zN_uR, zN_uN, zI_ne, zJ_ne, zA_ne, zB_ne, zR_ne, zN_ne, bi_T, bi_F, nz16, ↓reduceIte, not_true_eq_false, not_false_eq_true, Bool.false_eq_true, reduceCtorEq, hsz, hpe, hsz2, l256L]
    · have hpl : p < bs.length := by omega
      have hat := c_at h2t h11t hl hb hpl
      have hbb := hb _ (getD_mem (d := 0) hpl)
      rw [drop_get' hpl] at hT
      have hjn := jnh (b := bs.getD p 0) hbb.2
      generalize bs.getD p 0 = c at *
      -- a row more
      have more : ∀ (v : Nat) (r2 : Nat) (D2 : List Tk) (pend2 : Option Tk), rows D2 pend2 = rows D pend ++ [(v, p)] → tkF Jh 4 gh bs = D2 ++ (tk Jh 4 gh (bs.drop (p + 1)) (p + 1) r2 pend2 ++ [(256, bs.length)]) → (∀ q, pend2 = some q → 1 ≤ r2 ∧ r2 ≤ 4 ∧ q.1 < 10 ^ r2) → (pend2 = none → r2 = 0 ∨ 4 < r2) → r2 ≤ p + 1 → ∃ υ, FR [22] [21] [] [] σ υ ∧ RW υ 21 22 (tkF Jh 4 gh bs) ∧ (tkF Jh 4 gh bs).length ≤ 201 ∧ kb (uA (uB τ 21 (vp_updL (zB τ 21) (rows D pend).length (lN v))) 22 (upd (zA τ 22) (rows D pend).length (nI p)), nI ((rows D pend).length + 1), nI r2, nI (p + 1)) = some υ := by
        intro v r2 D2 pend2 e1 e2 e3 e4 e5
        have nx := hkb (uA (uB τ 21 (vp_updL (zB τ 21) (rows D pend).length (lN v))) 22 (upd (zA τ 22) (rows D pend).length (nI p)), r2, D2, pend2) hpl ⟨FR.uA (FR.uB hF (by decide)) (by decide), by
          rw [e1]
          exact RW_add hR, by
          rw [e1, List.length_append, List.length_singleton]
          omega, e2, e3, e4, e5⟩
        have nx : ∃ υ, FR [22] [21] [] [] σ υ ∧ RW υ 21 22 (tkF Jh 4 gh bs) ∧ (tkF Jh 4 gh bs).length ≤ 201 ∧ kb (uA (uB τ 21 (vp_updL (zB τ 21) (rows D pend).length (lN v))) 22 (upd (zA τ 22) (rows D pend).length (nI p)), nI (rows D2 pend2).length, nI r2, nI (p + 1)) = some υ := nx
        rw [e1, List.length_append, List.length_singleton] at nx
        exact nx
      cases hj : Jh c with
      | true =>
        rw [hj] at hjn
        have hmj := mjh
        have h32 : c ≠ 32 := fun e => by rw [e] at hj; exact absurd hj (by decide)
        have h32' : ¬ nI c = nI 32 := fun e => h32 ((nI_eq (by omega) (by omega)).mp e)
        cases pend with
        | some q =>
          obtain ⟨hS1, hS2, hS3⟩ := hS q rfl
          have hrl : (rows D (some q)).length = D.length + 1 := by show (D ++ [_]).length = _; rw [List.length_append, List.length_singleton]
          by_cases hr : run < 4
          · obtain ⟨hg1, hg2⟩ := gwh hj hbb.2 hS3 hr
            have e2 : tkF Jh 4 gh bs = D ++ (tk Jh 4 gh (bs.drop (p + 1)) (p + 1) (run + 1) (some (gh q.1 c, q.2)) ++ [(256, bs.length)]) := by
              rw [hT, tk_cS, if_pos hj, if_pos hr]
            have nx := hkb (uB τ 21 (vp_updL (zB τ 21) D.length (lN (1000 + gh q.1 c))), run + 1, D, some (gh q.1 c, q.2)) hpl ⟨FR.uB hF (by decide), RW_last hR, by
              show (D ++ [_]).length ≤ p + 1
              rw [List.length_append, List.length_singleton]
              omega, e2, (fun q2 hq2 => by cases hq2; exact ⟨by show 1 ≤ run + 1; omega, by show run + 1 ≤ 4; omega, hg2⟩), (fun h => by cases h), by show run + 1 ≤ p + 1; omega⟩
            have nx : ∃ υ, FR [22] [21] [] [] σ υ ∧ RW υ 21 22 (tkF Jh 4 gh bs) ∧ (tkF Jh 4 gh bs).length ≤ 201 ∧ kb (uB τ 21 (vp_updL (zB τ 21) D.length (lN (1000 + gh q.1 c))), nI (rows D (some (gh q.1 c, q.2))).length, nI (run + 1), nI (p + 1)) = some υ := nx
            have hrl2 : (rows D (some (gh q.1 c, q.2))).length = D.length + 1 := by show (D ++ [_]).length = _; rw [List.length_append, List.length_singleton]
            rw [hrl2] at nx
            have hold := (hR D.length (by omega)).1
            rw [show rows D (some q) = D ++ [(1000 + q.1, q.2)] from rfl, getD_snoc_eq'] at hold
            have hold : zB τ 21 D.length = lN (1000 + q.1) := hold
            have hsub : nI (D.length + 1) - nI 1 = nI D.length := by rw [pI_sub (by omega), Nat.add_sub_cancel]
            rw [hrl] at hlen ⊢
            simp (disch := omega) only [l0, l1, l2, l3, l4, l5, l6, l7, l8, l9, l10, l11, l12, l16, l18, l19, l20, l21, l24, l96, l128, l100, l144, l200, l256, l288, l1536, l1728, l1800, bnd, nI_add, pk_mul, pI_sub, pI_m1, pT_le, pF_le, pT_lt, pF_lt, pT_eq, pF_eq, pF_m1, mF_eq, mT_eq, mT_lt, mF_le, lm1, rd_nI, wr_nI, cl_nI, pk_us, un_ne, pk_uLs, uL_ne, zI_uI, zI_uJ, zI_uA, zI_uB, zI_uR, zI_uN, zJ_uI, zJ_uJ, zJ_uA, zJ_uB, zJ_uR, zJ_uN, zA_uI, zA_uJ, zA_uA, zA_uB, zA_uR, zA_uN, zB_uI, zB_uJ, zB_uA, zB_uB, zB_uR, zB_uN, zR_uI, zR_uJ, zR_uA, zR_uB, zR_uR, zR_uN, zN_uI, zN_uJ, zN_uA, zN_uB, zN_uR, zN_uN, zI_ne, zJ_ne, zA_ne, zB_ne, zR_ne, zN_ne, bi_T, bi_F, nz16, ↓reduceIte, not_true_eq_false, not_false_eq_true, Bool.false_eq_true, reduceCtorEq, hsz, hat, hjn, hmj, hsub, hold, l1000L, lN_subl, hg1, lN_add]
            exact nx
          · have e2 : tkF Jh 4 gh bs = (rows D (some q) ++ [(257, p)]) ++ (tk Jh 4 gh (bs.drop (p + 1)) (p + 1) (run + 1) none ++ [(256, bs.length)]) := by
              rw [hT, tk_cS, if_pos hj, if_neg hr]
              show D ++ (([(1000 + q.1, q.2)] ++ ([(257, p)] ++ _)) ++ _) = (D ++ [_]) ++ [_] ++ _
              rw [List.append_assoc, List.append_assoc, List.append_assoc, List.append_assoc]
            have nx := more 257 (run + 1) (rows D (some q) ++ [(257, p)]) none rfl e2 (fun q hq => by cases hq) (fun _ => .inr (by omega)) (by omega)
            unfold fX5_cutUp_h_J93 fX5_cutUp_h_J114
            simp (disch := omega) only [l0, l1, l2, l3, l4, l5, l6, l7, l8, l9, l10, l11, l12, l16, l18, l19, l20, l21, l24, l96, l128, l100, l144, l200, l256, l288, l1536, l1728, l1800, bnd, nI_add, pk_mul, pI_sub, pI_m1, pT_le, pF_le, pT_lt, pF_lt, pT_eq, pF_eq, pF_m1, mF_eq, mT_eq, mT_lt, mF_le, lm1, rd_nI, wr_nI, cl_nI, pk_us, un_ne, pk_uLs, uL_ne, zI_uI, zI_uJ, zI_uA, zI_uB, zI_uR, zI_uN, zJ_uI, zJ_uJ, zJ_uA, zJ_uB, zJ_uR, zJ_uN, zA_uI, zA_uJ, zA_uA, zA_uB, zA_uR, zA_uN, zB_uI, zB_uJ, zB_uA, zB_uB, zB_uR, zB_uN, zR_uI, zR_uJ, zR_uA, zR_uB, zR_uR, zR_uN, zN_uI, zN_uJ, zN_uA, zN_uB, zN_uR, zN_uN, zI_ne, zJ_ne, zA_ne, zB_ne, zR_ne, zN_ne, bi_T, bi_F, nz16, ↓reduceIte, not_true_eq_false, not_false_eq_true, Bool.false_eq_true, reduceCtorEq, hsz, hat, hjn, hmj, l257L, l32, if_neg h32']
            exact nx
        | none =>
          rcases hN rfl with hN | hN
          · obtain ⟨hg1, hg2⟩ := gwh (v := 0) (r := 0) hj hbb.2 (by decide) (by decide)
            have e2 : tkF Jh 4 gh bs = D ++ (tk Jh 4 gh (bs.drop (p + 1)) (p + 1) 1 (some (gh 0 c, p)) ++ [(256, bs.length)]) := by
              rw [hT, tk_cN, if_pos hj, if_neg (by omega)]
            have nx := more (1000 + gh 0 c) 1 D (some (gh 0 c, p)) rfl e2 (fun q hq => by cases hq; exact ⟨Nat.le_refl _, by decide, hg2⟩) (fun h => by cases h) (by omega)
            unfold fX5_cutUp_h_J93 fX5_cutUp_h_J114
            simp (disch := omega) only [l0, l1, l2, l3, l4, l5, l6, l7, l8, l9, l10, l11, l12, l16, l18, l19, l20, l21, l24, l96, l128, l100, l144, l200, l256, l288, l1536, l1728, l1800, bnd, nI_add, pk_mul, pI_sub, pI_m1, pT_le, pF_le, pT_lt, pF_lt, pT_eq, pF_eq, pF_m1, mF_eq, mT_eq, mT_lt, mF_le, lm1, rd_nI, wr_nI, cl_nI, pk_us, un_ne, pk_uLs, uL_ne, zI_uI, zI_uJ, zI_uA, zI_uB, zI_uR, zI_uN, zJ_uI, zJ_uJ, zJ_uA, zJ_uB, zJ_uR, zJ_uN, zA_uI, zA_uJ, zA_uA, zA_uB, zA_uR, zA_uN, zB_uI, zB_uJ, zB_uA, zB_uB, zB_uR, zB_uN, zR_uI, zR_uJ, zR_uA, zR_uB, zR_uR, zR_uN, zN_uI, zN_uJ, zN_uA, zN_uB, zN_uR, zN_uN, zI_ne, zJ_ne, zA_ne, zB_ne, zR_ne, zN_ne, bi_T, bi_F, nz16, ↓reduceIte, not_true_eq_false, not_false_eq_true, Bool.false_eq_true, reduceCtorEq, hsz, hat, hjn, hN, L0, hg1, l1000L, lN_add, l32, if_neg h32', Nat.zero_add]
            exact nx
          · have e2 : tkF Jh 4 gh bs = (rows D none ++ [(257, p)]) ++ (tk Jh 4 gh (bs.drop (p + 1)) (p + 1) (run + 1) none ++ [(256, bs.length)]) := by
              rw [hT, tk_cN, if_pos hj, if_pos (by omega)]
              show D ++ (([(257, p)] ++ _) ++ _) = D ++ [_] ++ _
              rw [List.append_assoc, List.append_assoc]
            have nx := more 257 (run + 1) (rows D none ++ [(257, p)]) none rfl e2 (fun q hq => by cases hq) (fun _ => .inr (by omega)) (by omega)
            unfold fX5_cutUp_h_J93 fX5_cutUp_h_J114
            simp only [hsz, bnd]
            rw [if_neg (show ¬ nI bs.length ≤ nI p by rw [pF_le (by omega) (by omega)]; exact fun h => h), l200, if_neg (show ¬ nI 200 ≤ nI (rows D none).length by rw [pF_le (by omega) (by omega)]; exact fun h => h)]
            simp only [hat, bnd, hjn, bi_T]
            simp (disch := omega) only [l0, l1, l2, l3, l4, l5, l6, l7, l8, l9, l10, l11, l12, l16, l18, l19, l20, l21, l24, l96, l128, l100, l144, l200, l256, l288, l1536, l1728, l1800, bnd, nI_add, pk_mul, pI_sub, pI_m1, pT_le, pF_le, pT_lt, pF_lt, pT_eq, pF_eq, pF_m1, mF_eq, mT_eq, mT_lt, mF_le, lm1, rd_nI, wr_nI, cl_nI, pk_us, un_ne, pk_uLs, uL_ne, zI_uI, zI_uJ, zI_uA, zI_uB, zI_uR, zI_uN, zJ_uI, zJ_uJ, zJ_uA, zJ_uB, zJ_uR, zJ_uN, zA_uI, zA_uJ, zA_uA, zA_uB, zA_uR, zA_uN, zB_uI, zB_uJ, zB_uA, zB_uB, zB_uR, zB_uN, zR_uI, zR_uJ, zR_uA, zR_uB, zR_uR, zR_uN, zN_uI, zN_uJ, zN_uA, zN_uB, zN_uR, zN_uN, zI_ne, zJ_ne, zA_ne, zB_ne, zR_ne, zN_ne, bi_T, bi_F, nz16, ↓reduceIte, not_true_eq_false, not_false_eq_true, Bool.false_eq_true, reduceCtorEq, hmj, l257L, l32, if_neg h32']
            exact nx
      | false =>
        have hj0 : ¬ Jh c = true := by rw [hj]; decide
        rw [hj] at hjn
        by_cases h32 : c = 32
        · have e2 : tkF Jh 4 gh bs = rows D pend ++ (tk Jh 4 gh (bs.drop (p + 1)) (p + 1) 0 none ++ [(256, bs.length)]) := by
            rw [hT]
            cases pend with
            | none => rw [tk_cN, if_neg hj0, if_pos h32]; rfl
            | some q => rw [tk_cS, if_neg hj0, if_pos h32]; show D ++ (([(1000 + q.1, q.2)] ++ _) ++ _) = (D ++ [_]) ++ _; rw [List.append_assoc, List.append_assoc]
          have nx := hkb (τ, 0, rows D pend, none) hpl ⟨hF, hR, by show (rows D pend).length ≤ p + 1; omega, e2, (fun q hq => by cases hq), fun _ => .inl rfl, Nat.zero_le _⟩
          unfold fX5_cutUp_h_J93
          have h32' : nI c = nI 32 := by rw [h32]
          simp only [hsz, bnd]
          rw [if_neg (show ¬ nI bs.length ≤ nI p by rw [pF_le (by omega) (by omega)]; exact fun h => h), l200, if_neg (show ¬ nI 200 ≤ nI (rows D pend).length by rw [pF_le (by omega) (by omega)]; exact fun h => h)]
          simp only [hat, bnd, hjn, bi_F]
          simp (disch := omega) only [l0, l1, l2, l3, l4, l5, l6, l7, l8, l9, l10, l11, l12, l16, l18, l19, l20, l21, l24, l96, l128, l100, l144, l200, l256, l288, l1536, l1728, l1800, bnd, nI_add, pk_mul, pI_sub, pI_m1, pT_le, pF_le, pT_lt, pF_lt, pT_eq, pF_eq, pF_m1, mF_eq, mT_eq, mT_lt, mF_le, lm1, rd_nI, wr_nI, cl_nI, pk_us, un_ne, pk_uLs, uL_ne, zI_uI, zI_uJ, zI_uA, zI_uB, zI_uR, zI_uN, zJ_uI, zJ_uJ, zJ_uA, zJ_uB, zJ_uR, zJ_uN, zA_uI, zA_uJ, zA_uA, zA_uB, zA_uR, zA_uN, zB_uI, zB_uJ, zB_uA, zB_uB, zB_uR, zB_uN, zR_uI, zR_uJ, zR_uA, zR_uB, zR_uR, zR_uN, zN_uI, zN_uJ, zN_uA, zN_uB, zN_uR, zN_uN, zI_ne, zJ_ne, zA_ne, zB_ne, zR_ne, zN_ne, bi_T, bi_F, nz16, ↓reduceIte, not_true_eq_false, not_false_eq_true, Bool.false_eq_true, reduceCtorEq, l32, if_pos h32']
          exact nx
        · have e2 : tkF Jh 4 gh bs = (rows D pend ++ [(c, p)]) ++ (tk Jh 4 gh (bs.drop (p + 1)) (p + 1) 0 none ++ [(256, bs.length)]) := by
            rw [hT]
            cases pend with
            | none => rw [tk_cN, if_neg hj0, if_neg h32]; show D ++ (([(c, p)] ++ _) ++ _) = _; rw [List.append_assoc, ← List.append_assoc D]; rfl
            | some q => rw [tk_cS, if_neg hj0, if_neg h32]; show D ++ (([(1000 + q.1, q.2)] ++ ([(c, p)] ++ _)) ++ _) = (D ++ [_]) ++ [_] ++ _; rw [List.append_assoc, List.append_assoc, List.append_assoc, List.append_assoc]
          have nx := more c 0 (rows D pend ++ [(c, p)]) none rfl e2 (fun q hq => by cases hq) (fun _ => .inl rfl) (Nat.zero_le _)
          have h64 := nI64 (n := c) (by omega)
          have h32' : ¬ nI c = nI 32 := fun e => h32 ((nI_eq (by omega) (by omega)).mp e)
          unfold fX5_cutUp_h_J93 fX5_cutUp_h_J114
          simp only [hsz, bnd]
          rw [if_neg (show ¬ nI bs.length ≤ nI p by rw [pF_le (by omega) (by omega)]; exact fun h => h), l200, if_neg (show ¬ nI 200 ≤ nI (rows D pend).length by rw [pF_le (by omega) (by omega)]; exact fun h => h)]
          simp only [hat, bnd, hjn, bi_F]
          simp (disch := omega) only [l0, l1, l2, l3, l4, l5, l6, l7, l8, l9, l10, l11, l12, l16, l18, l19, l20, l21, l24, l96, l128, l100, l144, l200, l256, l288, l1536, l1728, l1800, bnd, nI_add, pk_mul, pI_sub, pI_m1, pT_le, pF_le, pT_lt, pF_lt, pT_eq, pF_eq, pF_m1, mF_eq, mT_eq, mT_lt, mF_le, lm1, rd_nI, wr_nI, cl_nI, pk_us, un_ne, pk_uLs, uL_ne, zI_uI, zI_uJ, zI_uA, zI_uB, zI_uR, zI_uN, zJ_uI, zJ_uJ, zJ_uA, zJ_uB, zJ_uR, zJ_uN, zA_uI, zA_uJ, zA_uA, zA_uB, zA_uR, zA_uN, zB_uI, zB_uJ, zB_uA, zB_uB, zB_uR, zB_uN, zR_uI, zR_uJ, zR_uA, zR_uB, zR_uR, zR_uN, zN_uI, zN_uJ, zN_uA, zN_uB, zN_uR, zN_uN, zI_ne, zJ_ne, zA_ne, zB_ne, zR_ne, zN_ne, bi_T, bi_F, nz16, ↓reduceIte, not_true_eq_false, not_false_eq_true, Bool.false_eq_true, reduceCtorEq, l32, if_neg h32', h64]
          exact nx
def Ch (τ : St) (T R : List Tk) : Prop := zR τ 2 = 21 ∧ zI τ 10 = mI ∧ RW τ 21 22 T ∧ T.length ≤ 201 ∧ ∃ pre, T = pre ++ R ∧ zI τ 9 = nI pre.length
theorem Ch.fr {σ τ : St} {T R : List Tk} {A B K N : List Nat} (h : Ch σ T R) (f : FR A B K N σ τ) (hA : 22 ∉ A) (hB : 21 ∉ B) (hK : ∀ q, q ∈ [9, 10] → q ∉ K) : Ch τ T R := by
  unfold Ch
  rw [f.2.2.2.2, f.2.2.1 10 (hK 10 (by decide)), f.2.2.1 9 (hK 9 (by decide))]
  exact ⟨h.1, h.2.1, h.2.2.1.fr f hA hB, h.2.2.2⟩
theorem Ch.at {τ : St} {T R : List Tk} {t : Tk} (h : Ch τ T (t :: R)) : ∃ k, k < 201 ∧ zI τ 9 = nI k ∧ zB τ 21 k = lN t.1 ∧ zA τ 22 k = nI t.2 ∧ Ch (uI τ 9 (nI (k + 1))) T R := by
  obtain ⟨h1, h2, h3, h4, pre, h5, h6⟩ := h
  have hk : pre.length < T.length := by rw [h5, List.length_append, List.length_cons]; omega
  have hg : T.getD pre.length (0, 0) = t := by
    rw [h5, List.getD_eq_getElem?_getD, List.getElem?_append_right (Nat.le_refl _), Nat.sub_self]
    rfl
  have h7 := h3 pre.length hk
  rw [hg] at h7
  refine ⟨pre.length, by omega, h6, h7.1, h7.2, h1, ?_, ?_, h4, pre ++ [t], ?_, ?_⟩
  · rw [zI_ne (by decide)]
    exact h2
  · exact h3
  · rw [h5, List.append_assoc]
    rfl
  · rw [zI_uI, List.length_append, List.length_singleton]
theorem lenh {τ : St} (h : zR τ 2 = 21) : lenB τ (zR τ 2) = 201 := by
  rw [h]
  rfl
theorem c_sign_h {τ : St} {T R : List Tk} {t : Tk} (h : Ch τ T (t :: R)) (ht : t.1 < 4611686018427387904) : fX5_sign_h τ = some (nI (if t.1 < 1000 then t.1 else 1000)) := by
  obtain ⟨k, hk, h1, h2, h3, h4⟩ := h.at
  have h5 := lenh h.1
  unfold fX5_sign_h
  rw [h5, h.1]
  unfold isl
  rw [if_neg (show ¬ 201 = 0 by decide)]
  by_cases hc : t.1 < 1000
  · rw [if_pos hc]
    have hlt : lg_cmp (lN t.1) (lN 1000) < nI 0 := (lg_cmp_lt _ _).mpr (by
      apply Int64.lt_iff_toInt_lt.mpr
      have e1 : (lN t.1).toInt = (t.1 : Nat) := Int64.toInt_ofNat_of_lt (by omega)
      have e2 : (lN 1000).toInt = 1000 := rfl
      omega)
    have h32 := to32 (n := t.1) (by omega)
    simp (disch := omega) only [l0, l1, l2, l3, l4, l5, l6, l7, l8, l9, l10, l11, l12, l16, l18, l19, l20, l21, l24, l96, l128, l100, l144, l200, l256, l288, l1536, l1728, l1800, bnd, nI_add, pk_mul, pI_sub, pI_m1, pT_le, pF_le, pT_lt, pF_lt, pT_eq, pF_eq, pF_m1, mF_eq, mT_eq, mT_lt, mF_le, lm1, rd_nI, wr_nI, cl_nI, pk_us, un_ne, pk_uLs, uL_ne, zI_uI, zI_uJ, zI_uA, zI_uB, zI_uR, zI_uN, zJ_uI, zJ_uJ, zJ_uA, zJ_uB, zJ_uR, zJ_uN, zA_uI, zA_uJ, zA_uA, zA_uB, zA_uR, zA_uN, zB_uI, zB_uJ, zB_uA, zB_uB, zB_uR, zB_uN, zR_uI, zR_uJ, zR_uA, zR_uB, zR_uR, zR_uN, zN_uI, zN_uJ, zN_uA, zN_uB, zN_uR, zN_uN, zI_ne, zJ_ne, zA_ne, zB_ne, zR_ne, zN_ne, bi_T, bi_F, nz16, ↓reduceIte, not_true_eq_false, not_false_eq_true, Bool.false_eq_true, reduceCtorEq, h.2.1, mI_eq, h1, oNI, h2, l1000L, if_pos hlt, h32]
  · rw [if_neg hc]
    have hlt : ¬ lg_cmp (lN t.1) (lN 1000) < nI 0 := by
      intro h
      have h := Int64.lt_iff_toInt_lt.mp ((lg_cmp_lt _ _).mp h)
      have e1 : (lN t.1).toInt = (t.1 : Nat) := Int64.toInt_ofNat_of_lt (by omega)
      have e2 : (lN 1000).toInt = 1000 := rfl
      omega
    simp (disch := omega) only [l0, l1, l2, l3, l4, l5, l6, l7, l8, l9, l10, l11, l12, l16, l18, l19, l20, l21, l24, l96, l128, l100, l144, l200, l256, l288, l1536, l1728, l1800, bnd, nI_add, pk_mul, pI_sub, pI_m1, pT_le, pF_le, pT_lt, pF_lt, pT_eq, pF_eq, pF_m1, mF_eq, mT_eq, mT_lt, mF_le, lm1, rd_nI, wr_nI, cl_nI, pk_us, un_ne, pk_uLs, uL_ne, zI_uI, zI_uJ, zI_uA, zI_uB, zI_uR, zI_uN, zJ_uI, zJ_uJ, zJ_uA, zJ_uB, zJ_uR, zJ_uN, zA_uI, zA_uJ, zA_uA, zA_uB, zA_uR, zA_uN, zB_uI, zB_uJ, zB_uA, zB_uB, zB_uR, zB_uN, zR_uI, zR_uJ, zR_uA, zR_uB, zR_uR, zR_uN, zN_uI, zN_uJ, zN_uA, zN_uB, zN_uR, zN_uN, zI_ne, zJ_ne, zA_ne, zB_ne, zR_ne, zN_ne, bi_T, bi_F, nz16, ↓reduceIte, not_true_eq_false, not_false_eq_true, Bool.false_eq_true, reduceCtorEq, h.2.1, mI_eq, h1, oNI, h2, l1000L, if_neg hlt, l1000]
theorem c_value_h {τ : St} {T R : List Tk} {v s : Nat} (h : Ch τ T ((1000 + v, s) :: R)) : fX5_value_h τ = some (lN v) := by
  obtain ⟨k, hk, h1, h2, h3, h4⟩ := h.at
  have h5 := lenh h.1
  have h2 : zB τ 21 k = lN (1000 + v) := h2
  unfold fX5_value_h
  rw [h5, h.1]
  unfold isl
  rw [if_neg (show ¬ 201 = 0 by decide)]
  simp (disch := omega) only [l0, l1, l2, l3, l4, l5, l6, l7, l8, l9, l10, l11, l12, l16, l18, l19, l20, l21, l24, l96, l128, l100, l144, l200, l256, l288, l1536, l1728, l1800, bnd, nI_add, pk_mul, pI_sub, pI_m1, pT_le, pF_le, pT_lt, pF_lt, pT_eq, pF_eq, pF_m1, mF_eq, mT_eq, mT_lt, mF_le, lm1, rd_nI, wr_nI, cl_nI, pk_us, un_ne, pk_uLs, uL_ne, zI_uI, zI_uJ, zI_uA, zI_uB, zI_uR, zI_uN, zJ_uI, zJ_uJ, zJ_uA, zJ_uB, zJ_uR, zJ_uN, zA_uI, zA_uJ, zA_uA, zA_uB, zA_uR, zA_uN, zB_uI, zB_uJ, zB_uA, zB_uB, zB_uR, zB_uN, zR_uI, zR_uJ, zR_uA, zR_uB, zR_uR, zR_uN, zN_uI, zN_uJ, zN_uA, zN_uB, zN_uR, zN_uN, zI_ne, zJ_ne, zA_ne, zB_ne, zR_ne, zN_ne, bi_T, bi_F, nz16, ↓reduceIte, not_true_eq_false, not_false_eq_true, Bool.false_eq_true, reduceCtorEq, h1, oNI, h2, l1000L, lN_subl]
theorem c_step_h {τ : St} {T R : List Tk} {t : Tk} (h : Ch τ T (t :: R)) : ∃ k, fX5_step_h τ = some (uI τ 9 (nI k)) ∧ Ch (uI τ 9 (nI k)) T R := by
  obtain ⟨k, hk, h1, h2, h3, h4⟩ := h.at
  refine ⟨k + 1, ?_, h4⟩
  unfold fX5_step_h
  simp (disch := omega) only [l0, l1, l2, l3, l4, l5, l6, l7, l8, l9, l10, l11, l12, l16, l18, l19, l20, l21, l24, l96, l128, l100, l144, l200, l256, l288, l1536, l1728, l1800, bnd, nI_add, pk_mul, pI_sub, pI_m1, pT_le, pF_le, pT_lt, pF_lt, pT_eq, pF_eq, pF_m1, mF_eq, mT_eq, mT_lt, mF_le, lm1, rd_nI, wr_nI, cl_nI, pk_us, un_ne, pk_uLs, uL_ne, zI_uI, zI_uJ, zI_uA, zI_uB, zI_uR, zI_uN, zJ_uI, zJ_uJ, zJ_uA, zJ_uB, zJ_uR, zJ_uN, zA_uI, zA_uJ, zA_uA, zA_uB, zA_uR, zA_uN, zB_uI, zB_uJ, zB_uA, zB_uB, zB_uR, zB_uN, zR_uI, zR_uJ, zR_uA, zR_uB, zR_uR, zR_uN, zN_uI, zN_uJ, zN_uA, zN_uB, zN_uR, zN_uN, zI_ne, zJ_ne, zA_ne, zB_ne, zR_ne, zN_ne, bi_T, bi_F, nz16, ↓reduceIte, not_true_eq_false, not_false_eq_true, Bool.false_eq_true, reduceCtorEq, h1]
/-- a fault was found: the reader stands still *-/
def Fh (τ : St) (p : Nat) : Prop := zI τ 10 = nI p ∧ p < 1000
theorem c_signF_h {τ : St} {p : Nat} (h : Fh τ p) : fX5_sign_h τ = some (nI 257) := by
  obtain ⟨h, hp⟩ := h
  unfold fX5_sign_h
  simp (disch := omega) only [l0, l1, l2, l3, l4, l5, l6, l7, l8, l9, l10, l11, l12, l16, l18, l19, l20, l21, l24, l96, l128, l100, l144, l200, l256, l288, l1536, l1728, l1800, bnd, nI_add, pk_mul, pI_sub, pI_m1, pT_le, pF_le, pT_lt, pF_lt, pT_eq, pF_eq, pF_m1, mF_eq, mT_eq, mT_lt, mF_le, lm1, rd_nI, wr_nI, cl_nI, pk_us, un_ne, pk_uLs, uL_ne, zI_uI, zI_uJ, zI_uA, zI_uB, zI_uR, zI_uN, zJ_uI, zJ_uJ, zJ_uA, zJ_uB, zJ_uR, zJ_uN, zA_uI, zA_uJ, zA_uA, zA_uB, zA_uR, zA_uN, zB_uI, zB_uJ, zB_uA, zB_uB, zB_uR, zB_uN, zR_uI, zR_uJ, zR_uA, zR_uB, zR_uR, zR_uN, zN_uI, zN_uJ, zN_uA, zN_uB, zN_uR, zN_uN, zI_ne, zJ_ne, zA_ne, zB_ne, zR_ne, zN_ne, bi_T, bi_F, nz16, ↓reduceIte, not_true_eq_false, not_false_eq_true, Bool.false_eq_true, reduceCtorEq, h, mI_eq]
  rfl
theorem c_spoil_h {τ : St} {T R : List Tk} {t : Tk} (h : Ch τ T (t :: R)) (ht : t.2 < 1000) : fX5_spoil_h τ = some (uI τ 10 (nI t.2)) ∧ Fh (uI τ 10 (nI t.2)) t.2 := by
  obtain ⟨k, hk, h1, h2, h3, h4⟩ := h.at
  refine ⟨?_, ?_, ht⟩
  · unfold fX5_spoil_h
    simp (disch := omega) only [l0, l1, l2, l3, l4, l5, l6, l7, l8, l9, l10, l11, l12, l16, l18, l19, l20, l21, l24, l96, l128, l100, l144, l200, l256, l288, l1536, l1728, l1800, bnd, nI_add, pk_mul, pI_sub, pI_m1, pT_le, pF_le, pT_lt, pF_lt, pT_eq, pF_eq, pF_m1, mF_eq, mT_eq, mT_lt, mF_le, lm1, rd_nI, wr_nI, cl_nI, pk_us, un_ne, pk_uLs, uL_ne, zI_uI, zI_uJ, zI_uA, zI_uB, zI_uR, zI_uN, zJ_uI, zJ_uJ, zJ_uA, zJ_uB, zJ_uR, zJ_uN, zA_uI, zA_uJ, zA_uA, zA_uB, zA_uR, zA_uN, zB_uI, zB_uJ, zB_uA, zB_uB, zB_uR, zB_uN, zR_uI, zR_uJ, zR_uA, zR_uB, zR_uR, zR_uN, zN_uI, zN_uJ, zN_uA, zN_uB, zN_uR, zN_uN, zI_ne, zJ_ne, zA_ne, zB_ne, zR_ne, zN_ne, bi_T, bi_F, nz16, ↓reduceIte, not_true_eq_false, not_false_eq_true, Bool.false_eq_true, reduceCtorEq, h.2.1, mI_eq, h1, l201, h3]
  · rw [zI_uI]
theorem c_spoilF_h {τ : St} {p : Nat} (h : Fh τ p) : fX5_spoil_h τ = some τ := by
  obtain ⟨h, hp⟩ := h
  unfold fX5_spoil_h
  simp (disch := omega) only [l0, l1, l2, l3, l4, l5, l6, l7, l8, l9, l10, l11, l12, l16, l18, l19, l20, l21, l24, l96, l128, l100, l144, l200, l256, l288, l1536, l1728, l1800, bnd, nI_add, pk_mul, pI_sub, pI_m1, pT_le, pF_le, pT_lt, pF_lt, pT_eq, pF_eq, pF_m1, mF_eq, mT_eq, mT_lt, mF_le, lm1, rd_nI, wr_nI, cl_nI, pk_us, un_ne, pk_uLs, uL_ne, zI_uI, zI_uJ, zI_uA, zI_uB, zI_uR, zI_uN, zJ_uI, zJ_uJ, zJ_uA, zJ_uB, zJ_uR, zJ_uN, zA_uI, zA_uJ, zA_uA, zA_uB, zA_uR, zA_uN, zB_uI, zB_uJ, zB_uA, zB_uB, zB_uR, zB_uN, zR_uI, zR_uJ, zR_uA, zR_uB, zR_uR, zR_uN, zN_uI, zN_uJ, zN_uA, zN_uB, zN_uR, zN_uN, zI_ne, zJ_ne, zA_ne, zB_ne, zR_ne, zN_ne, bi_T, bi_F, nz16, ↓reduceIte, not_true_eq_false, not_false_eq_true, Bool.false_eq_true, reduceCtorEq, h, mI_eq]
theorem c_takes_h {τ : St} {T R : List Tk} {t : Tk} {x : Nat} (h : Ch τ T (t :: R)) (ht : t.1 < 4611686018427387904) (hx : x < 1000) : (t.1 = x ∧ ∃ k, fX5_takes_h τ (nI x) = some (true, uI τ 9 (nI k)) ∧ Ch (uI τ 9 (nI k)) T R) ∨ (t.1 ≠ x ∧ fX5_takes_h τ (nI x) = some (false, τ)) := by
  have hs := c_sign_h h ht
  by_cases e : t.1 = x
  · left
    obtain ⟨k, hk, h1, h2, h3, h4⟩ := h.at
    rw [if_pos (by omega)] at hs
    refine ⟨e, k + 1, ?_, h4⟩
    unfold fX5_takes_h
    simp (disch := omega) only [l0, l1, l2, l3, l4, l5, l6, l7, l8, l9, l10, l11, l12, l16, l18, l19, l20, l21, l24, l96, l128, l100, l144, l200, l256, l288, l1536, l1728, l1800, bnd, nI_add, pk_mul, pI_sub, pI_m1, pT_le, pF_le, pT_lt, pF_lt, pT_eq, pF_eq, pF_m1, mF_eq, mT_eq, mT_lt, mF_le, lm1, rd_nI, wr_nI, cl_nI, pk_us, un_ne, pk_uLs, uL_ne, zI_uI, zI_uJ, zI_uA, zI_uB, zI_uR, zI_uN, zJ_uI, zJ_uJ, zJ_uA, zJ_uB, zJ_uR, zJ_uN, zA_uI, zA_uJ, zA_uA, zA_uB, zA_uR, zA_uN, zB_uI, zB_uJ, zB_uA, zB_uB, zB_uR, zB_uN, zR_uI, zR_uJ, zR_uA, zR_uB, zR_uR, zR_uN, zN_uI, zN_uJ, zN_uA, zN_uB, zN_uR, zN_uN, zI_ne, zJ_ne, zA_ne, zB_ne, zR_ne, zN_ne, bi_T, bi_F, nz16, ↓reduceIte, not_true_eq_false, not_false_eq_true, Bool.false_eq_true, reduceCtorEq, hs, h1, e]
  · right
    refine ⟨e, ?_⟩
    have hne : (if t.1 < 1000 then t.1 else 1000) ≠ x := by split <;> omega
    have hlt : (if t.1 < 1000 then t.1 else 1000) < 2147483648 := by split <;> omega
    generalize (if t.1 < 1000 then t.1 else 1000) = y at *
    unfold fX5_takes_h
    simp (disch := omega) only [l0, l1, l2, l3, l4, l5, l6, l7, l8, l9, l10, l11, l12, l16, l18, l19, l20, l21, l24, l96, l128, l100, l144, l200, l256, l288, l1536, l1728, l1800, bnd, nI_add, pk_mul, pI_sub, pI_m1, pT_le, pF_le, pT_lt, pF_lt, pT_eq, pF_eq, pF_m1, mF_eq, mT_eq, mT_lt, mF_le, lm1, rd_nI, wr_nI, cl_nI, pk_us, un_ne, pk_uLs, uL_ne, zI_uI, zI_uJ, zI_uA, zI_uB, zI_uR, zI_uN, zJ_uI, zJ_uJ, zJ_uA, zJ_uB, zJ_uR, zJ_uN, zA_uI, zA_uJ, zA_uA, zA_uB, zA_uR, zA_uN, zB_uI, zB_uJ, zB_uA, zB_uB, zB_uR, zB_uN, zR_uI, zR_uJ, zR_uA, zR_uB, zR_uR, zR_uN, zN_uI, zN_uJ, zN_uA, zN_uB, zN_uR, zN_uN, zI_ne, zJ_ne, zA_ne, zB_ne, zR_ne, zN_ne, bi_T, bi_F, nz16, ↓reduceIte, not_true_eq_false, not_false_eq_true, Bool.false_eq_true, reduceCtorEq, hs]
theorem c_takesF_h {τ : St} {p x : Nat} (h : Fh τ p) (hx : x < 257) : fX5_takes_h τ (nI x) = some (false, τ) := by
  have hs := c_signF_h h
  unfold fX5_takes_h
  simp (disch := omega) only [l0, l1, l2, l3, l4, l5, l6, l7, l8, l9, l10, l11, l12, l16, l18, l19, l20, l21, l24, l96, l128, l100, l144, l200, l256, l288, l1536, l1728, l1800, bnd, nI_add, pk_mul, pI_sub, pI_m1, pT_le, pF_le, pT_lt, pF_lt, pT_eq, pF_eq, pF_m1, mF_eq, mT_eq, mT_lt, mF_le, lm1, rd_nI, wr_nI, cl_nI, pk_us, un_ne, pk_uLs, uL_ne, zI_uI, zI_uJ, zI_uA, zI_uB, zI_uR, zI_uN, zJ_uI, zJ_uJ, zJ_uA, zJ_uB, zJ_uR, zJ_uN, zA_uI, zA_uJ, zA_uA, zA_uB, zA_uR, zA_uN, zB_uI, zB_uJ, zB_uA, zB_uB, zB_uR, zB_uN, zR_uI, zR_uJ, zR_uA, zR_uB, zR_uR, zR_uN, zN_uI, zN_uJ, zN_uA, zN_uB, zN_uR, zN_uN, zI_ne, zJ_ne, zA_ne, zB_ne, zR_ne, zN_ne, bi_T, bi_F, nz16, ↓reduceIte, not_true_eq_false, not_false_eq_true, Bool.false_eq_true, reduceCtorEq, hs]
theorem c_needs_h {τ : St} {T R : List Tk} {t : Tk} {x : Nat} (h : Ch τ T (t :: R)) (ht : t.1 < 4611686018427387904) (ht2 : t.2 < 1000) (hx : x < 1000) : (t.1 = x ∧ ∃ k, fX5_needs_h τ (nI x) = some (uI τ 9 (nI k)) ∧ Ch (uI τ 9 (nI k)) T R) ∨ (t.1 ≠ x ∧ fX5_needs_h τ (nI x) = some (uI τ 10 (nI t.2)) ∧ Fh (uI τ 10 (nI t.2)) t.2) := by
  have hs := c_sign_h h ht
  by_cases e : t.1 = x
  · left
    obtain ⟨k, hk, h1, h2, h3, h4⟩ := h.at
    rw [if_pos (by omega)] at hs
    refine ⟨e, k + 1, ?_, h4⟩
    unfold fX5_needs_h
    simp (disch := omega) only [l0, l1, l2, l3, l4, l5, l6, l7, l8, l9, l10, l11, l12, l16, l18, l19, l20, l21, l24, l96, l128, l100, l144, l200, l256, l288, l1536, l1728, l1800, bnd, nI_add, pk_mul, pI_sub, pI_m1, pT_le, pF_le, pT_lt, pF_lt, pT_eq, pF_eq, pF_m1, mF_eq, mT_eq, mT_lt, mF_le, lm1, rd_nI, wr_nI, cl_nI, pk_us, un_ne, pk_uLs, uL_ne, zI_uI, zI_uJ, zI_uA, zI_uB, zI_uR, zI_uN, zJ_uI, zJ_uJ, zJ_uA, zJ_uB, zJ_uR, zJ_uN, zA_uI, zA_uJ, zA_uA, zA_uB, zA_uR, zA_uN, zB_uI, zB_uJ, zB_uA, zB_uB, zB_uR, zB_uN, zR_uI, zR_uJ, zR_uA, zR_uB, zR_uR, zR_uN, zN_uI, zN_uJ, zN_uA, zN_uB, zN_uR, zN_uN, zI_ne, zJ_ne, zA_ne, zB_ne, zR_ne, zN_ne, bi_T, bi_F, nz16, ↓reduceIte, not_true_eq_false, not_false_eq_true, Bool.false_eq_true, reduceCtorEq, hs, h1, e]
  · right
    obtain ⟨h5, h6⟩ := c_spoil_h h ht2
    refine ⟨e, ?_, h6⟩
    have hne : (if t.1 < 1000 then t.1 else 1000) ≠ x := by split <;> omega
    have hlt : (if t.1 < 1000 then t.1 else 1000) < 2147483648 := by split <;> omega
    generalize (if t.1 < 1000 then t.1 else 1000) = y at *
    unfold fX5_needs_h
    simp (disch := omega) only [l0, l1, l2, l3, l4, l5, l6, l7, l8, l9, l10, l11, l12, l16, l18, l19, l20, l21, l24, l96, l128, l100, l144, l200, l256, l288, l1536, l1728, l1800, bnd, nI_add, pk_mul, pI_sub, pI_m1, pT_le, pF_le, pT_lt, pF_lt, pT_eq, pF_eq, pF_m1, mF_eq, mT_eq, mT_lt, mF_le, lm1, rd_nI, wr_nI, cl_nI, pk_us, un_ne, pk_uLs, uL_ne, zI_uI, zI_uJ, zI_uA, zI_uB, zI_uR, zI_uN, zJ_uI, zJ_uJ, zJ_uA, zJ_uB, zJ_uR, zJ_uN, zA_uI, zA_uJ, zA_uA, zA_uB, zA_uR, zA_uN, zB_uI, zB_uJ, zB_uA, zB_uB, zB_uR, zB_uN, zR_uI, zR_uJ, zR_uA, zR_uB, zR_uR, zR_uN, zN_uI, zN_uJ, zN_uA, zN_uB, zN_uR, zN_uN, zI_ne, zJ_ne, zA_ne, zB_ne, zR_ne, zN_ne, bi_T, bi_F, nz16, ↓reduceIte, not_true_eq_false, not_false_eq_true, Bool.false_eq_true, reduceCtorEq, hs, h5]
theorem c_needsF_h {τ : St} {p x : Nat} (h : Fh τ p) (hx : x < 257) : fX5_needs_h τ (nI x) = some τ := by
  have hs := c_signF_h h
  have h5 := c_spoilF_h h
  unfold fX5_needs_h
  simp (disch := omega) only [l0, l1, l2, l3, l4, l5, l6, l7, l8, l9, l10, l11, l12, l16, l18, l19, l20, l21, l24, l96, l128, l100, l144, l200, l256, l288, l1536, l1728, l1800, bnd, nI_add, pk_mul, pI_sub, pI_m1, pT_le, pF_le, pT_lt, pF_lt, pT_eq, pF_eq, pF_m1, mF_eq, mT_eq, mT_lt, mF_le, lm1, rd_nI, wr_nI, cl_nI, pk_us, un_ne, pk_uLs, uL_ne, zI_uI, zI_uJ, zI_uA, zI_uB, zI_uR, zI_uN, zJ_uI, zJ_uJ, zJ_uA, zJ_uB, zJ_uR, zJ_uN, zA_uI, zA_uJ, zA_uA, zA_uB, zA_uR, zA_uN, zB_uI, zB_uJ, zB_uA, zB_uB, zB_uR, zB_uN, zR_uI, zR_uJ, zR_uA, zR_uB, zR_uR, zR_uN, zN_uI, zN_uJ, zN_uA, zN_uB, zN_uR, zN_uN, zI_ne, zJ_ne, zA_ne, zB_ne, zR_ne, zN_ne, bi_T, bi_F, nz16, ↓reduceIte, not_true_eq_false, not_false_eq_true, Bool.false_eq_true, reduceCtorEq, hs, h5]
