/-! a habit's fault *-/
def FH (σ τ : St) : Prop := FR [22] [21] [] [] σ τ ∧ zJ τ = zJ σ ∧ (P22 σ → P22 τ)
theorem FH.rf (σ : St) : FH σ σ := ⟨FR.rf _ _ _ _ _, rfl, fun h => h⟩
theorem FH.bb {σ τ : St} {f : Nat → Int64} (h : FH σ τ) : FH σ (uB τ 21 f) := ⟨FR.uB h.1 (by decide), h.2.1, fun k => h.2.2 k⟩
theorem FH.up {σ τ : St} {f : Nat → Int64} {j s : Nat} (h : FH σ τ) (hs : s < 1000) : FH σ (uA (uB τ 21 f) 22 (upd (zA τ 22) j (nI s))) := by
  refine ⟨FR.uA (FR.uB h.1 (by decide)) (by decide), h.2.1, fun k i hi => ?_⟩
  rw [zA_uA]
  by_cases e : i = j
  · unfold upd
    rw [if_pos e]
    intro hm
    rw [pF_m1 (by omega)] at hm
    exact hm
  · rw [un_ne e]
    exact h.2.2 k i hi
theorem c_cutUp_h2 {σ : St} {bs : List Nat} (h2 : zI σ 2 = nI bs.length) (h11 : hB (zA σ 11) bs) (hl : bs.length ≤ 200) (hb : ∀ b, b ∈ bs → 1 ≤ b ∧ b < 256) : ∃ υ, FH σ υ ∧ RW υ 21 22 (tkF Jh 4 gh bs) ∧ (tkF Jh 4 gh bs).length ≤ 201 ∧ fX5_cutUp_h σ = some υ := by
  have key := it_for (β := St × Nat × List Tk × Option Tk) (body := fun (kb : (St × Int32 × Int32 × Int32) → Option St) (t : St × Int32 × Int32 × Int32) => fX5_cutUp_h_L7 (fun s20 x21 => wr 201 x21 ((some (uB s20 21 (vp_updL (zB s20 21) (Int32.toNatClampNeg x21) (256 : Int64)))).bind fun s22 => (fX9_size s22).bind fun x23 => wr 201 x21 ((some (uA s22 22 (upd (zA s22 22) (Int32.toNatClampNeg x21) x23))).bind fun s24 => some s24))) (fun σ v2 v3 v4 => kb (σ, v2, v3, v4)) t.1 t.2.1 t.2.2.1 t.2.2.2) bs.length (by omega) (fun p b => (b.1, nI (rows b.2.2.1 b.2.2.2).length, nI b.2.1, nI p)) (fun p b => FH σ b.1 ∧ RW b.1 21 22 (rows b.2.2.1 b.2.2.2) ∧ (rows b.2.2.1 b.2.2.2).length ≤ p ∧ tkF Jh 4 gh bs = b.2.2.1 ++ (tk Jh 4 gh (bs.drop p) p b.2.1 b.2.2.2 ++ [(256, bs.length)]) ∧ (∀ q, b.2.2.2 = some q → 1 ≤ b.2.1 ∧ b.2.1 ≤ 4 ∧ q.1 < 10 ^ b.2.1) ∧ (b.2.2.2 = none → b.2.1 = 0 ∨ 4 < b.2.1) ∧ b.2.1 ≤ p) (fun p b z => ∃ υ, FH σ υ ∧ RW υ 21 22 (tkF Jh 4 gh bs) ∧ (tkF Jh 4 gh bs).length ≤ 201 ∧ z = some υ) ?_ 0 (σ, 0, [], none) (Nat.zero_le _) ⟨FH.rf σ, fun k hk => absurd hk (Nat.not_lt_zero _), Nat.le_refl _, rfl, (fun q hq => by cases hq), fun _ => .inl rfl, Nat.le_refl _⟩
  · exact key
  · rintro p ⟨τ, run, D, pend⟩ hp ⟨hF, hR, hlen, hT, hS, hN, hrp⟩ kb hkb
    have hF : FH σ τ := hF
    have hR : RW τ 21 22 (rows D pend) := hR
    have hlen : (rows D pend).length ≤ p := hlen
    have hT : tkF Jh 4 gh bs = D ++ (tk Jh 4 gh (bs.drop p) p run pend ++ [(256, bs.length)]) := hT
    have hS : ∀ q, pend = some q → 1 ≤ run ∧ run ≤ 4 ∧ q.1 < 10 ^ run := hS
    have hN : pend = none → run = 0 ∨ 4 < run := hN
    have hrp : run ≤ p := hrp
    have h2t : zI τ 2 = nI bs.length := (hF.1.2.2.1 2 (by decide)).trans h2
    have h11t : hB (zA τ 11) bs := by rw [hF.1.1 11 (by decide)]; exact h11
    show ∃ υ, _ ∧ _ ∧ _ ∧ fX5_cutUp_h_L7 _ (fun σ v2 v3 v4 => kb (σ, v2, v3, v4)) τ (nI (rows D pend).length) (nI run) (nI p) = some υ
    have hsz : fX9_size τ = some (nI bs.length) := by unfold fX9_size; rw [h2t]
    unfold fX5_cutUp_h_L7
    by_cases hpe : p = bs.length
    · have hT2 : tkF Jh 4 gh bs = rows D pend ++ [(256, bs.length)] := by
        rw [hT, hpe, drop_end (Nat.le_refl _)]
        cases pend with
        | none => rfl
        | some q => show D ++ ([(1000 + q.1, q.2)] ++ _) = _; rw [← List.append_assoc]; rfl
      have hadd := RW_add (v := 256) (s := bs.length) hR
      have hF2 : FH σ (uA (uB τ 21 (vp_updL (zB τ 21) (rows D pend).length (lN 256))) 22 (upd (zA τ 22) (rows D pend).length (nI bs.length))) := FH.up (s := bs.length) hF (by omega)
      refine ⟨uA (uB τ 21 (vp_updL (zB τ 21) (rows D pend).length (lN 256))) 22 (upd (zA τ 22) (rows D pend).length (nI bs.length)), hF2, ?_, ?_, ?_⟩
      · rw [hT2]
        exact hadd
      · rw [hT2, List.length_append, List.length_singleton]
        omega
      · have hsz2 : ∀ f, fX9_size (uB τ 21 f) = some (nI bs.length) := fun f => by unfold fX9_size; rw [zI_uB, h2t]
        simp (disch := omega) only [l0, l1, l2, l3, l4, l5, l6, l7, l8, l9, l10, l11, l12, l16, l18, l19, l20, l21, l24, l96, l128, l100, l144, l200, l256, l288, l1536, l1728, l1800, bnd, nI_add, pk_mul, pI_sub, pI_m1, pT_le, pF_le, pT_lt, pF_lt, pT_eq, pF_eq, pF_m1, mF_eq, mT_eq, mT_lt, mF_le, lm1, rd_nI, wr_nI, cl_nI, pk_us, un_ne, pk_uLs, uL_ne, zI_uI, zI_uJ, zI_uA, zI_uB, zI_uR, zI_uN, zJ_uI, zJ_uJ, zJ_uA, zJ_uB, zJ_uR, zJ_uN, zA_uI, zA_uJ, zA_uA, zA_uB, zA_uR, zA_uN, zB_uI, zB_uJ, zB_uA, zB_uB, zB_uR, zB_uN, zR_uI, zR_uJ, zR_uA, zR_uB, zR_uR, zR_uN, zN_uI, zN_uJ, zN_uA, zN_uB, zN_uR, zN_uN, zI_ne, zJ_ne, zA_ne, zB_ne, zR_ne, zN_ne, bi_T, bi_F, nz16, ↓reduceIte, not_true_eq_false, not_false_eq_true, Bool.false_eq_true, reduceCtorEq, hsz, hpe, hsz2, l256L]
    · have hpl : p < bs.length := by omega
      have hat := c_at h2t h11t hl hb hpl
      have hbb := hb _ (getD_mem (d := 0) hpl)
      rw [drop_get' hpl] at hT
      have hjn := jnh (b := bs.getD p 0) hbb.2
      generalize bs.getD p 0 = c at *
      -- a row more
      have more : ∀ (v : Nat) (r2 : Nat) (D2 : List Tk) (pend2 : Option Tk), rows D2 pend2 = rows D pend ++ [(v, p)] → tkF Jh 4 gh bs = D2 ++ (tk Jh 4 gh (bs.drop (p + 1)) (p + 1) r2 pend2 ++ [(256, bs.length)]) → (∀ q, pend2 = some q → 1 ≤ r2 ∧ r2 ≤ 4 ∧ q.1 < 10 ^ r2) → (pend2 = none → r2 = 0 ∨ 4 < r2) → r2 ≤ p + 1 → ∃ υ, FH σ υ ∧ RW υ 21 22 (tkF Jh 4 gh bs) ∧ (tkF Jh 4 gh bs).length ≤ 201 ∧ kb (uA (uB τ 21 (vp_updL (zB τ 21) (rows D pend).length (lN v))) 22 (upd (zA τ 22) (rows D pend).length (nI p)), nI ((rows D pend).length + 1), nI r2, nI (p + 1)) = some υ := by
        intro v r2 D2 pend2 e1 e2 e3 e4 e5
        have nx := hkb (uA (uB τ 21 (vp_updL (zB τ 21) (rows D pend).length (lN v))) 22 (upd (zA τ 22) (rows D pend).length (nI p)), r2, D2, pend2) hpl ⟨FH.up (s := p) hF (by omega), by
          rw [e1]
          exact RW_add hR, by
          rw [e1, List.length_append, List.length_singleton]
          omega, e2, e3, e4, e5⟩
        have nx : ∃ υ, FH σ υ ∧ RW υ 21 22 (tkF Jh 4 gh bs) ∧ (tkF Jh 4 gh bs).length ≤ 201 ∧ kb (uA (uB τ 21 (vp_updL (zB τ 21) (rows D pend).length (lN v))) 22 (upd (zA τ 22) (rows D pend).length (nI p)), nI (rows D2 pend2).length, nI r2, nI (p + 1)) = some υ := nx
        rw [e1, List.length_append, List.length_singleton] at nx
        exact nx
      cases hj : Jh c with
      | true =>
        rw [hj] at hjn
        have hmj := mjh
        have h32 : c ≠ 32 := fun e => by rw [e] at hj; exact absurd hj (by decide)
        have h32' : ¬ nI c = nI 32 := fun e => h32 ((nI_eq (by omega) (by omega)).mp e)
        cases pend with
        | some q =>
          obtain ⟨hS1, hS2, hS3⟩ := hS q rfl
          have hrl : (rows D (some q)).length = D.length + 1 := by show (D ++ [_]).length = _; rw [List.length_append, List.length_singleton]
          by_cases hr : run < 4
          · obtain ⟨hg1, hg2⟩ := gwh hj hbb.2 hS3 hr
            have e2 : tkF Jh 4 gh bs = D ++ (tk Jh 4 gh (bs.drop (p + 1)) (p + 1) (run + 1) (some (gh q.1 c, q.2)) ++ [(256, bs.length)]) := by
              rw [hT, tk_cS, if_pos hj, if_pos hr]
            have nx := hkb (uB τ 21 (vp_updL (zB τ 21) D.length (lN (1000 + gh q.1 c))), run + 1, D, some (gh q.1 c, q.2)) hpl ⟨FH.bb hF, RW_last hR, by
              show (D ++ [_]).length ≤ p + 1
              rw [List.length_append, List.length_singleton]
              omega, e2, (fun q2 hq2 => by cases hq2; exact ⟨by show 1 ≤ run + 1; omega, by show run + 1 ≤ 4; omega, hg2⟩), (fun h => by cases h), by show run + 1 ≤ p + 1; omega⟩
            have nx : ∃ υ, FH σ υ ∧ RW υ 21 22 (tkF Jh 4 gh bs) ∧ (tkF Jh 4 gh bs).length ≤ 201 ∧ kb (uB τ 21 (vp_updL (zB τ 21) D.length (lN (1000 + gh q.1 c))), nI (rows D (some (gh q.1 c, q.2))).length, nI (run + 1), nI (p + 1)) = some υ := nx
            have hrl2 : (rows D (some (gh q.1 c, q.2))).length = D.length + 1 := by show (D ++ [_]).length = _; rw [List.length_append, List.length_singleton]
            rw [hrl2] at nx
            have hold := (hR D.length (by omega)).1
            rw [show rows D (some q) = D ++ [(1000 + q.1, q.2)] from rfl, getD_snoc_eq'] at hold
            have hold : zB τ 21 D.length = lN (1000 + q.1) := hold
            have hsub : nI (D.length + 1) - nI 1 = nI D.length := by rw [pI_sub (by omega), Nat.add_sub_cancel]
            rw [hrl] at hlen ⊢
            simp (disch := omega) only [l0, l1, l2, l3, l4, l5, l6, l7, l8, l9, l10, l11, l12, l16, l18, l19, l20, l21, l24, l96, l128, l100, l144, l200, l256, l288, l1536, l1728, l1800, bnd, nI_add, pk_mul, pI_sub, pI_m1, pT_le, pF_le, pT_lt, pF_lt, pT_eq, pF_eq, pF_m1, mF_eq, mT_eq, mT_lt, mF_le, lm1, rd_nI, wr_nI, cl_nI, pk_us, un_ne, pk_uLs, uL_ne, zI_uI, zI_uJ, zI_uA, zI_uB, zI_uR, zI_uN, zJ_uI, zJ_uJ, zJ_uA, zJ_uB, zJ_uR, zJ_uN, zA_uI, zA_uJ, zA_uA, zA_uB, zA_uR, zA_uN, zB_uI, zB_uJ, zB_uA, zB_uB, zB_uR, zB_uN, zR_uI, zR_uJ, zR_uA, zR_uB, zR_uR, zR_uN, zN_uI, zN_uJ, zN_uA, zN_uB, zN_uR, zN_uN, zI_ne, zJ_ne, zA_ne, zB_ne, zR_ne, zN_ne, bi_T, bi_F, nz16, ↓reduceIte, not_true_eq_false, not_false_eq_true, Bool.false_eq_true, reduceCtorEq, hsz, hat, hjn, hmj, hsub, hold, l1000L, lN_subl, hg1, lN_add]
            exact nx
          · have e2 : tkF Jh 4 gh bs = (rows D (some q) ++ [(257, p)]) ++ (tk Jh 4 gh (bs.drop (p + 1)) (p + 1) (run + 1) none ++ [(256, bs.length)]) := by
              rw [hT, tk_cS, if_pos hj, if_neg hr]
              show D ++ (([(1000 + q.1, q.2)] ++ ([(257, p)] ++ _)) ++ _) = (D ++ [_]) ++ [_] ++ _
              rw [List.append_assoc, List.append_assoc, List.append_assoc, List.append_assoc]
            have nx := more 257 (run + 1) (rows D (some q) ++ [(257, p)]) none rfl e2 (fun q hq => by cases hq) (fun _ => .inr (by omega)) (by omega)
            unfold fX5_cutUp_h_J93 fX5_cutUp_h_J114
            simp (disch := omega) only [l0, l1, l2, l3, l4, l5, l6, l7, l8, l9, l10, l11, l12, l16, l18, l19, l20, l21, l24, l96, l128, l100, l144, l200, l256, l288, l1536, l1728, l1800, bnd, nI_add, pk_mul, pI_sub, pI_m1, pT_le, pF_le, pT_lt, pF_lt, pT_eq, pF_eq, pF_m1, mF_eq, mT_eq, mT_lt, mF_le, lm1, rd_nI, wr_nI, cl_nI, pk_us, un_ne, pk_uLs, uL_ne, zI_uI, zI_uJ, zI_uA, zI_uB, zI_uR, zI_uN, zJ_uI, zJ_uJ, zJ_uA, zJ_uB, zJ_uR, zJ_uN, zA_uI, zA_uJ, zA_uA, zA_uB, zA_uR, zA_uN, zB_uI, zB_uJ, zB_uA, zB_uB, zB_uR, zB_uN, zR_uI, zR_uJ, zR_uA, zR_uB, zR_uR, zR_uN, zN_uI, zN_uJ, zN_uA, zN_uB, zN_uR, zN_uN, zI_ne, zJ_ne, zA_ne, zB_ne, zR_ne, zN_ne, bi_T, bi_F, nz16, ↓reduceIte, not_true_eq_false, not_false_eq_true, Bool.false_eq_true, reduceCtorEq, hsz, hat, hjn, hmj, l257L, l32, if_neg h32']
            exact nx
        | none =>
          rcases hN rfl with hN | hN
          · obtain ⟨hg1, hg2⟩ := gwh (v := 0) (r := 0) hj hbb.2 (by decide) (by decide)
            have e2 : tkF Jh 4 gh bs = D ++ (tk Jh 4 gh (bs.drop (p + 1)) (p + 1) 1 (some (gh 0 c, p)) ++ [(256, bs.length)]) := by
              rw [hT, tk_cN, if_pos hj, if_neg (by omega)]
            have nx := more (1000 + gh 0 c) 1 D (some (gh 0 c, p)) rfl e2 (fun q hq => by cases hq; exact ⟨Nat.le_refl _, by decide, hg2⟩) (fun h => by cases h) (by omega)
            unfold fX5_cutUp_h_J93 fX5_cutUp_h_J114
            simp (disch := omega) only [l0, l1, l2, l3, l4, l5, l6, l7, l8, l9, l10, l11, l12, l16, l18, l19, l20, l21, l24, l96, l128, l100, l144, l200, l256, l288, l1536, l1728, l1800, bnd, nI_add, pk_mul, pI_sub, pI_m1, pT_le, pF_le, pT_lt, pF_lt, pT_eq, pF_eq, pF_m1, mF_eq, mT_eq, mT_lt, mF_le, lm1, rd_nI, wr_nI, cl_nI, pk_us, un_ne, pk_uLs, uL_ne, zI_uI, zI_uJ, zI_uA, zI_uB, zI_uR, zI_uN, zJ_uI, zJ_uJ, zJ_uA, zJ_uB, zJ_uR, zJ_uN, zA_uI, zA_uJ, zA_uA, zA_uB, zA_uR, zA_uN, zB_uI, zB_uJ, zB_uA, zB_uB, zB_uR, zB_uN, zR_uI, zR_uJ, zR_uA, zR_uB, zR_uR, zR_uN, zN_uI, zN_uJ, zN_uA, zN_uB, zN_uR, zN_uN, zI_ne, zJ_ne, zA_ne, zB_ne, zR_ne, zN_ne, bi_T, bi_F, nz16, ↓reduceIte, not_true_eq_false, not_false_eq_true, Bool.false_eq_true, reduceCtorEq, hsz, hat, hjn, hN, L0, hg1, l1000L, lN_add, l32, if_neg h32', Nat.zero_add]
            exact nx
          · have e2 : tkF Jh 4 gh bs = (rows D none ++ [(257, p)]) ++ (tk Jh 4 gh (bs.drop (p + 1)) (p + 1) (run + 1) none ++ [(256, bs.length)]) := by
              rw [hT, tk_cN, if_pos hj, if_pos (by omega)]
              show D ++ (([(257, p)] ++ _) ++ _) = D ++ [_] ++ _
              rw [List.append_assoc, List.append_assoc]
            have nx := more 257 (run + 1) (rows D none ++ [(257, p)]) none rfl e2 (fun q hq => by cases hq) (fun _ => .inr (by omega)) (by omega)
            unfold fX5_cutUp_h_J93 fX5_cutUp_h_J114
            simp only [hsz, bnd]
            rw [if_neg (show ¬ nI bs.length ≤ nI p by rw [pF_le (by omega) (by omega)]; exact fun h => h), l200, if_neg (show ¬ nI 200 ≤ nI (rows D none).length by rw [pF_le (by omega) (by omega)]; exact fun h => h)]
            simp only [hat, bnd, hjn, bi_T]
            simp (disch := omega) only [l0, l1, l2, l3, l4, l5, l6, l7, l8, l9, l10, l11, l12, l16, l18, l19, l20, l21, l24, l96, l128, l100, l144, l200, l256, l288, l1536, l1728, l1800, bnd, nI_add, pk_mul, pI_sub, pI_m1, pT_le, pF_le, pT_lt, pF_lt, pT_eq, pF_eq, pF_m1, mF_eq, mT_eq, mT_lt, mF_le, lm1, rd_nI, wr_nI, cl_nI, pk_us, un_ne, pk_uLs, uL_ne, zI_uI, zI_uJ, zI_uA, zI_uB, zI_uR, zI_uN, zJ_uI, zJ_uJ, zJ_uA, zJ_uB, zJ_uR, zJ_uN, zA_uI, zA_uJ, zA_uA, zA_uB, zA_uR, zA_uN, zB_uI, zB_uJ, zB_uA, zB_uB, zB_uR, zB_uN, zR_uI, zR_uJ, zR_uA, zR_uB, zR_uR, zR_uN, zN_uI, zN_uJ, zN_uA, zN_uB, zN_uR, zN_uN, zI_ne, zJ_ne, zA_ne, zB_ne, zR_ne, zN_ne, bi_T, bi_F, nz16, ↓reduceIte, not_true_eq_false, not_false_eq_true, Bool.false_eq_true, reduceCtorEq, hmj, l257L, l32, if_neg h32']
            exact nx
      | false =>
        have hj0 : ¬ Jh c = true := by rw [hj]; decide
        rw [hj] at hjn
        by_cases h32 : c = 32
        · have e2 : tkF Jh 4 gh bs = rows D pend ++ (tk Jh 4 gh (bs.drop (p + 1)) (p + 1) 0 none ++ [(256, bs.length)]) := by
            rw [hT]
            cases pend with
            | none => rw [tk_cN, if_neg hj0, if_pos h32]; rfl
            | some q => rw [tk_cS, if_neg hj0, if_pos h32]; show D ++ (([(1000 + q.1, q.2)] ++ _) ++ _) = (D ++ [_]) ++ _; rw [List.append_assoc, List.append_assoc]
          have nx := hkb (τ, 0, rows D pend, none) hpl ⟨hF, hR, by show (rows D pend).length ≤ p + 1; omega, e2, (fun q hq => by cases hq), fun _ => .inl rfl, Nat.zero_le _⟩
          unfold fX5_cutUp_h_J93
          have h32' : nI c = nI 32 := by rw [h32]
          simp only [hsz, bnd]
          rw [if_neg (show ¬ nI bs.length ≤ nI p by rw [pF_le (by omega) (by omega)]; exact fun h => h), l200, if_neg (show ¬ nI 200 ≤ nI (rows D pend).length by rw [pF_le (by omega) (by omega)]; exact fun h => h)]
          simp only [hat, bnd, hjn, bi_F]
          simp (disch := omega) only [l0, l1, l2, l3, l4, l5, l6, l7, l8, l9, l10, l11, l12, l16, l18, l19, l20, l21, l24, l96, l128, l100, l144, l200, l256, l288, l1536, l1728, l1800, bnd, nI_add, pk_mul, pI_sub, pI_m1, pT_le, pF_le, pT_lt, pF_lt, pT_eq, pF_eq, pF_m1, mF_eq, mT_eq, mT_lt, mF_le, lm1, rd_nI, wr_nI, cl_nI, pk_us, un_ne, pk_uLs, uL_ne, zI_uI, zI_uJ, zI_uA, zI_uB, zI_uR, zI_uN, zJ_uI, zJ_uJ, zJ_uA, zJ_uB, zJ_uR, zJ_uN, zA_uI, zA_uJ, zA_uA, zA_uB, zA_uR, zA_uN, zB_uI, zB_uJ, zB_uA, zB_uB, zB_uR, zB_uN, zR_uI, zR_uJ, zR_uA, zR_uB, zR_uR, zR_uN, zN_uI, zN_uJ, zN_uA, zN_uB, zN_uR, zN_uN, zI_ne, zJ_ne, zA_ne, zB_ne, zR_ne, zN_ne, bi_T, bi_F, nz16, ↓reduceIte, not_true_eq_false, not_false_eq_true, Bool.false_eq_true, reduceCtorEq, l32, if_pos h32']
          exact nx
        · have e2 : tkF Jh 4 gh bs = (rows D pend ++ [(c, p)]) ++ (tk Jh 4 gh (bs.drop (p + 1)) (p + 1) 0 none ++ [(256, bs.length)]) := by
            rw [hT]
            cases pend with
            | none => rw [tk_cN, if_neg hj0, if_neg h32]; show D ++ (([(c, p)] ++ _) ++ _) = _; rw [List.append_assoc, ← List.append_assoc D]; rfl
            | some q => rw [tk_cS, if_neg hj0, if_neg h32]; show D ++ (([(1000 + q.1, q.2)] ++ ([(c, p)] ++ _)) ++ _) = (D ++ [_]) ++ [_] ++ _; rw [List.append_assoc, List.append_assoc, List.append_assoc, List.append_assoc]
          have nx := more c 0 (rows D pend ++ [(c, p)]) none rfl e2 (fun q hq => by cases hq) (fun _ => .inl rfl) (Nat.zero_le _)
          have h64 := nI64 (n := c) (by omega)
          have h32' : ¬ nI c = nI 32 := fun e => h32 ((nI_eq (by omega) (by omega)).mp e)
          unfold fX5_cutUp_h_J93 fX5_cutUp_h_J114
          simp only [hsz, bnd]
          rw [if_neg (show ¬ nI bs.length ≤ nI p by rw [pF_le (by omega) (by omega)]; exact fun h => h), l200, if_neg (show ¬ nI 200 ≤ nI (rows D pend).length by rw [pF_le (by omega) (by omega)]; exact fun h => h)]
          simp only [hat, bnd, hjn, bi_F]
          simp (disch := omega) only [l0, l1, l2, l3, l4, l5, l6, l7, l8, l9, l10, l11, l12, l16, l18, l19, l20, l21, l24, l96, l128, l100, l144, l200, l256, l288, l1536, l1728, l1800, bnd, nI_add, pk_mul, pI_sub, pI_m1, pT_le, pF_le, pT_lt, pF_lt, pT_eq, pF_eq, pF_m1, mF_eq, mT_eq, mT_lt, mF_le, lm1, rd_nI, wr_nI, cl_nI, pk_us, un_ne, pk_uLs, uL_ne, zI_uI, zI_uJ, zI_uA, zI_uB, zI_uR, zI_uN, zJ_uI, zJ_uJ, zJ_uA, zJ_uB, zJ_uR, zJ_uN, zA_uI, zA_uJ, zA_uA, zA_uB, zA_uR, zA_uN, zB_uI, zB_uJ, zB_uA, zB_uB, zB_uR, zB_uN, zR_uI, zR_uJ, zR_uA, zR_uB, zR_uR, zR_uN, zN_uI, zN_uJ, zN_uA, zN_uB, zN_uR, zN_uN, zI_ne, zJ_ne, zA_ne, zB_ne, zR_ne, zN_ne, bi_T, bi_F, nz16, ↓reduceIte, not_true_eq_false, not_false_eq_true, Bool.false_eq_true, reduceCtorEq, l32, if_neg h32', h64]
          exact nx
theorem letter_ok (J : Int64) : ∃ l, l < 1000 ∧ fX10_letter J (nI 0) = some (nI l) := by
  unfold fX10_letter
  generalize (ushr64 J (5 * nI 0)).toInt32 = x
  have h31 : (x.toBitVec &&& 31#32).toNat ≤ 31 := by
    rw [BitVec.toNat_and]
    exact Nat.and_le_right
  refine ⟨(x.toBitVec &&& 31#32).toNat, by omega, ?_⟩
  congr 1
  apply Int32.toBitVec_inj.mp
  rw [Int32.toBitVec_and]
  show _ = BitVec.ofNat 32 (x.toBitVec &&& 31#32).toNat
  rw [BitVec.ofNat_toNat, BitVec.setWidth_eq]
  rfl
/-- the four numbers that the habit reader holds *-/
def E15 (σ : St) : Prop := ∃ n v f w : Nat, n < 1000 ∧ v < 1000 ∧ f < 1000 ∧ w < 1000 ∧ zI σ 12 = nI n ∧ zI σ 13 = nI v ∧ zI σ 14 = nI f ∧ zI σ 15 = nI w
theorem E15.se {σ τ : St} (h : SE σ τ) (k : E15 σ) : E15 τ := by
  unfold E15
  rw [h.i 12 (by decide), h.i 13 (by decide), h.i 14 (by decide), h.i 15 (by decide)]
  exact k
theorem E15.sf {σ τ : St} (h : SF σ τ) (k : E15 σ) : E15 τ := by
  unfold E15
  rw [h.i 12 (by decide), h.i 13 (by decide), h.i 14 (by decide), h.i 15 (by decide)]
  exact k
theorem E15.ec {σ : St} (k : E15 σ) : ∃ n v f l w : Nat, n < 1000 ∧ v < 1000 ∧ f < 1000 ∧ l < 1000 ∧ w < 1000 ∧ EC σ (evS n v f l w) := by
  obtain ⟨n, v, f, w, h1, h2, h3, h4, h5, h6, h7, h8⟩ := k
  obtain ⟨l, g1, g2⟩ := letter_ok (zJ σ 0)
  exact ⟨n, v, f, l, w, h1, h2, h3, g1, h4, n, v, f, l, w, h1, h2, h3, g1, h4, h5, h6, h7, h8, g2, rfl⟩
theorem h_end {y : St} {q N : Nat} {T : List Tk} {x : Sx} (h : HS y q T x) (hg : gX N x) (hq : q = 21) : ∃ υ, ((fX5_sign_h y).bind fun x4 => if x4 = (256 : Int32) then (some ((zI y 10), y)) else ((fX5_spoil_h y).bind fun s5 => some ((zI s5 10), s5))) = some (fx x, υ) ∧ HF y υ := by
  have hs := h_sign h hg
  have hsl := sg_lt x
  rw [hs, bnd, l256]
  by_cases e : sg x = 256
  · refine ⟨y, ?_, HF.rf y⟩
    rw [if_pos (by rw [e])]
    cases x with
    | inl p => cases e
    | inr R =>
      have h : HC y q T R := h
      have e : (if (hd R).1 < 1000 then (hd R).1 else 1000) = 256 := e
      have h256 : (hd R).1 = 256 := by split at e <;> omega
      rw [h.2.2.1]
      show _ = some ((if (hd R).1 = 256 then mI else nI (hd R).2), y)
      rw [if_pos h256]
  · rw [if_neg (fun x => e ((nI_eq (by omega) (by omega)).mp x))]
    obtain ⟨z, a1, a2, a3⟩ := h_spoil h hg
    refine ⟨z, ?_, a3⟩
    rw [a1, bnd]
    cases x with
    | inl p =>
      have a2 : zI z 10 ≠ mI ∧ (q = 21 → zI z 10 = nI p) ∧ P22 z := a2
      rw [a2.2.1 hq]
      rfl
    | inr R =>
      have a2 : zI z 10 ≠ mI ∧ (q = 21 → zI z 10 = nI (hd R).2) ∧ P22 z := a2
      rw [a2.2.1 hq]
      have hne : ¬ (hd R).1 = 256 := by
        intro h
        apply e
        show (if (hd R).1 < 1000 then (hd R).1 else 1000) = 256
        rw [h]
        rfl
      show _ = some ((if (hd R).1 = 256 then mI else nI (hd R).2), z)
      rw [if_neg hne]
theorem HS.p22 {y : St} {q : Nat} {T : List Tk} {x : Sx} (h : HS y q T x) : P22 y := by
  cases x with
  | inl p => exact h.2.2
  | inr R => exact h.2.2.2.2.2.1
theorem clL_g {e : En} (he : eB e) : ∀ (n : Nat) (h : Bool) (w : Int) {N : Nat} {x : Sx}, gX N x → gX N (clL e n h w x).2
  | 0, h, w, N, x, hx => hx
  | n + 1, h, w, N, x, hx => by
    have h1 := (cls_g he N x hx).1
    unfold clL
    split
    · rename_i hb
      exact gX_mono (clL_g he n _ _ (gX_tl h1 (by rw [tb_sg (by decide) hb]; decide))) (by omega)
    · exact h1
theorem c_faultOf_h {σ : St} {bs : List Nat} {e : En} (h2 : zI σ 2 = nI bs.length) (h11 : hB (zA σ 11) bs) (hl : bs.length ≤ 200) (hb : ∀ b, b ∈ bs → 1 ≤ b ∧ b < 256) (h22 : P22 σ) (hE : EC σ e) : ∃ υ, FR [22] [21] [9, 10, 16] [] (uR σ 2 21) υ ∧ fX5_faultOf_h σ = some (fx (pHab e bs).2, υ) ∧ P22 υ ∧ RW υ 21 22 (tkF Jh 4 gh bs) ∧ (tkF Jh 4 gh bs).length ≤ 201 := by
  obtain ⟨s1, h3, h4, h5, h6⟩ := c_cutUp_h2 h2 h11 hl hb
  obtain ⟨s2, hs2⟩ : ∃ s2, s2 = uI (uI (uR s1 2 21) 9 (nI 0)) 10 mI := ⟨_, rfl⟩
  have hF2 : FR [22] [21] [9, 10] [] (uR σ 2 21) s2 := by
    rw [hs2]
    exact FR.uI (FR.uI ((h3.1.mono (by decide) (by decide) (by decide) (by decide)).uR2) (by decide)) (by decide)
  have hp2 : P22 s2 := by
    intro k hk
    rw [hs2, zA_uI, zA_uI, zA_uR]
    exact h3.2.2 h22 k hk
  have hS2 : HS s2 21 (tkF Jh 4 gh bs) (.inr (tkF Jh 4 gh bs)) := by
    refine ⟨?_, .inl rfl, ?_, fun k hk => ?_, fun _ k hk => ?_, hp2, h5, [], rfl, ?_⟩
    · rw [hs2, zR_uI, zR_uI, zR_uR]
    · rw [hs2, zI_uI]
    · rw [hs2, zB_uI, zB_uI, zB_uR]
      exact (h4 k hk).1
    · rw [hs2, zA_uI, zA_uI, zA_uR]
      exact (h4 k hk).2
    · rw [hs2, zI_ne (by decide), zI_uI]; rfl
  have hE2 : EC s2 e := by
    obtain ⟨n, v, f, l, w, a1, a2, a3, a4, a5, b1, b2, b3, b4, b5, b6⟩ := hE
    have hJ : zJ s2 = zJ σ := by
      rw [hs2]
      exact h3.2.1
    refine ⟨n, v, f, l, w, a1, a2, a3, a4, a5, ?_, ?_, ?_, ?_, ?_, b6⟩
    · rw [hF2.2.2.1 12 (by decide)]; exact b1
    · rw [hF2.2.2.1 13 (by decide)]; exact b2
    · rw [hF2.2.2.1 14 (by decide)]; exact b3
    · rw [hF2.2.2.1 15 (by decide)]; exact b4
    · rw [hJ]; exact b5
  have hX := gX_F hl hb h5
  obtain ⟨s3, h7, h8, h9, h10⟩ := c_takeAll_h hS2 hX hE2
  obtain ⟨s4, h12, h13⟩ := h_end h8 (clL_g hE.eb 200 false 0 hX) rfl
  have hF3 : FR [22] [21] [9, 10, 16] [] (uR σ 2 21) s3 := (hF2.mono (by decide) (by decide) (by decide) (by decide)).tr (h9.1.mono (by decide) (by decide) (by decide) (by decide))
  have hk : FR [] [] [9, 10] [] s3 s4 := h13.1
  refine ⟨s4, hF3.tr (hk.mono (by decide) (by decide) (by decide) (by decide)), ?_, ?_, ?_, h5⟩
  · have e1 : fX5_begin_h_21 s1 = some s2 := by rw [hs2]; rfl
    unfold fX5_faultOf_h
    rw [h6, bnd, e1, bnd, h7, bnd]
    exact h12
  · intro k hk2
    rw [hk.1 22 (by decide)]
    exact h8.p22 k hk2
  · intro k hk2
    rw [hk.1 22 (by decide), hk.2.1 21 (by decide), h9.1.1 22 (by decide), h9.1.2.1 21 (by decide), hs2, zA_uI, zA_uI, zA_uR, zB_uI, zB_uI, zB_uR]
    exact h4 k hk2
