/-! the class's reader of sort p: tokens cut up, and the steps *-/
def Jp (_ : Nat) : Bool := false
def gp (v _ : Nat) : Nat := v
theorem jnp {b : Nat} (hb : b < 256) : fX3_joins (nI b) = some (Jp b) := nrfl rfl
theorem c_cutUp_p {σ : St} {bs : List Nat} (h2 : zI σ 2 = nI bs.length) (h11 : hB (zA σ 11) bs) (hl : bs.length ≤ 200) (hb : ∀ b, b ∈ bs → 1 ≤ b ∧ b < 256) : ∃ υ, FR [19] [18] [] [] σ υ ∧ RW υ 18 19 (tkF Jp 0 gp bs) ∧ (tkF Jp 0 gp bs).length ≤ 201 ∧ fX5_cutUp_p σ = some υ := by
  have key := it_for (β := St × Nat × List Tk × Option Tk) (body := fun (kb : (St × Int32 × Int32 × Int32) → Option St) (t : St × Int32 × Int32 × Int32) => fX5_cutUp_p_L7 (fun s20 x21 => wr 201 x21 ((some (uB s20 18 (vp_updL (zB s20 18) (Int32.toNatClampNeg x21) (256 : Int64)))).bind fun s22 => (fX9_size s22).bind fun x23 => wr 201 x21 ((some (uA s22 19 (upd (zA s22 19) (Int32.toNatClampNeg x21) x23))).bind fun s24 => some s24))) (fun σ v2 v3 v4 => kb (σ, v2, v3, v4)) t.1 t.2.1 t.2.2.1 t.2.2.2) bs.length (by omega) (fun p b => (b.1, nI (rows b.2.2.1 b.2.2.2).length, nI b.2.1, nI p)) (fun p b => FR [19] [18] [] [] σ b.1 ∧ RW b.1 18 19 (rows b.2.2.1 b.2.2.2) ∧ (rows b.2.2.1 b.2.2.2).length ≤ p ∧ tkF Jp 0 gp bs = b.2.2.1 ++ (tk Jp 0 gp (bs.drop p) p b.2.1 b.2.2.2 ++ [(256, bs.length)]) ∧ (∀ q, b.2.2.2 = some q → 1 ≤ b.2.1 ∧ b.2.1 ≤ 0 ∧ q.1 < 1 ^ b.2.1) ∧ (b.2.2.2 = none → b.2.1 = 0 ∨ 0 < b.2.1) ∧ b.2.1 ≤ p) (fun p b z => ∃ υ, FR [19] [18] [] [] σ υ ∧ RW υ 18 19 (tkF Jp 0 gp bs) ∧ (tkF Jp 0 gp bs).length ≤ 201 ∧ z = some υ) ?_ 0 (σ, 0, [], none) (Nat.zero_le _) ⟨FR.rf _ _ _ _ _, fun k hk => absurd hk (Nat.not_lt_zero _), Nat.le_refl _, rfl, (fun q hq => by cases hq), fun _ => .inl rfl, Nat.le_refl _⟩
  · exact key
  · rintro p ⟨τ, run, D, pend⟩ hp ⟨hF, hR, hlen, hT, hS, hN, hrp⟩ kb hkb
    have hF : FR [19] [18] [] [] σ τ := hF
    have hR : RW τ 18 19 (rows D pend) := hR
    have hlen : (rows D pend).length ≤ p := hlen
    have hT : tkF Jp 0 gp bs = D ++ (tk Jp 0 gp (bs.drop p) p run pend ++ [(256, bs.length)]) := hT
    have hS : ∀ q, pend = some q → 1 ≤ run ∧ run ≤ 0 ∧ q.1 < 1 ^ run := hS
    have hN : pend = none → run = 0 ∨ 0 < run := hN
    have hrp : run ≤ p := hrp
    have h2t : zI τ 2 = nI bs.length := (hF.2.2.1 2 (by decide)).trans h2
    have h11t : hB (zA τ 11) bs := by rw [hF.1 11 (by decide)]; exact h11
    show ∃ υ, _ ∧ _ ∧ _ ∧ fX5_cutUp_p_L7 _ (fun σ v2 v3 v4 => kb (σ, v2, v3, v4)) τ (nI (rows D pend).length) (nI run) (nI p) = some υ
    have hsz : fX9_size τ = some (nI bs.length) := by unfold fX9_size; rw [h2t]
    unfold fX5_cutUp_p_L7
    by_cases hpe : p = bs.length
    · have hT2 : tkF Jp 0 gp bs = rows D pend ++ [(256, bs.length)] := by
        rw [hT, hpe, drop_end (Nat.le_refl _)]
        cases pend with
        | none => rfl
        | some q => show D ++ ([(1000 + q.1, q.2)] ++ _) = _; rw [← List.append_assoc]; rfl
      have hadd := RW_add (v := 256) (s := bs.length) hR
      have hF2 : FR [19] [18] [] [] σ (uA (uB τ 18 (vp_updL (zB τ 18) (rows D pend).length (lN 256))) 19 (upd (zA τ 19) (rows D pend).length (nI bs.length))) := FR.uA (FR.uB hF (by decide)) (by decide)
      refine ⟨uA (uB τ 18 (vp_updL (zB τ 18) (rows D pend).length (lN 256))) 19 (upd (zA τ 19) (rows D pend).length (nI bs.length)), hF2, ?_, ?_, ?_⟩
      · rw [hT2]
        exact hadd
      · rw [hT2, List.length_append, List.length_singleton]
        omega
      · have hsz2 : ∀ f, fX9_size (uB τ 18 f) = some (nI bs.length) := fun f => by unfold fX9_size; rw [zI_uB, h2t]
        simp (disch := omega) only [l0, l1, l2, l3, l4, l5, l6, l7, l8, l9, l10, l11, l12, l16, l18, l19, l20, l21, l24, l96, l128, l100, l144, l200, l256, l288, l1536, l1728, l1800, bnd, nI_add, pk_mul, pI_sub, pI_m1, pT_le, pF_le, pT_lt, pF_lt, pT_eq, pF_eq, pF_m1, mF_eq, mT_eq, mT_lt, mF_le, lm1, rd_nI, wr_nI, cl_nI, pk_us, un_ne, pk_uLs, uL_ne, zI_uI, zI_uJ, zI_uA, zI_uB, zI_uR, zI_uN, zJ_uI, zJ_uJ, zJ_uA, zJ_uB, zJ_uR, zJ_uN, zA_uI, zA_uJ, zA_uA, zA_uB, zA_uR, zA_uN, zB_uI, zB_uJ, zB_uA, zB_uB, zB_uR, zB_uN, zR_uI, zR_uJ, zR_uA, zR_uB, zR_uR, zR_uN, zN_uI, zN_uJ, zN_uA, zN_uB, zN_uR, zN_uN, zI_ne, zJ_ne, zA_ne, zB_ne, zR_ne, zN_ne, bi_T, bi_F, nz16, ↓reduceIte, not_true_eq_false, not_false_eq_true, Bool.false_eq_true, reduceCtorEq, hsz, hpe, hsz2, l256L]
    · have hpl : p < bs.length := by omega
      have hat := c_at h2t h11t hl hb hpl
      have hbb := hb _ (getD_mem (d := 0) hpl)
      rw [drop_get' hpl] at hT
      have hjn := jnp (b := bs.getD p 0) hbb.2
      generalize bs.getD p 0 = c at *
      -- a row more
      have more : ∀ (v : Nat) (r2 : Nat) (D2 : List Tk) (pend2 : Option Tk), rows D2 pend2 = rows D pend ++ [(v, p)] → tkF Jp 0 gp bs = D2 ++ (tk Jp 0 gp (bs.drop (p + 1)) (p + 1) r2 pend2 ++ [(256, bs.length)]) → (∀ q, pend2 = some q → 1 ≤ r2 ∧ r2 ≤ 0 ∧ q.1 < 1 ^ r2) → (pend2 = none → r2 = 0 ∨ 0 < r2) → r2 ≤ p + 1 → ∃ υ, FR [19] [18] [] [] σ υ ∧ RW υ 18 19 (tkF Jp 0 gp bs) ∧ (tkF Jp 0 gp bs).length ≤ 201 ∧ kb (uA (uB τ 18 (vp_updL (zB τ 18) (rows D pend).length (lN v))) 19 (upd (zA τ 19) (rows D pend).length (nI p)), nI ((rows D pend).length + 1), nI r2, nI (p + 1)) = some υ := by
        intro v r2 D2 pend2 e1 e2 e3 e4 e5
        have nx := hkb (uA (uB τ 18 (vp_updL (zB τ 18) (rows D pend).length (lN v))) 19 (upd (zA τ 19) (rows D pend).length (nI p)), r2, D2, pend2) hpl ⟨FR.uA (FR.uB hF (by decide)) (by decide), by
          rw [e1]
          exact RW_add hR, by
          rw [e1, List.length_append, List.length_singleton]
          omega, e2, e3, e4, e5⟩
        have nx : ∃ υ, FR [19] [18] [] [] σ υ ∧ RW υ 18 19 (tkF Jp 0 gp bs) ∧ (tkF Jp 0 gp bs).length ≤ 201 ∧ kb (uA (uB τ 18 (vp_updL (zB τ 18) (rows D pend).length (lN v))) 19 (upd (zA τ 19) (rows D pend).length (nI p)), nI (rows D2 pend2).length, nI r2, nI (p + 1)) = some υ := nx
        rw [e1, List.length_append, List.length_singleton] at nx
        exact nx
      cases hj : Jp c with
      | true => exact absurd hj (by unfold Jp; decide)
      | false =>
        have hj0 : ¬ Jp c = true := by rw [hj]; decide
        rw [hj] at hjn
        by_cases h32 : c = 32
        · have e2 : tkF Jp 0 gp bs = rows D pend ++ (tk Jp 0 gp (bs.drop (p + 1)) (p + 1) 0 none ++ [(256, bs.length)]) := by
            rw [hT]
            cases pend with
            | none => rw [tk_cN, if_neg hj0, if_pos h32]; rfl
            | some q => rw [tk_cS, if_neg hj0, if_pos h32]; show D ++ (([(1000 + q.1, q.2)] ++ _) ++ _) = (D ++ [_]) ++ _; rw [List.append_assoc, List.append_assoc]
          have nx := hkb (τ, 0, rows D pend, none) hpl ⟨hF, hR, by show (rows D pend).length ≤ p + 1; omega, e2, (fun q hq => by cases hq), fun _ => .inl rfl, Nat.zero_le _⟩
          unfold fX5_cutUp_p_J93
          have h32' : nI c = nI 32 := by rw [h32]
          simp only [hsz, bnd]
          rw [if_neg (show ¬ nI bs.length ≤ nI p by rw [pF_le (by omega) (by omega)]; exact fun h => h), l200, if_neg (show ¬ nI 200 ≤ nI (rows D pend).length by rw [pF_le (by omega) (by omega)]; exact fun h => h)]
          simp only [hat, bnd, hjn, bi_F]
          simp (disch := omega) only [l0, l1, l2, l3, l4, l5, l6, l7, l8, l9, l10, l11, l12, l16, l18, l19, l20, l21, l24, l96, l128, l100, l144, l200, l256, l288, l1536, l1728, l1800, bnd, nI_add, pk_mul, pI_sub, pI_m1, pT_le, pF_le, pT_lt, pF_lt, pT_eq, pF_eq, pF_m1, mF_eq, mT_eq, mT_lt, mF_le, lm1, rd_nI, wr_nI, cl_nI, pk_us, un_ne, pk_uLs, uL_ne, zI_uI, zI_uJ, zI_uA, zI_uB, zI_uR, zI_uN, zJ_uI, zJ_uJ, zJ_uA, zJ_uB, zJ_uR, zJ_uN, zA_uI, zA_uJ, zA_uA, zA_uB, zA_uR, zA_uN, zB_uI, zB_uJ, zB_uA, zB_uB, zB_uR, zB_uN, zR_uI, zR_uJ, zR_uA, zR_uB, zR_uR, zR_uN, zN_uI, zN_uJ, zN_uA, zN_uB, zN_uR, zN_uN, zI_ne, zJ_ne, zA_ne, zB_ne, zR_ne, zN_ne, bi_T, bi_F, nz16, ↓reduceIte, not_true_eq_false, not_false_eq_true, Bool.false_eq_true, reduceCtorEq, l32, if_pos h32']
          exact nx
        · have e2 : tkF Jp 0 gp bs = (rows D pend ++ [(c, p)]) ++ (tk Jp 0 gp (bs.drop (p + 1)) (p + 1) 0 none ++ [(256, bs.length)]) := by
            rw [hT]
            cases pend with
            | none => rw [tk_cN, if_neg hj0, if_neg h32]; show D ++ (([(c, p)] ++ _) ++ _) = _; rw [List.append_assoc, ← List.append_assoc D]; rfl
            | some q => rw [tk_cS, if_neg hj0, if_neg h32]; show D ++ (([(1000 + q.1, q.2)] ++ ([(c, p)] ++ _)) ++ _) = (D ++ [_]) ++ [_] ++ _; rw [List.append_assoc, List.append_assoc, List.append_assoc, List.append_assoc]
          have nx := more c 0 (rows D pend ++ [(c, p)]) none rfl e2 (fun q hq => by cases hq) (fun _ => .inl rfl) (Nat.zero_le _)
          have h64 := nI64 (n := c) (by omega)
          have h32' : ¬ nI c = nI 32 := fun e => h32 ((nI_eq (by omega) (by omega)).mp e)
          unfold fX5_cutUp_p_J93 fX5_cutUp_p_J114
          simp only [hsz, bnd]
          rw [if_neg (show ¬ nI bs.length ≤ nI p by rw [pF_le (by omega) (by omega)]; exact fun h => h), l200, if_neg (show ¬ nI 200 ≤ nI (rows D pend).length by rw [pF_le (by omega) (by omega)]; exact fun h => h)]
          simp only [hat, bnd, hjn, bi_F]
          simp (disch := omega) only [l0, l1, l2, l3, l4, l5, l6, l7, l8, l9, l10, l11, l12, l16, l18, l19, l20, l21, l24, l96, l128, l100, l144, l200, l256, l288, l1536, l1728, l1800, bnd, nI_add, pk_mul, pI_sub, pI_m1, pT_le, pF_le, pT_lt, pF_lt, pT_eq, pF_eq, pF_m1, mF_eq, mT_eq, mT_lt, mF_le, lm1, rd_nI, wr_nI, cl_nI, pk_us, un_ne, pk_uLs, uL_ne, zI_uI, zI_uJ, zI_uA, zI_uB, zI_uR, zI_uN, zJ_uI, zJ_uJ, zJ_uA, zJ_uB, zJ_uR, zJ_uN, zA_uI, zA_uJ, zA_uA, zA_uB, zA_uR, zA_uN, zB_uI, zB_uJ, zB_uA, zB_uB, zB_uR, zB_uN, zR_uI, zR_uJ, zR_uA, zR_uB, zR_uR, zR_uN, zN_uI, zN_uJ, zN_uA, zN_uB, zN_uR, zN_uN, zI_ne, zJ_ne, zA_ne, zB_ne, zR_ne, zN_ne, bi_T, bi_F, nz16, ↓reduceIte, not_true_eq_false, not_false_eq_true, Bool.false_eq_true, reduceCtorEq, l32, if_neg h32', h64]
          exact nx
def Cp (τ : St) (T R : List Tk) : Prop := zR τ 1 = 18 ∧ zI τ 7 = mI ∧ RW τ 18 19 T ∧ T.length ≤ 201 ∧ ∃ pre, T = pre ++ R ∧ zI τ 6 = nI pre.length
theorem Cp.fr {σ τ : St} {T R : List Tk} {A B K N : List Nat} (h : Cp σ T R) (f : FR A B K N σ τ) (hA : 19 ∉ A) (hB : 18 ∉ B) (hK : ∀ q, q ∈ [6, 7] → q ∉ K) : Cp τ T R := by
  unfold Cp
  rw [f.2.2.2.2, f.2.2.1 7 (hK 7 (by decide)), f.2.2.1 6 (hK 6 (by decide))]
  exact ⟨h.1, h.2.1, h.2.2.1.fr f hA hB, h.2.2.2⟩
theorem Cp.at {τ : St} {T R : List Tk} {t : Tk} (h : Cp τ T (t :: R)) : ∃ k, k < 201 ∧ zI τ 6 = nI k ∧ zB τ 18 k = lN t.1 ∧ zA τ 19 k = nI t.2 ∧ Cp (uI τ 6 (nI (k + 1))) T R := by
  obtain ⟨h1, h2, h3, h4, pre, h5, h6⟩ := h
  have hk : pre.length < T.length := by rw [h5, List.length_append, List.length_cons]; omega
  have hg : T.getD pre.length (0, 0) = t := by
    rw [h5, List.getD_eq_getElem?_getD, List.getElem?_append_right (Nat.le_refl _), Nat.sub_self]
    rfl
  have h7 := h3 pre.length hk
  rw [hg] at h7
  refine ⟨pre.length, by omega, h6, h7.1, h7.2, h1, ?_, ?_, h4, pre ++ [t], ?_, ?_⟩
  · rw [zI_ne (by decide)]
    exact h2
  · exact h3
  · rw [h5, List.append_assoc]
    rfl
  · rw [zI_uI, List.length_append, List.length_singleton]
theorem lenp {τ : St} (h : zR τ 1 = 18) : lenB τ (zR τ 1) = 201 := by
  rw [h]
  rfl
theorem c_sign_p {τ : St} {T R : List Tk} {t : Tk} (h : Cp τ T (t :: R)) (ht : t.1 < 4611686018427387904) : fX5_sign_p τ = some (nI (if t.1 < 1000 then t.1 else 1000)) := by
  obtain ⟨k, hk, h1, h2, h3, h4⟩ := h.at
  have h5 := lenp h.1
  unfold fX5_sign_p
  rw [h5, h.1]
  unfold isl
  rw [if_neg (show ¬ 201 = 0 by decide)]
  by_cases hc : t.1 < 1000
  · rw [if_pos hc]
    have hlt : lg_cmp (lN t.1) (lN 1000) < nI 0 := (lg_cmp_lt _ _).mpr (by
      apply Int64.lt_iff_toInt_lt.mpr
      have e1 : (lN t.1).toInt = (t.1 : Nat) := Int64.toInt_ofNat_of_lt (by omega)
      have e2 : (lN 1000).toInt = 1000 := rfl
      omega)
    have h32 := to32 (n := t.1) (by omega)
    simp (disch := omega) only [l0, l1, l2, l3, l4, l5, l6, l7, l8, l9, l10, l11, l12, l16, l18, l19, l20, l21, l24, l96, l128, l100, l144, l200, l256, l288, l1536, l1728, l1800, bnd, nI_add, pk_mul, pI_sub, pI_m1, pT_le, pF_le, pT_lt, pF_lt, pT_eq, pF_eq, pF_m1, mF_eq, mT_eq, mT_lt, mF_le, lm1, rd_nI, wr_nI, cl_nI, pk_us, un_ne, pk_uLs, uL_ne, zI_uI, zI_uJ, zI_uA, zI_uB, zI_uR, zI_uN, zJ_uI, zJ_uJ, zJ_uA, zJ_uB, zJ_uR, zJ_uN, zA_uI, zA_uJ, zA_uA, zA_uB, zA_uR, zA_uN, zB_uI, zB_uJ, zB_uA, zB_uB, zB_uR, zB_uN, zR_uI, zR_uJ, zR_uA, zR_uB, zR_uR, zR_uN, zN_uI, zN_uJ, zN_uA, zN_uB, zN_uR, zN_uN, zI_ne, zJ_ne, zA_ne, zB_ne, zR_ne, zN_ne, bi_T, bi_F, nz16, ↓reduceIte, not_true_eq_false, not_false_eq_true, Bool.false_eq_true, reduceCtorEq, h.2.1, mI_eq, h1, oNI, h2, l1000L, if_pos hlt, h32]
  · rw [if_neg hc]
    have hlt : ¬ lg_cmp (lN t.1) (lN 1000) < nI 0 := by
      intro h
      have h := Int64.lt_iff_toInt_lt.mp ((lg_cmp_lt _ _).mp h)
      have e1 : (lN t.1).toInt = (t.1 : Nat) := Int64.toInt_ofNat_of_lt (by omega)
      have e2 : (lN 1000).toInt = 1000 := rfl
      omega
    simp (disch := omega) only [l0, l1, l2, l3, l4, l5, l6, l7, l8, l9, l10, l11, l12, l16, l18, l19, l20, l21, l24, l96, l128, l100, l144, l200, l256, l288, l1536, l1728, l1800, bnd, nI_add, pk_mul, pI_sub, pI_m1, pT_le, pF_le, pT_lt, pF_lt, pT_eq, pF_eq, pF_m1, mF_eq, mT_eq, mT_lt, mF_le, lm1, rd_nI, wr_nI, cl_nI, pk_us, un_ne, pk_uLs, uL_ne, zI_uI, zI_uJ, zI_uA, zI_uB, zI_uR, zI_uN, zJ_uI, zJ_uJ, zJ_uA, zJ_uB, zJ_uR, zJ_uN, zA_uI, zA_uJ, zA_uA, zA_uB, zA_uR, zA_uN, zB_uI, zB_uJ, zB_uA, zB_uB, zB_uR, zB_uN, zR_uI, zR_uJ, zR_uA, zR_uB, zR_uR, zR_uN, zN_uI, zN_uJ, zN_uA, zN_uB, zN_uR, zN_uN, zI_ne, zJ_ne, zA_ne, zB_ne, zR_ne, zN_ne, bi_T, bi_F, nz16, ↓reduceIte, not_true_eq_false, not_false_eq_true, Bool.false_eq_true, reduceCtorEq, h.2.1, mI_eq, h1, oNI, h2, l1000L, if_neg hlt, l1000]
theorem c_value_p {τ : St} {T R : List Tk} {v s : Nat} (h : Cp τ T ((1000 + v, s) :: R)) : fX5_value_p τ = some (lN v) := by
  obtain ⟨k, hk, h1, h2, h3, h4⟩ := h.at
  have h5 := lenp h.1
  have h2 : zB τ 18 k = lN (1000 + v) := h2
  unfold fX5_value_p
  rw [h5, h.1]
  unfold isl
  rw [if_neg (show ¬ 201 = 0 by decide)]
  simp (disch := omega) only [l0, l1, l2, l3, l4, l5, l6, l7, l8, l9, l10, l11, l12, l16, l18, l19, l20, l21, l24, l96, l128, l100, l144, l200, l256, l288, l1536, l1728, l1800, bnd, nI_add, pk_mul, pI_sub, pI_m1, pT_le, pF_le, pT_lt, pF_lt, pT_eq, pF_eq, pF_m1, mF_eq, mT_eq, mT_lt, mF_le, lm1, rd_nI, wr_nI, cl_nI, pk_us, un_ne, pk_uLs, uL_ne, zI_uI, zI_uJ, zI_uA, zI_uB, zI_uR, zI_uN, zJ_uI, zJ_uJ, zJ_uA, zJ_uB, zJ_uR, zJ_uN, zA_uI, zA_uJ, zA_uA, zA_uB, zA_uR, zA_uN, zB_uI, zB_uJ, zB_uA, zB_uB, zB_uR, zB_uN, zR_uI, zR_uJ, zR_uA, zR_uB, zR_uR, zR_uN, zN_uI, zN_uJ, zN_uA, zN_uB, zN_uR, zN_uN, zI_ne, zJ_ne, zA_ne, zB_ne, zR_ne, zN_ne, bi_T, bi_F, nz16, ↓reduceIte, not_true_eq_false, not_false_eq_true, Bool.false_eq_true, reduceCtorEq, h1, oNI, h2, l1000L, lN_subl]
theorem c_step_p {τ : St} {T R : List Tk} {t : Tk} (h : Cp τ T (t :: R)) : ∃ k, fX5_step_p τ = some (uI τ 6 (nI k)) ∧ Cp (uI τ 6 (nI k)) T R := by
  obtain ⟨k, hk, h1, h2, h3, h4⟩ := h.at
  refine ⟨k + 1, ?_, h4⟩
  unfold fX5_step_p
  simp (disch := omega) only [l0, l1, l2, l3, l4, l5, l6, l7, l8, l9, l10, l11, l12, l16, l18, l19, l20, l21, l24, l96, l128, l100, l144, l200, l256, l288, l1536, l1728, l1800, bnd, nI_add, pk_mul, pI_sub, pI_m1, pT_le, pF_le, pT_lt, pF_lt, pT_eq, pF_eq, pF_m1, mF_eq, mT_eq, mT_lt, mF_le, lm1, rd_nI, wr_nI, cl_nI, pk_us, un_ne, pk_uLs, uL_ne, zI_uI, zI_uJ, zI_uA, zI_uB, zI_uR, zI_uN, zJ_uI, zJ_uJ, zJ_uA, zJ_uB, zJ_uR, zJ_uN, zA_uI, zA_uJ, zA_uA, zA_uB, zA_uR, zA_uN, zB_uI, zB_uJ, zB_uA, zB_uB, zB_uR, zB_uN, zR_uI, zR_uJ, zR_uA, zR_uB, zR_uR, zR_uN, zN_uI, zN_uJ, zN_uA, zN_uB, zN_uR, zN_uN, zI_ne, zJ_ne, zA_ne, zB_ne, zR_ne, zN_ne, bi_T, bi_F, nz16, ↓reduceIte, not_true_eq_false, not_false_eq_true, Bool.false_eq_true, reduceCtorEq, h1]
/-- a fault was found: the reader stands still *-/
def Fp (τ : St) (p : Nat) : Prop := zI τ 7 = nI p ∧ p < 1000
theorem c_signF_p {τ : St} {p : Nat} (h : Fp τ p) : fX5_sign_p τ = some (nI 257) := by
  obtain ⟨h, hp⟩ := h
  unfold fX5_sign_p
  simp (disch := omega) only [l0, l1, l2, l3, l4, l5, l6, l7, l8, l9, l10, l11, l12, l16, l18, l19, l20, l21, l24, l96, l128, l100, l144, l200, l256, l288, l1536, l1728, l1800, bnd, nI_add, pk_mul, pI_sub, pI_m1, pT_le, pF_le, pT_lt, pF_lt, pT_eq, pF_eq, pF_m1, mF_eq, mT_eq, mT_lt, mF_le, lm1, rd_nI, wr_nI, cl_nI, pk_us, un_ne, pk_uLs, uL_ne, zI_uI, zI_uJ, zI_uA, zI_uB, zI_uR, zI_uN, zJ_uI, zJ_uJ, zJ_uA, zJ_uB, zJ_uR, zJ_uN, zA_uI, zA_uJ, zA_uA, zA_uB, zA_uR, zA_uN, zB_uI, zB_uJ, zB_uA, zB_uB, zB_uR, zB_uN, zR_uI, zR_uJ, zR_uA, zR_uB, zR_uR, zR_uN, zN_uI, zN_uJ, zN_uA, zN_uB, zN_uR, zN_uN, zI_ne, zJ_ne, zA_ne, zB_ne, zR_ne, zN_ne, bi_T, bi_F, nz16, ↓reduceIte, not_true_eq_false, not_false_eq_true, Bool.false_eq_true, reduceCtorEq, h, mI_eq]
  rfl
theorem c_spoil_p {τ : St} {T R : List Tk} {t : Tk} (h : Cp τ T (t :: R)) (ht : t.2 < 1000) : fX5_spoil_p τ = some (uI τ 7 (nI t.2)) ∧ Fp (uI τ 7 (nI t.2)) t.2 := by
  obtain ⟨k, hk, h1, h2, h3, h4⟩ := h.at
  refine ⟨?_, ?_, ht⟩
  · unfold fX5_spoil_p
    simp (disch := omega) only [l0, l1, l2, l3, l4, l5, l6, l7, l8, l9, l10, l11, l12, l16, l18, l19, l20, l21, l24, l96, l128, l100, l144, l200, l256, l288, l1536, l1728, l1800, bnd, nI_add, pk_mul, pI_sub, pI_m1, pT_le, pF_le, pT_lt, pF_lt, pT_eq, pF_eq, pF_m1, mF_eq, mT_eq, mT_lt, mF_le, lm1, rd_nI, wr_nI, cl_nI, pk_us, un_ne, pk_uLs, uL_ne, zI_uI, zI_uJ, zI_uA, zI_uB, zI_uR, zI_uN, zJ_uI, zJ_uJ, zJ_uA, zJ_uB, zJ_uR, zJ_uN, zA_uI, zA_uJ, zA_uA, zA_uB, zA_uR, zA_uN, zB_uI, zB_uJ, zB_uA, zB_uB, zB_uR, zB_uN, zR_uI, zR_uJ, zR_uA, zR_uB, zR_uR, zR_uN, zN_uI, zN_uJ, zN_uA, zN_uB, zN_uR, zN_uN, zI_ne, zJ_ne, zA_ne, zB_ne, zR_ne, zN_ne, bi_T, bi_F, nz16, ↓reduceIte, not_true_eq_false, not_false_eq_true, Bool.false_eq_true, reduceCtorEq, h.2.1, mI_eq, h1, l201, h3]
  · rw [zI_uI]
theorem c_spoilF_p {τ : St} {p : Nat} (h : Fp τ p) : fX5_spoil_p τ = some τ := by
  obtain ⟨h, hp⟩ := h
  unfold fX5_spoil_p
  simp (disch := omega) only [l0, l1, l2, l3, l4, l5, l6, l7, l8, l9, l10, l11, l12, l16, l18, l19, l20, l21, l24, l96, l128, l100, l144, l200, l256, l288, l1536, l1728, l1800, bnd, nI_add, pk_mul, pI_sub, pI_m1, pT_le, pF_le, pT_lt, pF_lt, pT_eq, pF_eq, pF_m1, mF_eq, mT_eq, mT_lt, mF_le, lm1, rd_nI, wr_nI, cl_nI, pk_us, un_ne, pk_uLs, uL_ne, zI_uI, zI_uJ, zI_uA, zI_uB, zI_uR, zI_uN, zJ_uI, zJ_uJ, zJ_uA, zJ_uB, zJ_uR, zJ_uN, zA_uI, zA_uJ, zA_uA, zA_uB, zA_uR, zA_uN, zB_uI, zB_uJ, zB_uA, zB_uB, zB_uR, zB_uN, zR_uI, zR_uJ, zR_uA, zR_uB, zR_uR, zR_uN, zN_uI, zN_uJ, zN_uA, zN_uB, zN_uR, zN_uN, zI_ne, zJ_ne, zA_ne, zB_ne, zR_ne, zN_ne, bi_T, bi_F, nz16, ↓reduceIte, not_true_eq_false, not_false_eq_true, Bool.false_eq_true, reduceCtorEq, h, mI_eq]
theorem c_takes_p {τ : St} {T R : List Tk} {t : Tk} {x : Nat} (h : Cp τ T (t :: R)) (ht : t.1 < 4611686018427387904) (hx : x < 1000) : (t.1 = x ∧ ∃ k, fX5_takes_p τ (nI x) = some (true, uI τ 6 (nI k)) ∧ Cp (uI τ 6 (nI k)) T R) ∨ (t.1 ≠ x ∧ fX5_takes_p τ (nI x) = some (false, τ)) := by
  have hs := c_sign_p h ht
  by_cases e : t.1 = x
  · left
    obtain ⟨k, hk, h1, h2, h3, h4⟩ := h.at
    rw [if_pos (by omega)] at hs
    refine ⟨e, k + 1, ?_, h4⟩
    unfold fX5_takes_p
    simp (disch := omega) only [l0, l1, l2, l3, l4, l5, l6, l7, l8, l9, l10, l11, l12, l16, l18, l19, l20, l21, l24, l96, l128, l100, l144, l200, l256, l288, l1536, l1728, l1800, bnd, nI_add, pk_mul, pI_sub, pI_m1, pT_le, pF_le, pT_lt, pF_lt, pT_eq, pF_eq, pF_m1, mF_eq, mT_eq, mT_lt, mF_le, lm1, rd_nI, wr_nI, cl_nI, pk_us, un_ne, pk_uLs, uL_ne, zI_uI, zI_uJ, zI_uA, zI_uB, zI_uR, zI_uN, zJ_uI, zJ_uJ, zJ_uA, zJ_uB, zJ_uR, zJ_uN, zA_uI, zA_uJ, zA_uA, zA_uB, zA_uR, zA_uN, zB_uI, zB_uJ, zB_uA, zB_uB, zB_uR, zB_uN, zR_uI, zR_uJ, zR_uA, zR_uB, zR_uR, zR_uN, zN_uI, zN_uJ, zN_uA, zN_uB, zN_uR, zN_uN, zI_ne, zJ_ne, zA_ne, zB_ne, zR_ne, zN_ne, bi_T, bi_F, nz16, ↓reduceIte, not_true_eq_false, not_false_eq_true, Bool.false_eq_true, reduceCtorEq, hs, h1, e]
  · right
    refine ⟨e, ?_⟩
    have hne : (if t.1 < 1000 then t.1 else 1000) ≠ x := by split <;> omega
    have hlt : (if t.1 < 1000 then t.1 else 1000) < 2147483648 := by split <;> omega
    generalize (if t.1 < 1000 then t.1 else 1000) = y at *
    unfold fX5_takes_p
    simp (disch := omega) only [l0, l1, l2, l3, l4, l5, l6, l7, l8, l9, l10, l11, l12, l16, l18, l19, l20, l21, l24, l96, l128, l100, l144, l200, l256, l288, l1536, l1728, l1800, bnd, nI_add, pk_mul, pI_sub, pI_m1, pT_le, pF_le, pT_lt, pF_lt, pT_eq, pF_eq, pF_m1, mF_eq, mT_eq, mT_lt, mF_le, lm1, rd_nI, wr_nI, cl_nI, pk_us, un_ne, pk_uLs, uL_ne, zI_uI, zI_uJ, zI_uA, zI_uB, zI_uR, zI_uN, zJ_uI, zJ_uJ, zJ_uA, zJ_uB, zJ_uR, zJ_uN, zA_uI, zA_uJ, zA_uA, zA_uB, zA_uR, zA_uN, zB_uI, zB_uJ, zB_uA, zB_uB, zB_uR, zB_uN, zR_uI, zR_uJ, zR_uA, zR_uB, zR_uR, zR_uN, zN_uI, zN_uJ, zN_uA, zN_uB, zN_uR, zN_uN, zI_ne, zJ_ne, zA_ne, zB_ne, zR_ne, zN_ne, bi_T, bi_F, nz16, ↓reduceIte, not_true_eq_false, not_false_eq_true, Bool.false_eq_true, reduceCtorEq, hs]
theorem c_takesF_p {τ : St} {p x : Nat} (h : Fp τ p) (hx : x < 257) : fX5_takes_p τ (nI x) = some (false, τ) := by
  have hs := c_signF_p h
  unfold fX5_takes_p
  simp (disch := omega) only [l0, l1, l2, l3, l4, l5, l6, l7, l8, l9, l10, l11, l12, l16, l18, l19, l20, l21, l24, l96, l128, l100, l144, l200, l256, l288, l1536, l1728, l1800, bnd, nI_add, pk_mul, pI_sub, pI_m1, pT_le, pF_le, pT_lt, pF_lt, pT_eq, pF_eq, pF_m1, mF_eq, mT_eq, mT_lt, mF_le, lm1, rd_nI, wr_nI, cl_nI, pk_us, un_ne, pk_uLs, uL_ne, zI_uI, zI_uJ, zI_uA, zI_uB, zI_uR, zI_uN, zJ_uI, zJ_uJ, zJ_uA, zJ_uB, zJ_uR, zJ_uN, zA_uI, zA_uJ, zA_uA, zA_uB, zA_uR, zA_uN, zB_uI, zB_uJ, zB_uA, zB_uB, zB_uR, zB_uN, zR_uI, zR_uJ, zR_uA, zR_uB, zR_uR, zR_uN, zN_uI, zN_uJ, zN_uA, zN_uB, zN_uR, zN_uN, zI_ne, zJ_ne, zA_ne, zB_ne, zR_ne, zN_ne, bi_T, bi_F, nz16, ↓reduceIte, not_true_eq_false, not_false_eq_true, Bool.false_eq_true, reduceCtorEq, hs]
theorem c_needs_p {τ : St} {T R : List Tk} {t : Tk} {x : Nat} (h : Cp τ T (t :: R)) (ht : t.1 < 4611686018427387904) (ht2 : t.2 < 1000) (hx : x < 1000) : (t.1 = x ∧ ∃ k, fX5_needs_p τ (nI x) = some (uI τ 6 (nI k)) ∧ Cp (uI τ 6 (nI k)) T R) ∨ (t.1 ≠ x ∧ fX5_needs_p τ (nI x) = some (uI τ 7 (nI t.2)) ∧ Fp (uI τ 7 (nI t.2)) t.2) := by
  have hs := c_sign_p h ht
  by_cases e : t.1 = x
  · left
    obtain ⟨k, hk, h1, h2, h3, h4⟩ := h.at
    rw [if_pos (by omega)] at hs
    refine ⟨e, k + 1, ?_, h4⟩
    unfold fX5_needs_p
    simp (disch := omega) only [l0, l1, l2, l3, l4, l5, l6, l7, l8, l9, l10, l11, l12, l16, l18, l19, l20, l21, l24, l96, l128, l100, l144, l200, l256, l288, l1536, l1728, l1800, bnd, nI_add, pk_mul, pI_sub, pI_m1, pT_le, pF_le, pT_lt, pF_lt, pT_eq, pF_eq, pF_m1, mF_eq, mT_eq, mT_lt, mF_le, lm1, rd_nI, wr_nI, cl_nI, pk_us, un_ne, pk_uLs, uL_ne, zI_uI, zI_uJ, zI_uA, zI_uB, zI_uR, zI_uN, zJ_uI, zJ_uJ, zJ_uA, zJ_uB, zJ_uR, zJ_uN, zA_uI, zA_uJ, zA_uA, zA_uB, zA_uR, zA_uN, zB_uI, zB_uJ, zB_uA, zB_uB, zB_uR, zB_uN, zR_uI, zR_uJ, zR_uA, zR_uB, zR_uR, zR_uN, zN_uI, zN_uJ, zN_uA, zN_uB, zN_uR, zN_uN, zI_ne, zJ_ne, zA_ne, zB_ne, zR_ne, zN_ne, bi_T, bi_F, nz16, ↓reduceIte, not_true_eq_false, not_false_eq_true, Bool.false_eq_true, reduceCtorEq, hs, h1, e]
  · right
    obtain ⟨h5, h6⟩ := c_spoil_p h ht2
    refine ⟨e, ?_, h6⟩
    have hne : (if t.1 < 1000 then t.1 else 1000) ≠ x := by split <;> omega
    have hlt : (if t.1 < 1000 then t.1 else 1000) < 2147483648 := by split <;> omega
    generalize (if t.1 < 1000 then t.1 else 1000) = y at *
    unfold fX5_needs_p
    simp (disch := omega) only [l0, l1, l2, l3, l4, l5, l6, l7, l8, l9, l10, l11, l12, l16, l18, l19, l20, l21, l24, l96, l128, l100, l144, l200, l256, l288, l1536, l1728, l1800, bnd, nI_add, pk_mul, pI_sub, pI_m1, pT_le, pF_le, pT_lt, pF_lt, pT_eq, pF_eq, pF_m1, mF_eq, mT_eq, mT_lt, mF_le, lm1, rd_nI, wr_nI, cl_nI, pk_us, un_ne, pk_uLs, uL_ne, zI_uI, zI_uJ, zI_uA, zI_uB, zI_uR, zI_uN, zJ_uI, zJ_uJ, zJ_uA, zJ_uB, zJ_uR, zJ_uN, zA_uI, zA_uJ, zA_uA, zA_uB, zA_uR, zA_uN, zB_uI, zB_uJ, zB_uA, zB_uB, zB_uR, zB_uN, zR_uI, zR_uJ, zR_uA, zR_uB, zR_uR, zR_uN, zN_uI, zN_uJ, zN_uA, zN_uB, zN_uR, zN_uN, zI_ne, zJ_ne, zA_ne, zB_ne, zR_ne, zN_ne, bi_T, bi_F, nz16, ↓reduceIte, not_true_eq_false, not_false_eq_true, Bool.false_eq_true, reduceCtorEq, hs, h5]
theorem c_needsF_p {τ : St} {p x : Nat} (h : Fp τ p) (hx : x < 257) : fX5_needs_p τ (nI x) = some τ := by
  have hs := c_signF_p h
  have h5 := c_spoilF_p h
  unfold fX5_needs_p
  simp (disch := omega) only [l0, l1, l2, l3, l4, l5, l6, l7, l8, l9, l10, l11, l12, l16, l18, l19, l20, l21, l24, l96, l128, l100, l144, l200, l256, l288, l1536, l1728, l1800, bnd, nI_add, pk_mul, pI_sub, pI_m1, pT_le, pF_le, pT_lt, pF_lt, pT_eq, pF_eq, pF_m1, mF_eq, mT_eq, mT_lt, mF_le, lm1, rd_nI, wr_nI, cl_nI, pk_us, un_ne, pk_uLs, uL_ne, zI_uI, zI_uJ, zI_uA, zI_uB, zI_uR, zI_uN, zJ_uI, zJ_uJ, zJ_uA, zJ_uB, zJ_uR, zJ_uN, zA_uI, zA_uJ, zA_uA, zA_uB, zA_uR, zA_uN, zB_uI, zB_uJ, zB_uA, zB_uB, zB_uR, zB_uN, zR_uI, zR_uJ, zR_uA, zR_uB, zR_uR, zR_uN, zN_uI, zN_uJ, zN_uA, zN_uB, zN_uR, zN_uN, zI_ne, zJ_ne, zA_ne, zB_ne, zR_ne, zN_ne, bi_T, bi_F, nz16, ↓reduceIte, not_true_eq_false, not_false_eq_true, Bool.false_eq_true, reduceCtorEq, hs, h5]
