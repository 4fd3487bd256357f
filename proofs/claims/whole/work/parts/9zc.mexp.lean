/-! the model reads a habit: atoms, terms, sums *-/
def EM (σ : St) (e : En) : Prop := ∀ s v, e s = some v → zA σ 59 s = iI v
theorem EM.fr {σ υ : St} {e : En} (h : EM σ e) (f : HM σ υ) : EM υ e := by
  unfold EM
  rw [f.1 59 (by decide)]
  exact h
theorem HM.tr {σ τ υ : St} (h : HM σ τ) (k : HM τ υ) : HM σ υ := FR.tr h k
theorem HM.of {σ τ : St} {K : List Nat} (h : FR [] [] K [] σ τ) (hK : ∀ q, q ∈ K → q ∈ [37, 38, 39]) : HM σ τ := h.mono (by decide) (by decide) hK (by decide)
theorem sbv_dig : ∀ b, b < 256 → ((¬ sbv b < nI 48 ∧ ¬ nI 57 < sbv b) ↔ (48 ≤ b ∧ b ≤ 57)) := by decide +kernel
theorem sbv_nI : ∀ b, b < 128 → sbv b = nI b := by decide +kernel
theorem m_isDigit {σ : St} {q b0 p : Nat} {bs : List Nat} (h : MX σ q b0 bs p) : fX12_isDigit σ = some (decide (p < bs.length ∧ Jh (bs.getD p 0) = true)) := by
  have h35 := h.2.2.1
  have h36 := h.2.2.2.1
  have h37 := h.2.2.2.2.1
  have h200 := h.2.2.2.2.2.2.2.2.1
  have hpn := h.2.2.2.2.2.2.2.1
  unfold fX12_isDigit
  by_cases hp : p < bs.length
  · have hrd := h.rd hp
    have hbb := h.2.2.2.2.2.2.2.2.2 _ (getD_mem (d := 0) hp)
    have hl := sbv_dig _ hbb.2
    by_cases hj : Jh (bs.getD p 0) = true
    · rw [decide_eq_true ⟨hp, hj⟩]
      obtain ⟨h1, h2⟩ := hl.mpr (of_decide_eq_true hj)
      simp (disch := omega) only [l0, l1, l2, l3, l4, l5, l6, l7, l8, l9, l10, l11, l12, l16, l18, l19, l20, l21, l24, l96, l128, l100, l144, l200, l256, l288, l1536, l1728, l1800, bnd, nI_add, pk_mul, pI_sub, pI_m1, pT_le, pF_le, pT_lt, pF_lt, pT_eq, pF_eq, pF_m1, mF_eq, mT_eq, mT_lt, mF_le, lm1, rd_nI, wr_nI, cl_nI, pk_us, un_ne, pk_uLs, uL_ne, zI_uI, zI_uJ, zI_uA, zI_uB, zI_uR, zI_uN, zJ_uI, zJ_uJ, zJ_uA, zJ_uB, zJ_uR, zJ_uN, zA_uI, zA_uJ, zA_uA, zA_uB, zA_uR, zA_uN, zB_uI, zB_uJ, zB_uA, zB_uB, zB_uR, zB_uN, zR_uI, zR_uJ, zR_uA, zR_uB, zR_uR, zR_uN, zN_uI, zN_uJ, zN_uA, zN_uB, zN_uR, zN_uN, zI_ne, zJ_ne, zA_ne, zB_ne, zR_ne, zN_ne, bi_T, bi_F, nz16, ↓reduceIte, not_true_eq_false, not_false_eq_true, Bool.false_eq_true, reduceCtorEq, h36, h37, h35, hrd, l48, l57, if_neg h1, if_neg h2]
    · rw [decide_eq_false (fun x => hj x.2)]
      by_cases h1 : sbv (bs.getD p 0) < nI 48
      · simp (disch := omega) only [l0, l1, l2, l3, l4, l5, l6, l7, l8, l9, l10, l11, l12, l16, l18, l19, l20, l21, l24, l96, l128, l100, l144, l200, l256, l288, l1536, l1728, l1800, bnd, nI_add, pk_mul, pI_sub, pI_m1, pT_le, pF_le, pT_lt, pF_lt, pT_eq, pF_eq, pF_m1, mF_eq, mT_eq, mT_lt, mF_le, lm1, rd_nI, wr_nI, cl_nI, pk_us, un_ne, pk_uLs, uL_ne, zI_uI, zI_uJ, zI_uA, zI_uB, zI_uR, zI_uN, zJ_uI, zJ_uJ, zJ_uA, zJ_uB, zJ_uR, zJ_uN, zA_uI, zA_uJ, zA_uA, zA_uB, zA_uR, zA_uN, zB_uI, zB_uJ, zB_uA, zB_uB, zB_uR, zB_uN, zR_uI, zR_uJ, zR_uA, zR_uB, zR_uR, zR_uN, zN_uI, zN_uJ, zN_uA, zN_uB, zN_uR, zN_uN, zI_ne, zJ_ne, zA_ne, zB_ne, zR_ne, zN_ne, bi_T, bi_F, nz16, ↓reduceIte, not_true_eq_false, not_false_eq_true, Bool.false_eq_true, reduceCtorEq, h36, h37, h35, hrd, l48, if_pos h1]
      · by_cases h2 : nI 57 < sbv (bs.getD p 0)
        · simp (disch := omega) only [l0, l1, l2, l3, l4, l5, l6, l7, l8, l9, l10, l11, l12, l16, l18, l19, l20, l21, l24, l96, l128, l100, l144, l200, l256, l288, l1536, l1728, l1800, bnd, nI_add, pk_mul, pI_sub, pI_m1, pT_le, pF_le, pT_lt, pF_lt, pT_eq, pF_eq, pF_m1, mF_eq, mT_eq, mT_lt, mF_le, lm1, rd_nI, wr_nI, cl_nI, pk_us, un_ne, pk_uLs, uL_ne, zI_uI, zI_uJ, zI_uA, zI_uB, zI_uR, zI_uN, zJ_uI, zJ_uJ, zJ_uA, zJ_uB, zJ_uR, zJ_uN, zA_uI, zA_uJ, zA_uA, zA_uB, zA_uR, zA_uN, zB_uI, zB_uJ, zB_uA, zB_uB, zB_uR, zB_uN, zR_uI, zR_uJ, zR_uA, zR_uB, zR_uR, zR_uN, zN_uI, zN_uJ, zN_uA, zN_uB, zN_uR, zN_uN, zI_ne, zJ_ne, zA_ne, zB_ne, zR_ne, zN_ne, bi_T, bi_F, nz16, ↓reduceIte, not_true_eq_false, not_false_eq_true, Bool.false_eq_true, reduceCtorEq, h36, h37, h35, hrd, l48, l57, if_neg h1, if_pos h2]
        · exact absurd (decide_eq_true (hl.mp ⟨h1, h2⟩)) hj
  · rw [decide_eq_false (fun x => hp x.1)]
    simp (disch := omega) only [l0, l1, l2, l3, l4, l5, l6, l7, l8, l9, l10, l11, l12, l16, l18, l19, l20, l21, l24, l96, l128, l100, l144, l200, l256, l288, l1536, l1728, l1800, bnd, nI_add, pk_mul, pI_sub, pI_m1, pT_le, pF_le, pT_lt, pF_lt, pT_eq, pF_eq, pF_m1, mF_eq, mT_eq, mT_lt, mF_le, lm1, rd_nI, wr_nI, cl_nI, pk_us, un_ne, pk_uLs, uL_ne, zI_uI, zI_uJ, zI_uA, zI_uB, zI_uR, zI_uN, zJ_uI, zJ_uJ, zJ_uA, zJ_uB, zJ_uR, zJ_uN, zA_uI, zA_uJ, zA_uA, zA_uB, zA_uR, zA_uN, zB_uI, zB_uJ, zB_uA, zB_uB, zB_uR, zB_uN, zR_uI, zR_uJ, zR_uA, zR_uB, zR_uR, zR_uN, zN_uI, zN_uJ, zN_uA, zN_uB, zN_uR, zN_uN, zI_ne, zJ_ne, zA_ne, zB_ne, zR_ne, zN_ne, bi_T, bi_F, nz16, ↓reduceIte, not_true_eq_false, not_false_eq_true, Bool.false_eq_true, reduceCtorEq, h36, h37]
theorem m_digits {σ : St} {q b0 p : Nat} {bs : List Nat} {rec : St → Option (Int32 × St)} (h : MX σ q b0 bs p) (hl : p < bs.length) (hj : Jh (bs.getD p 0) = true) : ∃ (v : Nat) (c : Int32) (υ : St), v < 10000 ∧ FR [] [] [37, 38] [] σ υ ∧ fX12_atom_J86 rec σ = some (c, υ) ∧ ((c = nI v ∧ ∃ p', MX υ q b0 bs p' ∧ tkR Jh 4 gh bs p = (1000 + v, p) :: tkR Jh 4 gh bs p') ∨ (zI υ 38 = nI (p + 4) ∧ ∃ R, tkR Jh 4 gh bs p = (1000 + v, p) :: (257, p + 4) :: R)) := by
  have h200 := h.2.2.2.2.2.2.2.2.1
  have key := it_for (β := St × Nat) (body := fun (kb : (St × Int32 × Int32) → Option (Int32 × St)) (t : St × Int32 × Int32) => fX12_atom_L90 rec (fun s8 => (fX12_fails s8).bind fun r9 => some ((0 : Int32), r9.2)) (fun σ v2 v3 => kb (σ, v2, v3)) t.1 t.2.1 t.2.2) 4 (by omega) (fun i b => (b.1, nI b.2, nI i)) (fun i b => b.2 < 10 ^ i ∧ FR [] [] [37, 38] [] σ b.1 ∧ MX b.1 q b0 bs (p + i) ∧ (0 < i → tkR Jh 4 gh bs p = tkW Jh 4 gh bs (p + i) i b.2 p) ∧ (i = 0 → b.2 = 0)) (fun i b z => ∃ (v : Nat) (c : Int32) (υ : St), v < 10000 ∧ FR [] [] [37, 38] [] σ υ ∧ z = some (c, υ) ∧ ((c = nI v ∧ ∃ p', MX υ q b0 bs p' ∧ tkR Jh 4 gh bs p = (1000 + v, p) :: tkR Jh 4 gh bs p') ∨ (zI υ 38 = nI (p + 4) ∧ ∃ R, tkR Jh 4 gh bs p = (1000 + v, p) :: (257, p + 4) :: R))) ?_ 0 (σ, 0) (Nat.zero_le _) ⟨(by show 0 < 10 ^ 0; decide), FR.rf _ _ _ _ _, h, (fun hx => absurd hx (Nat.lt_irrefl _)), fun _ => rfl⟩
  · exact key
  · rintro i ⟨y, v⟩ hi ⟨jv, jF, jM, jt, j0⟩ kb hkb
    have hv : v < 10 ^ i := jv
    have hF : FR [] [] [37, 38] [] σ y := jF
    have hM : MX y q b0 bs (p + i) := jM
    have ht : 0 < i → tkR Jh 4 gh bs p = tkW Jh 4 gh bs (p + i) i v p := jt
    have h0 : i = 0 → v = 0 := j0
    clear jv jF jM jt j0
    have h4 : (10 : Nat) ^ i ≤ 10 ^ 4 := Nat.pow_le_pow_right (by decide) hi
    have e4 : (10 : Nat) ^ 4 = 10000 := by decide
    have hdi := m_isDigit hM
    have h38 := hM.2.2.2.2.2.1
    have h37 := hM.2.2.2.2.1
    have h35 := hM.2.2.1
    show ∃ v' c υ, _ ∧ _ ∧ fX12_atom_L90 rec _ (fun σ v2 v3 => kb (σ, v2, v3)) y (nI v) (nI i) = _ ∧ _
    unfold fX12_atom_L90
    by_cases hx : p + i < bs.length ∧ Jh (bs.getD (p + i) 0) = true
    · rw [decide_eq_true hx] at hdi
      by_cases hi4 : i = 4
      · have hf := m_fails hM
        obtain ⟨R, eR⟩ := tkW_over (v := v) (s := p) (M := 4) (gr := gh) (r := i) hx.1 hx.2 (by omega)
        refine ⟨v, nI 0, uI y 38 (nI (p + i)), by omega, FR.uI hF (by decide), ?_, .inr ⟨by rw [zI_uI, hi4], R, ?_⟩⟩
        · rw [hi4] at hf
          simp (disch := omega) only [l0, l1, l2, l3, l4, l5, l6, l7, l8, l9, l10, l11, l12, l16, l18, l19, l20, l21, l24, l96, l128, l100, l144, l200, l256, l288, l1536, l1728, l1800, bnd, nI_add, pk_mul, pI_sub, pI_m1, pT_le, pF_le, pT_lt, pF_lt, pT_eq, pF_eq, pF_m1, mF_eq, mT_eq, mT_lt, mF_le, lm1, rd_nI, wr_nI, cl_nI, pk_us, un_ne, pk_uLs, uL_ne, zI_uI, zI_uJ, zI_uA, zI_uB, zI_uR, zI_uN, zJ_uI, zJ_uJ, zJ_uA, zJ_uB, zJ_uR, zJ_uN, zA_uI, zA_uJ, zA_uA, zA_uB, zA_uR, zA_uN, zB_uI, zB_uJ, zB_uA, zB_uB, zB_uR, zB_uN, zR_uI, zR_uJ, zR_uA, zR_uB, zR_uR, zR_uN, zN_uI, zN_uJ, zN_uA, zN_uB, zN_uR, zN_uN, zI_ne, zJ_ne, zA_ne, zB_ne, zR_ne, zN_ne, bi_T, bi_F, nz16, ↓reduceIte, not_true_eq_false, not_false_eq_true, Bool.false_eq_true, reduceCtorEq, hdi, h38, mI_eq, hi4, hf]
        · rw [ht (by omega), eR, hi4]
      · have hjd := of_decide_eq_true hx.2
        have hrd := hM.rd hx.1
        have hsb := sbv_nI (bs.getD (p + i) 0) (by omega)
        rw [hsb] at hrd
        have hsub : nI (10 * v + bs.getD (p + i) 0) - nI 48 = nI (10 * v + (bs.getD (p + i) 0 - 48)) := by
          rw [pI_sub (by omega)]
          congr 1
          omega
        have hnv : 10 * v + (bs.getD (p + i) 0 - 48) < 10 ^ (i + 1) := by
          rw [Nat.pow_succ]
          omega
        obtain ⟨v', c, υ, k1, k2, k3, k4⟩ := hkb (uI y 37 (nI (p + i + 1)), 10 * v + (bs.getD (p + i) 0 - 48)) (by omega) ⟨hnv, FR.uI hF (by decide), hM.at (by omega), fun _ => by
          show _ = tkW Jh 4 gh bs (p + (i + 1)) (i + 1) (10 * v + (bs.getD (p + i) 0 - 48)) p
          by_cases e0 : i = 0
          · have hv0 := h0 e0
            rw [tkR_join hl hj, hv0]
            subst e0
            rfl
          · rw [ht (by omega), tkW_join hx.1 hx.2 (by omega)]
            rfl, fun hx => by omega⟩
        refine ⟨v', c, υ, k1, k2, ?_, k4⟩
        rw [← k3]
        simp (disch := omega) only [l0, l1, l2, l3, l4, l5, l6, l7, l8, l9, l10, l11, l12, l16, l18, l19, l20, l21, l24, l96, l128, l100, l144, l200, l256, l288, l1536, l1728, l1800, bnd, nI_add, pk_mul, pI_sub, pI_m1, pT_le, pF_le, pT_lt, pF_lt, pT_eq, pF_eq, pF_m1, mF_eq, mT_eq, mT_lt, mF_le, lm1, rd_nI, wr_nI, cl_nI, pk_us, un_ne, pk_uLs, uL_ne, zI_uI, zI_uJ, zI_uA, zI_uB, zI_uR, zI_uN, zJ_uI, zJ_uJ, zJ_uA, zJ_uB, zJ_uR, zJ_uN, zA_uI, zA_uJ, zA_uA, zA_uB, zA_uR, zA_uN, zB_uI, zB_uJ, zB_uA, zB_uB, zB_uR, zB_uN, zR_uI, zR_uJ, zR_uA, zR_uB, zR_uR, zR_uN, zN_uI, zN_uJ, zN_uA, zN_uB, zN_uR, zN_uN, zI_ne, zJ_ne, zA_ne, zB_ne, zR_ne, zN_ne, bi_T, bi_F, nz16, ↓reduceIte, not_true_eq_false, not_false_eq_true, Bool.false_eq_true, reduceCtorEq, hdi, h38, mI_eq, h35, h37, hrd, l48, hsub]
    · rw [decide_eq_false hx] at hdi
      have hi0 : i ≠ 0 := fun e => by
        rw [e] at hx
        exact hx ⟨hl, hj⟩
      refine ⟨v, nI v, y, by omega, hF, ?_, .inl ⟨rfl, p + i, hM, ?_⟩⟩
      · simp (disch := omega) only [l0, l1, l2, l3, l4, l5, l6, l7, l8, l9, l10, l11, l12, l16, l18, l19, l20, l21, l24, l96, l128, l100, l144, l200, l256, l288, l1536, l1728, l1800, bnd, nI_add, pk_mul, pI_sub, pI_m1, pT_le, pF_le, pT_lt, pF_lt, pT_eq, pF_eq, pF_m1, mF_eq, mT_eq, mT_lt, mF_le, lm1, rd_nI, wr_nI, cl_nI, pk_us, un_ne, pk_uLs, uL_ne, zI_uI, zI_uJ, zI_uA, zI_uB, zI_uR, zI_uN, zJ_uI, zJ_uJ, zJ_uA, zJ_uB, zJ_uR, zJ_uN, zA_uI, zA_uJ, zA_uA, zA_uB, zA_uR, zA_uN, zB_uI, zB_uJ, zB_uA, zB_uB, zB_uR, zB_uN, zR_uI, zR_uJ, zR_uA, zR_uB, zR_uR, zR_uN, zN_uI, zN_uJ, zN_uA, zN_uB, zN_uR, zN_uN, zI_ne, zJ_ne, zA_ne, zB_ne, zR_ne, zN_ne, bi_T, bi_F, nz16, ↓reduceIte, not_true_eq_false, not_false_eq_true, Bool.false_eq_true, reduceCtorEq, hdi]
      · rw [ht (by omega)]
        by_cases he : p + i < bs.length
        · exact tkW_stop he (by
            cases hjj : Jh (bs.getD (p + i) 0) with
            | true => exact absurd ⟨he, hjj⟩ hx
            | false => rfl)
        · exact tkW_end (by omega)
/-- what reading at a place does on the model's side -/
def mOK (q b0 : Nat) (bs : List Nat) (e : En) (N dp : Nat) (f : St → Option (Int32 × St)) (s : Sx → Int × Sx) : Prop := ∀ σ x N', N' ≤ N → MG σ q b0 bs x → gX N' x → zI σ 39 = nI dp → ∃ v υ, f σ = some (v, υ) ∧ HM σ υ ∧ ((MG υ q b0 bs (s x).2 ∧ zI υ 39 = nI dp ∧ (EM σ e → v = iI (s x).1)) ∨ MB υ (s x).2)
theorem tmL_flt {at' : Sx → Int × Sx} {x : Sx} {f : Nat} (h : flt x f) (n : Nat) (v : Int) : tmL at' n v x = (v, x) := by
  cases n with
  | zero => rfl
  | succ n =>
    have hs := flt_sg h
    unfold tmL
    rw [if_neg (by omega), if_neg (by omega)]
theorem smL_flt {tm : Sx → Int × Sx} {x : Sx} {f : Nat} (h : flt x f) (n : Nat) (v : Int) : smL tm n v x = (v, x) := by
  cases n with
  | zero => rfl
  | succ n =>
    have hs := flt_sg h
    unfold smL
    rw [if_neg (by omega), if_neg (by omega)]
theorem nzl_ok {ρ : Type} {x : Int64} {o : Option ρ} (h : ¬ lg_cmp x (lN 0) = nI 0) : nzl x o = o := by
  apply if_neg
  intro e
  apply h
  rw [e]
  exact (lg_cmp_eq _ _).mpr rfl
theorem m_tmS {q b0 N dp : Nat} {bs : List Nat} {e : En} {rec : St → Option (Int32 × St)} {s : Sx → Int × Sx} (hN201 : N ≤ 201) (hr : mOK q b0 bs e N dp rec s) (hg : gOK N s) : mOK q b0 bs e N dp (fun σ => fX12_term_B rec σ) (tmS s) := by
  intro σ x N' hN hG hx h39
  obtain ⟨v0, υ0, h1, h2, h3⟩ := hr σ x N' hN hG hx h39
  obtain ⟨g1, g2⟩ := hg N' x hN hx
  have key := it_for (β := St × Int32 × Int × Sx × Nat) (body := fun (kb : (St × Int32) → Option (Int32 × St)) (t : St × Int32) => fX12_term_L5 rec (fun σ v1 => kb (σ, v1)) t.1 t.2) 200 (by omega) (fun i b => (b.1, b.2.1)) (fun i b => tmL s 200 (s x).1 (s x).2 = tmL s (200 - i) b.2.2.1 b.2.2.2.1 ∧ b.2.2.2.2 ≤ N ∧ b.2.2.2.2 + i ≤ 201 ∧ gX b.2.2.2.2 b.2.2.2.1 ∧ bnd6 b.2.2.1 ∧ HM σ b.1 ∧ ((MG b.1 q b0 bs b.2.2.2.1 ∧ zI b.1 39 = nI dp ∧ (EM σ e → b.2.1 = iI b.2.2.1)) ∨ MB b.1 b.2.2.2.1)) (fun i b z => ∃ v υ, z = some (v, υ) ∧ HM σ υ ∧ ((MG υ q b0 bs (tmL s 200 (s x).1 (s x).2).2 ∧ zI υ 39 = nI dp ∧ (EM σ e → v = iI (tmL s 200 (s x).1 (s x).2).1)) ∨ MB υ (tmL s 200 (s x).1 (s x).2).2)) ?_ 0 (υ0, v0, (s x).1, (s x).2, N') (Nat.zero_le _) ⟨rfl, hN, (by show N' + 0 ≤ 201; omega), g1, g2, h2, h3⟩
  · obtain ⟨v, υ, k1, k2, k3⟩ := key
    refine ⟨v, υ, ?_, k2, k3⟩
    show fX12_term_B rec σ = some (v, υ)
    unfold fX12_term_B
    rw [h1, bnd]
    exact k1
  · rintro i ⟨z, c, v, w, M⟩ hi ⟨jt, jN, jM, jx, jv, jF, jc⟩ kb hkb
    have ht : tmL s 200 (s x).1 (s x).2 = tmL s (200 - i) v w := jt
    have hM : M ≤ N := jN
    have hMi : M + i ≤ 201 := jM
    have hw : gX M w := jx
    have hv : bnd6 v := jv
    have hFz : HM σ z := jF
    have hcs : (MG z q b0 bs w ∧ zI z 39 = nI dp ∧ (EM σ e → c = iI v)) ∨ MB z w := jc
    clear jt jN jM jx jv jF jc
    show ∃ v' υ, fX12_term_L5 rec (fun σ v1 => kb (σ, v1)) z c = _ ∧ _
    unfold fX12_term_L5
    rcases hcs with ⟨hGz, h39z, hval⟩ | hB
    · have h38 := hGz.m1
      obtain ⟨p, y1, a1, a2, a3, a4, a5⟩ := m_lookS hGz
      have c42 := lk_sg (v := 42) a1 a3 (by decide) (by decide)
      rw [← a2] at c42
      have hG1 : MG y1 q b0 bs w := ⟨p, a1, a2⟩
      have h391 : zI y1 39 = nI dp := (a4.2.2.1 39 (by decide)).trans h39z
      obtain ⟨p2, y2, b1, b2, b3, b4, b5⟩ := m_lookS hG1
      have d42 := lk_sg (v := 42) b1 b3 (by decide) (by decide)
      rw [← b2] at d42
      have c47 := lk_sg (v := 47) b1 b3 (by decide) (by decide)
      rw [← b2] at c47
      have hG2 : MG y2 q b0 bs w := ⟨p2, b1, b2⟩
      have h392 : zI y2 39 = nI dp := (b4.2.2.1 39 (by decide)).trans h391
      have hF2 : HM σ y2 := (hFz.tr (HM.of a4 (by decide))).tr (HM.of b4 (by decide))
      by_cases h42 : sg w = 42
      · -- times
        have hi200 : i < 200 := by
          apply Decidable.byContradiction
          intro hc
          have := gX_1 (gX_mono hw (show M ≤ 1 by omega))
          omega
        obtain ⟨n1, n2, n3, n4, n5⟩ := sg_next b1 b3 (by rw [← b2]; omega)
        rw [← b2] at n4
        have hw1 := gX_tl hw (by omega)
        have h39n : zI (uI y2 37 (nI (p2 + 1))) 39 = nI dp := by rw [zI_ne (by decide)]; exact h392
        obtain ⟨v', y3, r1, r2, r3⟩ := hr (uI y2 37 (nI (p2 + 1))) (tlx w) (M - 1) (by omega) ⟨p2 + 1, n5, n4⟩ hw1 h39n
        obtain ⟨q1, q2⟩ := hg (M - 1) (tlx w) (by omega) hw1
        rw [show 200 - i = (200 - (i + 1)) + 1 by omega] at ht
        have ht : tmL s 200 (s x).1 (s x).2 = if sg w = 42 then tmL s (200 - (i + 1)) (cl6 (v * (s (tlx w)).1)) (s (tlx w)).2 else if sg w = 47 then tmL s (200 - (i + 1)) (if (s (tlx w)).1 = 0 then 0 else cl6 (v.tdiv (s (tlx w)).1)) (s (tlx w)).2 else (v, w) := ht
        rw [if_pos h42] at ht
        have hF3 : HM σ y3 := (hF2.tr (FR.uI (FR.rf _ _ _ _ _) (by decide))).tr r2
        obtain ⟨c', hc1, hc2⟩ := b_tot (c.toInt64 * v'.toInt64)
        obtain ⟨v2, υ, k1, k2, k3⟩ := hkb (y3, c', cl6 (v * (s (tlx w)).1), (s (tlx w)).2, M - 1) hi200 ⟨ht, by show M - 1 ≤ N; omega, by show M - 1 + (i + 1) ≤ 201; omega, q1, cl6_b _, hF3, by
          rcases r3 with ⟨r3, r4, r5⟩ | r3
          · refine .inl ⟨r3, r4, fun hE => ?_⟩
            have e1 := hval hE
            have e2 := r5 (hE.fr (hF2.tr (FR.uI (FR.rf _ _ _ _ _) (by decide))))
            rw [e1, e2, iI_64 (by have := hv.1; omega) (by have := hv.2; omega), iI_64 (by have := q2.1; omega) (by have := q2.2; omega), iL_mul hv q2] at hc1
            have hmb := mul_b hv q2
            rw [c_bounded (by omega) (by omega)] at hc1
            exact (Option.some.inj hc1).symm
          · exact .inr r3⟩
        refine ⟨v2, υ, ?_, k2, k3⟩
        rw [← k1]
        have e1 := c42.mpr h42
        have e2 := d42.mpr h42
        have h372 := b1.2.2.2.2.1
        unfold fX12_term_J31
        simp (disch := omega) only [l0, l1, l2, l3, l4, l5, l6, l7, l8, l9, l10, l11, l12, l16, l18, l19, l20, l21, l24, l96, l128, l100, l144, l200, l256, l288, l1536, l1728, l1800, bnd, nI_add, pk_mul, pI_sub, pI_m1, pT_le, pF_le, pT_lt, pF_lt, pT_eq, pF_eq, pF_m1, mF_eq, mT_eq, mT_lt, mF_le, lm1, rd_nI, wr_nI, cl_nI, pk_us, un_ne, pk_uLs, uL_ne, zI_uI, zI_uJ, zI_uA, zI_uB, zI_uR, zI_uN, zJ_uI, zJ_uJ, zJ_uA, zJ_uB, zJ_uR, zJ_uN, zA_uI, zA_uJ, zA_uA, zA_uB, zA_uR, zA_uN, zB_uI, zB_uJ, zB_uA, zB_uB, zB_uR, zB_uN, zR_uI, zR_uJ, zR_uA, zR_uB, zR_uR, zR_uN, zN_uI, zN_uJ, zN_uA, zN_uB, zN_uR, zN_uN, zI_ne, zJ_ne, zA_ne, zB_ne, zR_ne, zN_ne, bi_T, bi_F, nz16, ↓reduceIte, not_true_eq_false, not_false_eq_true, Bool.false_eq_true, reduceCtorEq, h38, mI_eq, a5, l42, e1, b5, e2, h372, r1, hc2]
      · by_cases h47 : sg w = 47
        · obtain ⟨p3, y3, f1, f2, f3, f4, f5⟩ := m_lookS hG2
          have f42 := lk_sg (v := 42) f1 f3 (by decide) (by decide)
          rw [← f2] at f42
          have hi200 : i < 200 := by
            apply Decidable.byContradiction
            intro hc
            have := gX_1 (gX_mono hw (show M ≤ 1 by omega))
            omega
          have h393 : zI y3 39 = nI dp := (f4.2.2.1 39 (by decide)).trans h392
          obtain ⟨n1, n2, n3, n4, n5⟩ := sg_next f1 f3 (by rw [← f2]; omega)
          rw [← f2] at n4
          have hw1 := gX_tl hw (by omega)
          have h39n : zI (uI y3 37 (nI (p3 + 1))) 39 = nI dp := by rw [zI_ne (by decide)]; exact h393
          obtain ⟨v', y4, r1, r2, r3⟩ := hr (uI y3 37 (nI (p3 + 1))) (tlx w) (M - 1) (by omega) ⟨p3 + 1, n5, n4⟩ hw1 h39n
          obtain ⟨q1, q2⟩ := hg (M - 1) (tlx w) (by omega) hw1
          rw [show 200 - i = (200 - (i + 1)) + 1 by omega] at ht
          have ht : tmL s 200 (s x).1 (s x).2 = if sg w = 42 then tmL s (200 - (i + 1)) (cl6 (v * (s (tlx w)).1)) (s (tlx w)).2 else if sg w = 47 then tmL s (200 - (i + 1)) (if (s (tlx w)).1 = 0 then 0 else cl6 (v.tdiv (s (tlx w)).1)) (s (tlx w)).2 else (v, w) := ht
          rw [if_neg h42, if_pos h47] at ht
          have hF3 : HM σ y3 := hF2.tr (HM.of f4 (by decide))
          have hF4 : HM σ y4 := (hF3.tr (FR.uI (FR.rf _ _ _ _ _) (by decide))).tr r2
          have e1 : ¬ lk bs p = nI 42 := fun h => h42 (c42.mp h)
          have e2 := c47.mpr h47
          have e3 : ¬ lk bs p3 = nI 42 := fun h => h42 (f42.mp h)
          have h373 := f1.2.2.2.2.1
          have hbb : bnd6 (if (s (tlx w)).1 = 0 then 0 else cl6 (v.tdiv (s (tlx w)).1)) := by
            split
            · exact bnd6_0
            · exact cl6_b _
          by_cases hz : lg_cmp v'.toInt64 (lN 0) = nI 0
          · obtain ⟨c', hc1, hc2⟩ := b_tot (lN 0)
            obtain ⟨v2, υ, k1, k2, k3⟩ := hkb (y4, c', (if (s (tlx w)).1 = 0 then 0 else cl6 (v.tdiv (s (tlx w)).1)), (s (tlx w)).2, M - 1) hi200 ⟨ht, by show M - 1 ≤ N; omega, by show M - 1 + (i + 1) ≤ 201; omega, q1, hbb, hF4, by
              rcases r3 with ⟨r3, r4, r5⟩ | r3
              · refine .inl ⟨r3, r4, fun hE => ?_⟩
                have e2 := r5 (hE.fr (hF3.tr (FR.uI (FR.rf _ _ _ _ _) (by decide))))
                rw [e2, iI_64 (by have := q2.1; omega) (by have := q2.2; omega)] at hz
                have hz2 := congrArg Int64.toInt ((lg_cmp_eq _ _).mp hz)
                rw [iL_int (by have := q2.1; omega) (by have := q2.2; omega)] at hz2
                have hz3 : (s (tlx w)).1 = 0 := hz2
                rw [if_pos hz3]
                have hb0 := c_bounded (v := 0) (by omega) (by omega)
                rw [show iL 0 = lN 0 from rfl, hc1] at hb0
                exact Option.some.inj hb0
              · exact .inr r3⟩
            refine ⟨v2, υ, ?_, k2, k3⟩
            rw [← k1]
            unfold fX12_term_J31
            simp (disch := omega) only [l0, l1, l2, l3, l4, l5, l6, l7, l8, l9, l10, l11, l12, l16, l18, l19, l20, l21, l24, l96, l128, l100, l144, l200, l256, l288, l1536, l1728, l1800, bnd, nI_add, pk_mul, pI_sub, pI_m1, pT_le, pF_le, pT_lt, pF_lt, pT_eq, pF_eq, pF_m1, mF_eq, mT_eq, mT_lt, mF_le, lm1, rd_nI, wr_nI, cl_nI, pk_us, un_ne, pk_uLs, uL_ne, zI_uI, zI_uJ, zI_uA, zI_uB, zI_uR, zI_uN, zJ_uI, zJ_uJ, zJ_uA, zJ_uB, zJ_uR, zJ_uN, zA_uI, zA_uJ, zA_uA, zA_uB, zA_uR, zA_uN, zB_uI, zB_uJ, zB_uA, zB_uB, zB_uR, zB_uN, zR_uI, zR_uJ, zR_uA, zR_uB, zR_uR, zR_uN, zN_uI, zN_uJ, zN_uA, zN_uB, zN_uR, zN_uN, zI_ne, zJ_ne, zA_ne, zB_ne, zR_ne, zN_ne, bi_T, bi_F, nz16, ↓reduceIte, not_true_eq_false, not_false_eq_true, Bool.false_eq_true, reduceCtorEq, h38, mI_eq, a5, l42, if_neg e1, b5, l47, e2, f5, if_neg e3, h373, r1, L0, if_pos hz, hc2]
          · obtain ⟨c', hc1, hc2⟩ := b_tot (c.toInt64 / v'.toInt64)
            have hnz := fun (o : Option (Int32 × St)) => nzl_ok (o := o) hz
            obtain ⟨v2, υ, k1, k2, k3⟩ := hkb (y4, c', (if (s (tlx w)).1 = 0 then 0 else cl6 (v.tdiv (s (tlx w)).1)), (s (tlx w)).2, M - 1) hi200 ⟨ht, by show M - 1 ≤ N; omega, by show M - 1 + (i + 1) ≤ 201; omega, q1, hbb, hF4, by
              rcases r3 with ⟨r3, r4, r5⟩ | r3
              · refine .inl ⟨r3, r4, fun hE => ?_⟩
                have e1 := hval hE
                have e2 := r5 (hE.fr (hF3.tr (FR.uI (FR.rf _ _ _ _ _) (by decide))))
                have h64 := iI_64 (v := (s (tlx w)).1) (by have := q2.1; omega) (by have := q2.2; omega)
                rw [e2, h64] at hz
                have hz3 : (s (tlx w)).1 ≠ 0 := fun h0 => hz (by rw [h0]; exact (lg_cmp_eq _ _).mpr rfl)
                rw [if_neg hz3]
                rw [e1, e2, iI_64 (by have := hv.1; omega) (by have := hv.2; omega), h64, iL_div hv q2] at hc1
                have hdb := tdiv_b (b := (s (tlx w)).1) hv
                rw [c_bounded (by have := hdb.1; omega) (by have := hdb.2; omega)] at hc1
                exact (Option.some.inj hc1).symm
              · exact .inr r3⟩
            refine ⟨v2, υ, ?_, k2, k3⟩
            rw [← k1]
            unfold fX12_term_J31
            simp (disch := omega) only [l0, l1, l2, l3, l4, l5, l6, l7, l8, l9, l10, l11, l12, l16, l18, l19, l20, l21, l24, l96, l128, l100, l144, l200, l256, l288, l1536, l1728, l1800, bnd, nI_add, pk_mul, pI_sub, pI_m1, pT_le, pF_le, pT_lt, pF_lt, pT_eq, pF_eq, pF_m1, mF_eq, mT_eq, mT_lt, mF_le, lm1, rd_nI, wr_nI, cl_nI, pk_us, un_ne, pk_uLs, uL_ne, zI_uI, zI_uJ, zI_uA, zI_uB, zI_uR, zI_uN, zJ_uI, zJ_uJ, zJ_uA, zJ_uB, zJ_uR, zJ_uN, zA_uI, zA_uJ, zA_uA, zA_uB, zA_uR, zA_uN, zB_uI, zB_uJ, zB_uA, zB_uB, zB_uR, zB_uN, zR_uI, zR_uJ, zR_uA, zR_uB, zR_uR, zR_uN, zN_uI, zN_uJ, zN_uA, zN_uB, zN_uR, zN_uN, zI_ne, zJ_ne, zA_ne, zB_ne, zR_ne, zN_ne, bi_T, bi_F, nz16, ↓reduceIte, not_true_eq_false, not_false_eq_true, Bool.false_eq_true, reduceCtorEq, h38, mI_eq, a5, l42, if_neg e1, b5, l47, e2, f5, if_neg e3, h373, r1, L0, if_neg hz, hnz, hc2]
        · -- no more
          have he : tmL s (200 - i) v w = (v, w) := by
            cases 200 - i with
            | zero => rfl
            | succ n =>
              unfold tmL
              rw [if_neg h42, if_neg h47]
          rw [he] at ht
          have e1 : ¬ lk bs p = nI 42 := fun h => h42 (c42.mp h)
          have e2 : ¬ lk bs p2 = nI 47 := fun h => h47 (c47.mp h)
          refine ⟨c, y2, ?_, hF2, .inl ⟨by rw [ht]; exact hG2, h392, fun hE => by rw [ht]; exact hval hE⟩⟩
          simp (disch := omega) only [l0, l1, l2, l3, l4, l5, l6, l7, l8, l9, l10, l11, l12, l16, l18, l19, l20, l21, l24, l96, l128, l100, l144, l200, l256, l288, l1536, l1728, l1800, bnd, nI_add, pk_mul, pI_sub, pI_m1, pT_le, pF_le, pT_lt, pF_lt, pT_eq, pF_eq, pF_m1, mF_eq, mT_eq, mT_lt, mF_le, lm1, rd_nI, wr_nI, cl_nI, pk_us, un_ne, pk_uLs, uL_ne, zI_uI, zI_uJ, zI_uA, zI_uB, zI_uR, zI_uN, zJ_uI, zJ_uJ, zJ_uA, zJ_uB, zJ_uR, zJ_uN, zA_uI, zA_uJ, zA_uA, zA_uB, zA_uR, zA_uN, zB_uI, zB_uJ, zB_uA, zB_uB, zB_uR, zB_uN, zR_uI, zR_uJ, zR_uA, zR_uB, zR_uR, zR_uN, zN_uI, zN_uJ, zN_uA, zN_uB, zN_uR, zN_uN, zI_ne, zJ_ne, zA_ne, zB_ne, zR_ne, zN_ne, bi_T, bi_F, nz16, ↓reduceIte, not_true_eq_false, not_false_eq_true, Bool.false_eq_true, reduceCtorEq, h38, mI_eq, a5, l42, if_neg e1, b5, l47, if_neg e2]
    · have h38 := hB.m1
      obtain ⟨f, hf1, hf2, hf3⟩ := hB
      rw [tmL_flt hf1] at ht
      refine ⟨c, z, ?_, hFz, .inr ⟨f, by rw [ht]; exact hf1, hf2, hf3⟩⟩
      simp (disch := omega) only [l0, l1, l2, l3, l4, l5, l6, l7, l8, l9, l10, l11, l12, l16, l18, l19, l20, l21, l24, l96, l128, l100, l144, l200, l256, l288, l1536, l1728, l1800, bnd, nI_add, pk_mul, pI_sub, pI_m1, pT_le, pF_le, pT_lt, pF_lt, pT_eq, pF_eq, pF_m1, mF_eq, mT_eq, mT_lt, mF_le, lm1, rd_nI, wr_nI, cl_nI, pk_us, un_ne, pk_uLs, uL_ne, zI_uI, zI_uJ, zI_uA, zI_uB, zI_uR, zI_uN, zJ_uI, zJ_uJ, zJ_uA, zJ_uB, zJ_uR, zJ_uN, zA_uI, zA_uJ, zA_uA, zA_uB, zA_uR, zA_uN, zB_uI, zB_uJ, zB_uA, zB_uB, zB_uR, zB_uN, zR_uI, zR_uJ, zR_uA, zR_uB, zR_uR, zR_uN, zN_uI, zN_uJ, zN_uA, zN_uB, zN_uR, zN_uN, zI_ne, zJ_ne, zA_ne, zB_ne, zR_ne, zN_ne, bi_T, bi_F, nz16, ↓reduceIte, not_true_eq_false, not_false_eq_true, Bool.false_eq_true, reduceCtorEq, mI_eq, if_neg h38]
