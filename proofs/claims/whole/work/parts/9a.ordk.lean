/-! orders: the class's firstAt; first on both sides -/
theorem c_clearSaid (σ : St) : ∃ υ, FR [40] [] [] [] σ υ ∧ (∀ a, a < 8 → zA υ 40 a = nI 0) ∧ fX2_clearSaid σ = some υ := by
  have key := it_for (β := St) (body := fun (kb : (St × Int32) → Option St) (t : St × Int32) => fX2_clearSaid_L2 (fun σ v1 => kb (σ, v1)) t.1 t.2) 8 (by omega) (fun a τ => (τ, nI a)) (fun a τ => FR [40] [] [] [] σ τ ∧ ∀ b, b < a → zA τ 40 b = nI 0) (fun a τ z => ∃ υ, FR [40] [] [] [] σ υ ∧ (∀ a, a < 8 → zA υ 40 a = nI 0) ∧ z = some υ) ?_ 0 σ (Nat.zero_le _) ⟨FR.rf _ _ _ _ _, fun b hb => absurd hb (Nat.not_lt_zero _)⟩
  · exact key
  · rintro a τ ha ⟨hF, hlo⟩ kb hkb
    show ∃ υ, _ ∧ _ ∧ fX2_clearSaid_L2 (fun σ v1 => kb (σ, v1)) τ (nI a) = _
    unfold fX2_clearSaid_L2
    by_cases h8 : a = 8
    · rw [h8] at hlo
      exact ⟨τ, hF, hlo, by simp (disch := omega) only [l0, l1, l2, l3, l4, l5, l6, l7, l8, l9, l10, l11, l12, l16, l18, l19, l20, l21, l24, l96, l128, l100, l144, l200, l256, l288, l1536, l1728, l1800, bnd, nI_add, pk_mul, pI_sub, pI_m1, pT_le, pF_le, pT_lt, pF_lt, pT_eq, pF_eq, pF_m1, mF_eq, mT_eq, mT_lt, mF_le, lm1, rd_nI, wr_nI, cl_nI, pk_us, un_ne, pk_uLs, uL_ne, zI_uI, zI_uJ, zI_uA, zI_uB, zI_uR, zI_uN, zJ_uI, zJ_uJ, zJ_uA, zJ_uB, zJ_uR, zJ_uN, zA_uI, zA_uJ, zA_uA, zA_uB, zA_uR, zA_uN, zB_uI, zB_uJ, zB_uA, zB_uB, zB_uR, zB_uN, zR_uI, zR_uJ, zR_uA, zR_uB, zR_uR, zR_uN, zN_uI, zN_uJ, zN_uA, zN_uB, zN_uR, zN_uN, zI_ne, zJ_ne, zA_ne, zB_ne, zR_ne, zN_ne, bi_T, bi_F, nz16, ↓reduceIte, not_true_eq_false, not_false_eq_true, Bool.false_eq_true, reduceCtorEq, h8]⟩
    · have nx := hkb (uA τ 40 (upd (zA τ 40) a (nI 0))) (by omega) ⟨FR.uA hF (by decide), fun b hb => by
        by_cases e : b = a
        · rw [e, zA_uA, pk_us]
        · rw [zA_uA, pk_un e]
          exact hlo b (by omega)⟩
      simp (disch := omega) only [l0, l1, l2, l3, l4, l5, l6, l7, l8, l9, l10, l11, l12, l16, l18, l19, l20, l21, l24, l96, l128, l100, l144, l200, l256, l288, l1536, l1728, l1800, bnd, nI_add, pk_mul, pI_sub, pI_m1, pT_le, pF_le, pT_lt, pF_lt, pT_eq, pF_eq, pF_m1, mF_eq, mT_eq, mT_lt, mF_le, lm1, rd_nI, wr_nI, cl_nI, pk_us, un_ne, pk_uLs, uL_ne, zI_uI, zI_uJ, zI_uA, zI_uB, zI_uR, zI_uN, zJ_uI, zJ_uJ, zJ_uA, zJ_uB, zJ_uR, zJ_uN, zA_uI, zA_uJ, zA_uA, zA_uB, zA_uR, zA_uN, zB_uI, zB_uJ, zB_uA, zB_uB, zB_uR, zB_uN, zR_uI, zR_uJ, zR_uA, zR_uB, zR_uR, zR_uN, zN_uI, zN_uJ, zN_uA, zN_uB, zN_uR, zN_uN, zI_ne, zJ_ne, zA_ne, zB_ne, zR_ne, zN_ne, bi_T, bi_F, nz16, ↓reduceIte, not_true_eq_false, not_false_eq_true, Bool.false_eq_true, reduceCtorEq]
      exact nx
/-- where the class keeps what is to come at a state, behind who spoke last -/
def SK (τ : St) (g : Gh) (S st last k : Nat) : Prop := k < zN τ 45 ∧ zB τ 45 k = lN (xw (xL g S st last))
theorem SK.fr {σ τ : St} {g : Gh} {S st last k : Nat} {A B K N : List Nat} (h : SK σ g S st last k) (f : FR A B K N σ τ) (hB : 45 ∉ B) (hN : 45 ∉ N) : SK τ g S st last k := by
  unfold SK
  rw [f.2.1 45 hB, f.2.2.2.1 45 hN]
  exact h
theorem TD.fr {σ τ : St} {g : Gh} {S : Nat} {A B K N : List Nat} (h : TD σ g S) (f : FR A B K N σ τ) (hA : ∀ q, q ∈ [35, 36, 37, 38, 39] → q ∉ A) (hB : 45 ∉ B) (hK : ∀ q, q ∈ [21, 22] → q ∉ K) (hN : 45 ∉ N) : TD τ g S :=
  ⟨h.1.fr f hA hK hN, h.2.1.fr f hB, by rw [f.2.1 45 hB]; exact h.2.2⟩
theorem SK_next {τ : St} {g : Gh} {S st a : Nat} (h : TD τ g S) (hst : st < rx (zs g S) 8) (ha : a < am S) (hs : sd (zs g S) st (rho S a) < zs g S (rho S a)) : SK τ g S (st + rx (zs g S) (rho S a)) (rho S a + 1) ((st + rx (zs g S) (rho S a)) * am S + a) := by
  have hS := h.1.1
  have h1 := rho_am S hS.1
  have hi := rho_in S hS.1 a (by omega) ha
  have hroom := sd_room hs hi.1 hst
  have hxp := rx_pos (zs g S) (rho S a)
  have hslt := slot_lt hroom ha
  exact ⟨Nat.lt_trans hslt h.1.2.2.2.2.2.2.1, h.2.1 _ a (by omega) hroom ha (by rw [sd_same hs]; omega)⟩
theorem c_lowest {τ : St} {g : Gh} {S st last x k : Nat} (hg : okG g) (hT : TD τ g S) (hst : st < rx (zs g S) 8) (hm : 0 < rm (zs g S) st 8) (hx : LC g S st last x) (hD : SD τ g S st) (hk : SK τ g S st last k) : ∃ a υ, a < am S ∧ rho S a = xW g S st last ∧ FR [41, 42] [43] [] [] τ υ ∧ fX2_lowestBest τ (nI st) (nI x) (nI k) = some (nI a, υ) := by
  have hS := hT.1.1
  have hs := hT.1.2.1
  have h1 := rho_am S hS.1
  have hw := xW_is (last := last) hs hm
  have hle := xL_le (st := st) (last := last) hs
  obtain ⟨υ, h2, h3, h4⟩ := c_lookAhead hg hT.1 hst hD (fun s b h5 h6 h7 h8 => hT.2.1 s b (by omega) h6 h7 h8)
  have hT2 : TD υ g S := hT.fr h2 (by decide) (by decide) (by decide) (by decide)
  have hk2 := hk.fr h2 (by decide) (by decide)
  have hga := c_gapsAt (τ := υ) hk2.1 hT2.1.2.2.2.2.2.2.2 (by omega) hk2.2
  have hbit : S.testBit (xW g S st last) = true := by
    cases hb : S.testBit (xW g S st last) with
    | true => rfl
    | false =>
      have := hw.2.1.1
      rw [zs_out (g := g) hb] at this
      omega
  obtain ⟨a0, ha0, hr0⟩ := rho_onto hS.1 hw.1 hbit
  refine ⟨a0, υ, ha0, hr0, h2, ?_⟩
  have h21 := hT2.1.2.2.2.1
  have key := it_for (β := Unit) (body := fun (kb : Int32 → Option (Int32 × St)) (t : Int32) => fX2_lowestBest_L8 (nI x) (nI k) (fun v4 => kb v4) υ t) a0 (by omega) (fun r _ => nI r) (fun _ _ => True) (fun _ _ z => z = some (nI a0, υ)) ?_ 0 () (Nat.zero_le _) trivial
  · unfold fX2_lowestBest
    rw [h4]
    exact key
  · intro a _ ha _ kb hkb
    show fX2_lowestBest_L8 (nI x) (nI k) (fun v4 => kb v4) υ (nI a) = _
    have hgn := c_gapsIfNext hg hS h3 (show a < am S by omega) hx hs
    unfold fX2_lowestBest_L8
    unfold gn at hgn
    by_cases e : a = a0
    · rw [e, hr0, if_pos hw.2.1.1, hw.2.1.2] at hgn
      rw [e]
      simp (disch := omega) only [l0, l1, l2, l3, l4, l5, l6, l7, l8, l9, l10, l11, l12, l16, l18, l19, l20, l21, l24, l96, l128, l100, l144, l200, l256, l288, l1536, l1728, l1800, bnd, nI_add, pk_mul, pI_sub, pI_m1, pT_le, pF_le, pT_lt, pF_lt, pT_eq, pF_eq, pF_m1, mF_eq, mT_eq, mT_lt, mF_le, lm1, rd_nI, wr_nI, cl_nI, pk_us, un_ne, pk_uLs, uL_ne, zI_uI, zI_uJ, zI_uA, zI_uB, zI_uR, zI_uN, zJ_uI, zJ_uJ, zJ_uA, zJ_uB, zJ_uR, zJ_uN, zA_uI, zA_uJ, zA_uA, zA_uB, zA_uR, zA_uN, zB_uI, zB_uJ, zB_uA, zB_uB, zB_uR, zB_uN, zR_uI, zR_uJ, zR_uA, zR_uB, zR_uR, zR_uN, zN_uI, zN_uJ, zN_uA, zN_uB, zN_uR, zN_uN, zI_ne, zJ_ne, zA_ne, zB_ne, zR_ne, zN_ne, bi_T, bi_F, nz16, ↓reduceIte, not_true_eq_false, not_false_eq_true, Bool.false_eq_true, reduceCtorEq, h21, hgn, hga]
    · have hlt : a < a0 := by omega
      have nx := hkb () hlt trivial
      have hno := hw.2.2 (rho S a) (by rw [← hr0]; exact rho_mono hS.1 (by omega) hlt)
      by_cases hsd : sd (zs g S) st (rho S a) < zs g S (rho S a)
      · rw [if_pos hsd] at hgn
        have hne : (xN g S st last (rho S a)).1 ≠ (xL g S st last).1 := fun e => hno ⟨hsd, e⟩
        have hxn : (xN g S st last (rho S a)).1 ≤ 21 := oN_le (og_le g (zs g S)) hs.2
        simp (disch := omega) only [l0, l1, l2, l3, l4, l5, l6, l7, l8, l9, l10, l11, l12, l16, l18, l19, l20, l21, l24, l96, l128, l100, l144, l200, l256, l288, l1536, l1728, l1800, bnd, nI_add, pk_mul, pI_sub, pI_m1, pT_le, pF_le, pT_lt, pF_lt, pT_eq, pF_eq, pF_m1, mF_eq, mT_eq, mT_lt, mF_le, lm1, rd_nI, wr_nI, cl_nI, pk_us, un_ne, pk_uLs, uL_ne, zI_uI, zI_uJ, zI_uA, zI_uB, zI_uR, zI_uN, zJ_uI, zJ_uJ, zJ_uA, zJ_uB, zJ_uR, zJ_uN, zA_uI, zA_uJ, zA_uA, zA_uB, zA_uR, zA_uN, zB_uI, zB_uJ, zB_uA, zB_uB, zB_uR, zB_uN, zR_uI, zR_uJ, zR_uA, zR_uB, zR_uR, zR_uN, zN_uI, zN_uJ, zN_uA, zN_uB, zN_uR, zN_uN, zI_ne, zJ_ne, zA_ne, zB_ne, zR_ne, zN_ne, bi_T, bi_F, nz16, ↓reduceIte, not_true_eq_false, not_false_eq_true, Bool.false_eq_true, reduceCtorEq, h21, hgn, hga]
        exact nx
      · rw [if_neg hsd] at hgn
        simp (disch := omega) only [l0, l1, l2, l3, l4, l5, l6, l7, l8, l9, l10, l11, l12, l16, l18, l19, l20, l21, l24, l96, l128, l100, l144, l200, l256, l288, l1536, l1728, l1800, bnd, nI_add, pk_mul, pI_sub, pI_m1, pT_le, pF_le, pT_lt, pF_lt, pT_eq, pF_eq, pF_m1, mF_eq, mT_eq, mT_lt, mF_le, lm1, rd_nI, wr_nI, cl_nI, pk_us, un_ne, pk_uLs, uL_ne, zI_uI, zI_uJ, zI_uA, zI_uB, zI_uR, zI_uN, zJ_uI, zJ_uJ, zJ_uA, zJ_uB, zJ_uR, zJ_uN, zA_uI, zA_uJ, zA_uA, zA_uB, zA_uR, zA_uN, zB_uI, zB_uJ, zB_uA, zB_uB, zB_uR, zB_uN, zR_uI, zR_uJ, zR_uA, zR_uB, zR_uR, zR_uN, zN_uI, zN_uJ, zN_uA, zN_uB, zN_uR, zN_uN, zI_ne, zJ_ne, zA_ne, zB_ne, zR_ne, zN_ne, bi_T, bi_F, nz16, ↓reduceIte, not_true_eq_false, not_false_eq_true, Bool.false_eq_true, reduceCtorEq, h21, hgn, hga]
        exact nx
theorem c_speechesOf {τ : St} {g : Gh} {S : Nat} (hT : TD τ g S) (h0 : S ≠ 0) : fX2_speeches τ = some (nI (oA (zs g S) 8)) := by
  have hS := hT.1.1
  have h1 := rho_am S hS.1
  have h2 := rho_ne S hS.1 h0
  have hl := hT.1.2.2.1 (am S - 1) (by omega)
  have hpn := pos_next (g := g) hS.1 (show am S - 1 < am S by omega)
  rw [show am S - 1 + 1 = am S by omega, (rho_cnt S hS.1).2.1] at hpn
  have h21 := hT.1.2.2.2.1
  have hsub : nI (am S) - nI 1 = nI (am S - 1) := pI_sub (by omega)
  unfold fX2_speeches
  rw [hpn]
  simp (disch := omega) only [l0, l1, l2, l3, l4, l5, l6, l7, l8, l9, l10, l11, l12, l16, l18, l19, l20, l21, l24, l96, l128, l100, l144, l200, l256, l288, l1536, l1728, l1800, bnd, nI_add, pk_mul, pI_sub, pI_m1, pT_le, pF_le, pT_lt, pF_lt, pT_eq, pF_eq, pF_m1, mF_eq, mT_eq, mT_lt, mF_le, lm1, rd_nI, wr_nI, cl_nI, pk_us, un_ne, pk_uLs, uL_ne, zI_uI, zI_uJ, zI_uA, zI_uB, zI_uR, zI_uN, zJ_uI, zJ_uJ, zJ_uA, zJ_uB, zJ_uR, zJ_uN, zA_uI, zA_uJ, zA_uA, zA_uB, zA_uR, zA_uN, zB_uI, zB_uJ, zB_uA, zB_uB, zB_uR, zB_uN, zR_uI, zR_uJ, zR_uA, zR_uB, zR_uR, zR_uN, zN_uI, zN_uJ, zN_uA, zN_uB, zN_uR, zN_uN, zI_ne, zJ_ne, zA_ne, zB_ne, zR_ne, zN_ne, bi_T, bi_F, nz16, ↓reduceIte, not_true_eq_false, not_false_eq_true, Bool.false_eq_true, reduceCtorEq, h21, hsub, hl.2.2.2, hl.2.1]
theorem c_firstAt {σ : St} {g : Gh} {S p : Nat} (hg : okG g) (hT : TD σ g S) (h0 : S ≠ 0) (hp : p < 2147483648) : ∃ υ, FR [40, 41, 42] [43] [] [] σ υ ∧ fX2_firstAt σ (nI p) = some (fa g S p, υ) := by
  have hS := hT.1.1
  have hs := hT.1.2.1
  have h1 := rho_am S hS.1
  have hA := hs.2
  have hN := hs.1
  have hsp := c_speechesOf hT h0
  unfold fX2_firstAt
  by_cases hlt : p < oA (zs g S) 8
  · obtain ⟨τ0, h2, h3, h4⟩ := c_clearSaid σ
    have hT0 : TD τ0 g S := hT.fr h2 (by decide) (by decide) (by decide) (by decide)
    have hss := (start_at hT0).1
    have hk0 : SK τ0 g S 0 0 (rx (zs g S) 8 * am S) := ⟨hT0.1.2.2.2.2.2.2.1, hT0.2.2⟩
    have key := it_for (β := St × Nat × Nat) (body := fun (kb : (St × Int32 × Int32 × Int32 × Int32 × Int32) → Option (Int32 × St)) (t : St × Int32 × Int32 × Int32 × Int32 × Int32) => fX2_firstAt_L35 (nI p) (fun σ v2 v3 v4 v5 v6 => kb (σ, v2, v3, v4, v5, v6)) t.1 t.2.1 t.2.2.1 t.2.2.2.1 t.2.2.2.2.1 t.2.2.2.2.2) (p + 1) (by omega) (fun i b => (b.1, nI (pw g S i).1, nI b.2.1, nI b.2.2, (if i = 0 then mI else nI (pw g S i).2.2), nI i)) (fun i b => FR [40, 41, 42] [43] [] [] σ b.1 ∧ SD b.1 g S (pw g S i).1 ∧ LC g S (pw g S i).1 (pw g S i).2.1 b.2.1 ∧ SK b.1 g S (pw g S i).1 (pw g S i).2.1 b.2.2) (fun _ _ z => ∃ υ, FR [40, 41, 42] [43] [] [] σ υ ∧ z = some (fa g S p, υ)) ?_ 0 (τ0, 20, rx (zs g S) 8 * am S) (Nat.zero_le _) ⟨h2.mono (by decide) (by decide) (by decide) (by decide), fun a ha => by
      show zA τ0 40 a = nI (sd (zs g S) 0 (rho S a))
      rw [h3 a (by omega), sd_nil], .inl ⟨rfl, rfl⟩, hk0⟩
    · have key : ∃ υ, FR [40, 41, 42] [43] [] [] σ υ ∧ fX2_firstAt_P35 (nI p) τ0 (nI 0) (nI 20) (nI (rx (zs g S) 8 * am S)) mI (nI 0) = some (fa g S p, υ) := key
      obtain ⟨υ, h5, h6⟩ := key
      refine ⟨υ, h5, ?_⟩
      simp (disch := omega) only [l0, l1, l2, l3, l4, l5, l6, l7, l8, l9, l10, l11, l12, l16, l18, l19, l20, l21, l24, l96, l128, l100, l144, l200, l256, l288, l1536, l1728, l1800, bnd, nI_add, pk_mul, pI_sub, pI_m1, pT_le, pF_le, pT_lt, pF_lt, pT_eq, pF_eq, pF_m1, mF_eq, mT_eq, mT_lt, mF_le, lm1, rd_nI, wr_nI, cl_nI, pk_us, un_ne, pk_uLs, uL_ne, zI_uI, zI_uJ, zI_uA, zI_uB, zI_uR, zI_uN, zJ_uI, zJ_uJ, zJ_uA, zJ_uB, zJ_uR, zJ_uN, zA_uI, zA_uJ, zA_uA, zA_uB, zA_uR, zA_uN, zB_uI, zB_uJ, zB_uA, zB_uB, zB_uR, zB_uN, zR_uI, zR_uJ, zR_uA, zR_uB, zR_uR, zR_uN, zN_uI, zN_uJ, zN_uA, zN_uB, zN_uR, zN_uN, zI_ne, zJ_ne, zA_ne, zB_ne, zR_ne, zN_ne, bi_T, bi_F, nz16, ↓reduceIte, not_true_eq_false, not_false_eq_true, Bool.false_eq_true, reduceCtorEq, hsp, h4, hss]
      exact h6
    · rintro i ⟨τ, x, k⟩ hi ⟨hF, hD, hx, hk⟩ kb hkb
      have hF : FR [40, 41, 42] [43] [] [] σ τ := hF
      have hD : SD τ g S (pw g S i).1 := hD
      have hx : LC g S (pw g S i).1 (pw g S i).2.1 x := hx
      have hk : SK τ g S (pw g S i).1 (pw g S i).2.1 k := hk
      show ∃ υ, _ ∧ fX2_firstAt_L35 (nI p) (fun σ v2 v3 v4 v5 v6 => kb (σ, v2, v3, v4, v5, v6)) τ (nI (pw g S i).1) (nI x) (nI k) (if i = 0 then mI else nI (pw g S i).2.2) (nI i) = _
      unfold fX2_firstAt_L35
      by_cases hie : i = p + 1
      · refine ⟨τ, hF, ?_⟩
        have e2 : fa g S p = nI (pw g S i).2.2 := by
          unfold fa
          rw [if_pos hlt, hie]
        rw [e2, if_neg (show ¬ i = 0 by omega)]
        simp (disch := omega) only [l0, l1, l2, l3, l4, l5, l6, l7, l8, l9, l10, l11, l12, l16, l18, l19, l20, l21, l24, l96, l128, l100, l144, l200, l256, l288, l1536, l1728, l1800, bnd, nI_add, pk_mul, pI_sub, pI_m1, pT_le, pF_le, pT_lt, pF_lt, pT_eq, pF_eq, pF_m1, mF_eq, mT_eq, mT_lt, mF_le, lm1, rd_nI, wr_nI, cl_nI, pk_us, un_ne, pk_uLs, uL_ne, zI_uI, zI_uJ, zI_uA, zI_uB, zI_uR, zI_uN, zJ_uI, zJ_uJ, zJ_uA, zJ_uB, zJ_uR, zJ_uN, zA_uI, zA_uJ, zA_uA, zA_uB, zA_uR, zA_uN, zB_uI, zB_uJ, zB_uA, zB_uB, zB_uR, zB_uN, zR_uI, zR_uJ, zR_uA, zR_uB, zR_uR, zR_uN, zN_uI, zN_uJ, zN_uA, zN_uB, zN_uR, zN_uN, zI_ne, zJ_ne, zA_ne, zB_ne, zR_ne, zN_ne, bi_T, bi_F, nz16, ↓reduceIte, not_true_eq_false, not_false_eq_true, Bool.false_eq_true, reduceCtorEq]
      · have hT1 : TD τ g S := hT.fr hF (by decide) (by decide) (by decide) (by decide)
        obtain ⟨h5, h6, h7⟩ := pw_ok hs i (by omega)
        have hm : 0 < rm (zs g S) (pw g S i).1 8 := by omega
        have hw := xW_is (last := (pw g S i).2.1) hs hm
        obtain ⟨a, τ2, ha, hra, hF2, hlow⟩ := c_lowest hg hT1 h5 hm hx hD hk
        have hT2 : TD τ2 g S := hT1.fr hF2 (by decide) (by decide) (by decide) (by decide)
        have hD2 := hD.fr hF2 (by decide)
        have hl := hT2.1.2.2.1 a ha
        have h40 := hD2 a ha
        have h21 := hT2.1.2.2.2.1
        have hi8 := rho_in S hS.1 a (by omega) ha
        have hz := zs_le hg hS hi8.1
        rw [← hra] at hw
        have hsk := SK_next hT2 h5 ha hw.2.1.1
        have hbh : fX2_slotBehind τ2 (nI (pw g S i).1) (nI a) = some (nI (((pw g S i).1 + rx (zs g S) (rho S a)) * am S + a)) := by
          unfold fX2_slotBehind
          simp (disch := omega) only [l0, l1, l2, l3, l4, l5, l6, l7, l8, l9, l10, l11, l12, l16, l18, l19, l20, l21, l24, l96, l128, l100, l144, l200, l256, l288, l1536, l1728, l1800, bnd, nI_add, pk_mul, pI_sub, pI_m1, pT_le, pF_le, pT_lt, pF_lt, pT_eq, pF_eq, pF_m1, mF_eq, mT_eq, mT_lt, mF_le, lm1, rd_nI, wr_nI, cl_nI, pk_us, un_ne, pk_uLs, uL_ne, zI_uI, zI_uJ, zI_uA, zI_uB, zI_uR, zI_uN, zJ_uI, zJ_uJ, zJ_uA, zJ_uB, zJ_uR, zJ_uN, zA_uI, zA_uJ, zA_uA, zA_uB, zA_uR, zA_uN, zB_uI, zB_uJ, zB_uA, zB_uB, zB_uR, zB_uN, zR_uI, zR_uJ, zR_uA, zR_uB, zR_uR, zR_uN, zN_uI, zN_uJ, zN_uA, zN_uB, zN_uR, zN_uN, zI_ne, zJ_ne, zA_ne, zB_ne, zR_ne, zN_ne, bi_T, bi_F, nz16, ↓reduceIte, not_true_eq_false, not_false_eq_true, Bool.false_eq_true, reduceCtorEq, hl.2.2.1, h21]
        have hfx : FR [40] [] [] [] τ2 (uA τ2 40 (upd (zA τ2 40) a (nI (sd (zs g S) (pw g S i).1 (rho S a) + 1)))) := FR.uA (FR.rf _ _ _ _ _) (by decide)
        have e1 : (pw g S (i + 1)).1 = (pw g S i).1 + rx (zs g S) (rho S a) := by rw [hra]; rfl
        have e2 : (pw g S (i + 1)).2.1 = rho S a + 1 := by rw [hra]; rfl
        have e3 : (pw g S (i + 1)).2.2 = 16 * rho S a + sd (zs g S) (pw g S i).1 (rho S a) := by rw [hra]; rfl
        have nx := hkb (uA τ2 40 (upd (zA τ2 40) a (nI (sd (zs g S) (pw g S i).1 (rho S a) + 1))), oA (zs g S) (rho S a) + sd (zs g S) (pw g S i).1 (rho S a), ((pw g S i).1 + rx (zs g S) (rho S a)) * am S + a) (by omega) ⟨FR.uA (hF.tr (hF2.mono (by decide) (by decide) (by decide) (by decide))) (by decide), by
          rw [e1]
          intro b hb
          show zA (uA τ2 40 _) 40 b = _
          rw [zA_uA]
          by_cases e : b = a
          · rw [e, pk_us, sd_same hw.2.1.1]
          · rw [pk_un e, hD2 b hb, sd_other hw.2.1.1]
            intro e4
            rcases Nat.lt_trichotomy a b with h8 | h8 | h8
            · have := rho_mono hS.1 (by omega) h8
              omega
            · exact e h8.symm
            · have := rho_mono hS.1 (by omega) h8
              omega, by
          rw [e1, e2]
          exact .inr ⟨by omega, by omega, by rw [Nat.add_sub_cancel, sd_same hw.2.1.1]; omega, by
            show oA (zs g S) (rho S a) + sd (zs g S) (pw g S i).1 (rho S a) = _
            rw [Nat.add_sub_cancel, sd_same hw.2.1.1]
            omega⟩, by
          rw [e1, e2]
          exact hsk.fr hfx (by decide) (by decide)⟩
        rw [if_neg (show ¬ i + 1 = 0 by omega), e1, e3] at nx
        have nx : ∃ υ, FR [40, 41, 42] [43] [] [] σ υ ∧ kb (uA τ2 40 (upd (zA τ2 40) a (nI (sd (zs g S) (pw g S i).1 (rho S a) + 1))), nI ((pw g S i).1 + rx (zs g S) (rho S a)), nI (oA (zs g S) (rho S a) + sd (zs g S) (pw g S i).1 (rho S a)), nI (((pw g S i).1 + rx (zs g S) (rho S a)) * am S + a), nI (16 * rho S a + sd (zs g S) (pw g S i).1 (rho S a)), nI (i + 1)) = some (fa g S p, υ) := nx
        obtain ⟨υ, h8, h9⟩ := nx
        refine ⟨υ, h8, ?_⟩
        simp (disch := omega) only [l0, l1, l2, l3, l4, l5, l6, l7, l8, l9, l10, l11, l12, l16, l18, l19, l20, l21, l24, l96, l128, l100, l144, l200, l256, l288, l1536, l1728, l1800, bnd, nI_add, pk_mul, pI_sub, pI_m1, pT_le, pF_le, pT_lt, pF_lt, pT_eq, pF_eq, pF_m1, mF_eq, mT_eq, mT_lt, mF_le, lm1, rd_nI, wr_nI, cl_nI, pk_us, un_ne, pk_uLs, uL_ne, zI_uI, zI_uJ, zI_uA, zI_uB, zI_uR, zI_uN, zJ_uI, zJ_uJ, zJ_uA, zJ_uB, zJ_uR, zJ_uN, zA_uI, zA_uJ, zA_uA, zA_uB, zA_uR, zA_uN, zB_uI, zB_uJ, zB_uA, zB_uB, zB_uR, zB_uN, zR_uI, zR_uJ, zR_uA, zR_uB, zR_uR, zR_uN, zN_uI, zN_uJ, zN_uA, zN_uB, zN_uR, zN_uN, zI_ne, zJ_ne, zA_ne, zB_ne, zR_ne, zN_ne, bi_T, bi_F, nz16, ↓reduceIte, not_true_eq_false, not_false_eq_true, Bool.false_eq_true, reduceCtorEq, hlow, hl.1, h40, hl.2.2.2, hbh, hl.2.2.1]
        exact h9
  · refine ⟨σ, FR.rf _ _ _ _ _, ?_⟩
    have e2 : fa g S p = mI := by
      unfold fa
      rw [if_neg hlt]
    rw [e2]
    simp (disch := omega) only [l0, l1, l2, l3, l4, l5, l6, l7, l8, l9, l10, l11, l12, l16, l18, l19, l20, l21, l24, l96, l128, l100, l144, l200, l256, l288, l1536, l1728, l1800, bnd, nI_add, pk_mul, pI_sub, pI_m1, pT_le, pF_le, pT_lt, pF_lt, pT_eq, pF_eq, pF_m1, mF_eq, mT_eq, mT_lt, mF_le, lm1, rd_nI, wr_nI, cl_nI, pk_us, un_ne, pk_uLs, uL_ne, zI_uI, zI_uJ, zI_uA, zI_uB, zI_uR, zI_uN, zJ_uI, zJ_uJ, zJ_uA, zJ_uB, zJ_uR, zJ_uN, zA_uI, zA_uJ, zA_uA, zA_uB, zA_uR, zA_uN, zB_uI, zB_uJ, zB_uA, zB_uB, zB_uR, zB_uN, zR_uI, zR_uJ, zR_uA, zR_uB, zR_uR, zR_uN, zN_uI, zN_uJ, zN_uA, zN_uB, zN_uR, zN_uN, zI_ne, zJ_ne, zA_ne, zB_ne, zR_ne, zN_ne, bi_T, bi_F, nz16, ↓reduceIte, not_true_eq_false, not_false_eq_true, Bool.false_eq_true, reduceCtorEq, hsp]
theorem t_first {σ : St} {g : Gh} {lim c cc s : Nat} (h : RI σ g lim) (hr : rOk σ) (hA : AC σ cc s) (hH : CH σ g c) (p q : Int32) : B3 σ g c cc s (fX11_first σ p q) (fun τ => fX12_first τ p q) := by
  rcases all2 h p with ⟨t, hal, ht, rfl, e⟩ | e
  · obtain ⟨τ, h1, h2, h3, h4, h5⟩ := c_areTold h.1 h.2.1 hr hA hal hH
    by_cases hs : sm g t
    · rw [decide_eq_true hs] at h1
      obtain ⟨hT, h23, h24, h25⟩ := h5 hs
      rcases i32_of q with hq | ⟨k, hk, rfl⟩
      · obtain ⟨υ, h6, h7⟩ := m_first h.1 (h.of h2).2.2.1 hal q
        rw [if_neg (fun x => x.2 hq)] at h6
        refine ⟨mI, τ, υ, ?_, h2, h3, h4.more (by omega) (Nat.le_refl _), h6, h7⟩
        unfold fX11_first fX2_firstAt
        rw [l0] at hq
        simp (disch := omega) only [l0, l1, l2, l3, l4, l5, l6, l7, l8, l9, l10, l11, l12, l16, l18, l19, l20, l21, l24, l96, l128, l100, l144, l200, l256, l288, l1536, l1728, l1800, bnd, nI_add, pk_mul, pI_sub, pI_m1, pT_le, pF_le, pT_lt, pF_lt, pT_eq, pF_eq, pF_m1, mF_eq, mT_eq, mT_lt, mF_le, lm1, rd_nI, wr_nI, cl_nI, pk_us, un_ne, pk_uLs, uL_ne, zI_uI, zI_uJ, zI_uA, zI_uB, zI_uR, zI_uN, zJ_uI, zJ_uJ, zJ_uA, zJ_uB, zJ_uR, zJ_uN, zA_uI, zA_uJ, zA_uA, zA_uB, zA_uR, zA_uN, zB_uI, zB_uJ, zB_uA, zB_uB, zB_uR, zB_uN, zR_uI, zR_uJ, zR_uA, zR_uB, zR_uR, zR_uN, zN_uI, zN_uJ, zN_uA, zN_uB, zN_uR, zN_uN, zI_ne, zJ_ne, zA_ne, zB_ne, zR_ne, zN_ne, bi_T, bi_F, nz16, ↓reduceIte, not_true_eq_false, not_false_eq_true, Bool.false_eq_true, reduceCtorEq, h1, if_pos hq]
      · obtain ⟨w, h8, h9⟩ := c_firstAt (p := k) h.1 hT (al_in h.1 hal).2 hk
        have hw : OF σ w := h2.tr (h8.mono (by decide) (by decide) (by decide) (by decide))
        obtain ⟨υ, h6, h7⟩ := m_first h.1 (h.of hw).2.2.1 hal (nI k)
        rw [if_pos ⟨hs, by rw [neg_nI hk]; exact fun x => x⟩, nI_clamp hk] at h6
        have hT2 : TD w g t := hT.fr h8 (by decide) (by decide) (by decide) (by decide)
        have hH2 : CH w g c := by
          obtain ⟨e19, hc, kk, hkk, e24, _⟩ := h3
          refine ⟨(h8.2.2.1 19 (by decide)).trans e19, hc, c, Nat.le_refl _, (h8.2.2.1 24 (by decide)).trans h24, fun _ => .inr ⟨t, hal, (h8.2.2.1 23 (by decide)).trans h23, hT2, ?_⟩⟩
          unfold PK at h25 ⊢
          rw [h8.2.2.1 25 (by decide), h8.2.1 44 (by decide)]
          exact h25
        refine ⟨_, w, υ, ?_, hw, hH2, (h4.fr h8 (by decide)).more (by omega) (Nat.le_refl _), h6, h7⟩
        unfold fX11_first
        simp (disch := omega) only [l0, l1, l2, l3, l4, l5, l6, l7, l8, l9, l10, l11, l12, l16, l18, l19, l20, l21, l24, l96, l128, l100, l144, l200, l256, l288, l1536, l1728, l1800, bnd, nI_add, pk_mul, pI_sub, pI_m1, pT_le, pF_le, pT_lt, pF_lt, pT_eq, pF_eq, pF_m1, mF_eq, mT_eq, mT_lt, mF_le, lm1, rd_nI, wr_nI, cl_nI, pk_us, un_ne, pk_uLs, uL_ne, zI_uI, zI_uJ, zI_uA, zI_uB, zI_uR, zI_uN, zJ_uI, zJ_uJ, zJ_uA, zJ_uB, zJ_uR, zJ_uN, zA_uI, zA_uJ, zA_uA, zA_uB, zA_uR, zA_uN, zB_uI, zB_uJ, zB_uA, zB_uB, zB_uR, zB_uN, zR_uI, zR_uJ, zR_uA, zR_uB, zR_uR, zR_uN, zN_uI, zN_uJ, zN_uA, zN_uB, zN_uR, zN_uN, zI_ne, zJ_ne, zA_ne, zB_ne, zR_ne, zN_ne, bi_T, bi_F, nz16, ↓reduceIte, not_true_eq_false, not_false_eq_true, Bool.false_eq_true, reduceCtorEq, h1, h9]
    · obtain ⟨υ, h6, h7⟩ := m_first h.1 (h.of h2).2.2.1 hal q
      rw [decide_eq_false hs] at h1
      rw [if_neg (fun x => hs x.1)] at h6
      refine ⟨mI, τ, υ, ?_, h2, h3, h4.more (by omega) (Nat.le_refl _), h6, h7⟩
      unfold fX11_first
      simp (disch := omega) only [l0, l1, l2, l3, l4, l5, l6, l7, l8, l9, l10, l11, l12, l16, l18, l19, l20, l21, l24, l96, l128, l100, l144, l200, l256, l288, l1536, l1728, l1800, bnd, nI_add, pk_mul, pI_sub, pI_m1, pT_le, pF_le, pT_lt, pF_lt, pT_eq, pF_eq, pF_m1, mF_eq, mT_eq, mT_lt, mF_le, lm1, rd_nI, wr_nI, cl_nI, pk_us, un_ne, pk_uLs, uL_ne, zI_uI, zI_uJ, zI_uA, zI_uB, zI_uR, zI_uN, zJ_uI, zJ_uJ, zJ_uA, zJ_uB, zJ_uR, zJ_uN, zA_uI, zA_uJ, zA_uA, zA_uB, zA_uR, zA_uN, zB_uI, zB_uJ, zB_uA, zB_uB, zB_uR, zB_uN, zR_uI, zR_uJ, zR_uA, zR_uB, zR_uR, zR_uN, zN_uI, zN_uJ, zN_uA, zN_uB, zN_uR, zN_uN, zI_ne, zJ_ne, zA_ne, zB_ne, zR_ne, zN_ne, bi_T, bi_F, nz16, ↓reduceIte, not_true_eq_false, not_false_eq_true, Bool.false_eq_true, reduceCtorEq, h1]
  · have e1 := (e σ (SE.rf σ)).1
    have e2 := (e (uI σ 30 (nI 0)) (se30 σ _)).2
    refine B3.no hH hA mI ?_ ?_
    · unfold fX11_first fX2_areTold
      simp (disch := omega) only [l0, l1, l2, l3, l4, l5, l6, l7, l8, l9, l10, l11, l12, l16, l18, l19, l20, l21, l24, l96, l128, l100, l144, l200, l256, l288, l1536, l1728, l1800, bnd, nI_add, pk_mul, pI_sub, pI_m1, pT_le, pF_le, pT_lt, pF_lt, pT_eq, pF_eq, pF_m1, mF_eq, mT_eq, mT_lt, mF_le, lm1, rd_nI, wr_nI, cl_nI, pk_us, un_ne, pk_uLs, uL_ne, zI_uI, zI_uJ, zI_uA, zI_uB, zI_uR, zI_uN, zJ_uI, zJ_uJ, zJ_uA, zJ_uB, zJ_uR, zJ_uN, zA_uI, zA_uJ, zA_uA, zA_uB, zA_uR, zA_uN, zB_uI, zB_uJ, zB_uA, zB_uB, zB_uR, zB_uN, zR_uI, zR_uJ, zR_uA, zR_uB, zR_uR, zR_uN, zN_uI, zN_uJ, zN_uA, zN_uB, zN_uR, zN_uN, zI_ne, zJ_ne, zA_ne, zB_ne, zR_ne, zN_ne, bi_T, bi_F, nz16, ↓reduceIte, not_true_eq_false, not_false_eq_true, Bool.false_eq_true, reduceCtorEq, e1]
    · show fX12_first σ p q = _
      unfold fX12_first fX12_isSmall
      simp (disch := omega) only [l0, l1, l2, l3, l4, l5, l6, l7, l8, l9, l10, l11, l12, l16, l18, l19, l20, l21, l24, l96, l128, l100, l144, l200, l256, l288, l1536, l1728, l1800, bnd, nI_add, pk_mul, pI_sub, pI_m1, pT_le, pF_le, pT_lt, pF_lt, pT_eq, pF_eq, pF_m1, mF_eq, mT_eq, mT_lt, mF_le, lm1, rd_nI, wr_nI, cl_nI, pk_us, un_ne, pk_uLs, uL_ne, zI_uI, zI_uJ, zI_uA, zI_uB, zI_uR, zI_uN, zJ_uI, zJ_uJ, zJ_uA, zJ_uB, zJ_uR, zJ_uN, zA_uI, zA_uJ, zA_uA, zA_uB, zA_uR, zA_uN, zB_uI, zB_uJ, zB_uA, zB_uB, zB_uR, zB_uN, zR_uI, zR_uJ, zR_uA, zR_uB, zR_uR, zR_uN, zN_uI, zN_uJ, zN_uA, zN_uB, zN_uR, zN_uN, zI_ne, zJ_ne, zA_ne, zB_ne, zR_ne, zN_ne, bi_T, bi_F, nz16, ↓reduceIte, not_true_eq_false, not_false_eq_true, Bool.false_eq_true, reduceCtorEq, e2]
