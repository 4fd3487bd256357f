/-! text of a habit, both sides *-/
def HX1 (σ : St) (h : Nat) (bs : List Nat) : Prop := bs.length ≤ 200 ∧ (∀ b, b ∈ bs → 1 ≤ b ∧ b < 256) ∧ (tkF Jh 4 gh bs).length ≤ 201 ∧ fx (pHab (evS 0 0 0 0 0) bs).2 = mI ∧ (∀ k, k < (tkF Jh 4 gh bs).length → zB σ (83 + h) k = lN ((tkF Jh 4 gh bs).getD k (0, 0)).1) ∧ zA σ 58 h = nI bs.length ∧ ∀ j, j < bs.length → zA σ 57 (200 * h + j) = sbv (bs.getD j 0)
def HX (σ : St) (nh : Nat) (hb : Nat → List Nat) : Prop := ∀ h, h < nh → HX1 σ h (hb h)
theorem HX.fr {σ τ : St} {nh : Nat} {hb : Nat → List Nat} (hn : nh ≤ 4) (hB : ∀ q, q ∈ [83, 84, 85, 86] → zB τ q = zB σ q) (h57 : zA τ 57 = zA σ 57) (h58 : zA τ 58 = zA σ 58) (k : HX σ nh hb) : HX τ nh hb := by
  intro h hh
  have hq : 83 + h ∈ [83, 84, 85, 86] := by
    have : h = 0 ∨ h = 1 ∨ h = 2 ∨ h = 3 := by omega
    rcases this with e | e | e | e <;> rw [e] <;> decide
  unfold HX1
  rw [hB _ hq, h57, h58]
  exact k h hh
theorem HX.se {σ τ : St} {nh : Nat} {hb : Nat → List Nat} (hn : nh ≤ 4) (h : SE σ τ) (k : HX σ nh hb) : HX τ nh hb :=
  k.fr hn (fun q hq => h.b q (by
    have hd : ∀ q, q ∈ [83, 84, 85, 86] → q ∈ pB := by decide
    exact hd q hq)) (h.a 57 (by decide)) (h.a 58 (by decide))
theorem HX.sf {σ τ : St} {nh : Nat} {hb : Nat → List Nat} (hn : nh ≤ 4) (h : SF σ τ) (k : HX σ nh hb) : HX τ nh hb :=
  k.fr hn (fun q hq => h.b q (by
    have hd : ∀ q, q ∈ [83, 84, 85, 86] → q ∈ pB := by decide
    exact hd q hq)) (h.a 57 (by decide) (by decide)) (h.a 58 (by decide) (by decide))
theorem c_copyTo {σ : St} {q : Nat} (hq : q = 83 ∨ q = 84 ∨ q = 85 ∨ q = 86) : ∃ υ, FR [] [q] [] [] σ υ ∧ (∀ k, k < 201 → zB υ q k = zB σ 21 k) ∧ fX5_copyTo_h σ q = some υ := by
  have hne : 21 ≠ q := by omega
  have hlen : ∀ y : St, lenB y q = 201 := fun y => by rcases hq with e | e | e | e <;> rw [e] <;> rfl
  have key := it_for (β := St) (body := fun (kb : (St × Int32) → Option St) (t : St × Int32) => fX5_copyTo_h_L2 q (fun σ v2 => kb (σ, v2)) t.1 t.2) 201 (by omega) (fun i y => (y, nI i)) (fun i y => FR [] [q] [] [] σ y ∧ ∀ k, k < i → zB y q k = zB σ 21 k) (fun i y z => ∃ υ, FR [] [q] [] [] σ υ ∧ (∀ k, k < 201 → zB υ q k = zB σ 21 k) ∧ z = some υ) ?_ 0 σ (Nat.zero_le _) ⟨FR.rf _ _ _ _ _, fun k hk => absurd hk (Nat.not_lt_zero _)⟩
  · exact key
  · rintro i y hi ⟨hF, hk⟩ kb hkb
    show ∃ υ, _ ∧ _ ∧ fX5_copyTo_h_L2 q (fun σ v2 => kb (σ, v2)) y (nI i) = _
    unfold fX5_copyTo_h_L2
    rw [hlen y]
    unfold isl
    rw [if_neg (show ¬ 201 = 0 by decide)]
    by_cases hi2 : i = 201
    · rw [hi2] at hk ⊢
      exact ⟨y, hF, hk, by rw [if_pos (by decide)]⟩
    · have h21 : zB y 21 = zB σ 21 := hF.2.1 21 (fun x => hne (List.mem_singleton.mp x))
      obtain ⟨υ, g1, g2, g3⟩ := hkb (uB y q (vp_updL (zB y q) i (zB y 21 i))) (by omega) ⟨FR.uB hF List.mem_cons_self, fun k hk2 => by
        rw [zB_uB]
        by_cases e : k = i
        · rw [e, pk_uLs, h21]
        · rw [uL_ne e]
          exact hk k (by omega)⟩
      refine ⟨υ, g1, g2, ?_⟩
      rw [← g3]
      have e201 : Int32.ofNat 201 = nI 201 := rfl
      have f201 : (201 : Int32) = nI 201 := rfl
      simp (disch := omega) only [l0, l1, l2, l3, l4, l5, l6, l7, l8, l9, l10, l11, l12, l16, l18, l19, l20, l21, l24, l96, l128, l100, l144, l200, l256, l288, l1536, l1728, l1800, bnd, nI_add, pk_mul, pI_sub, pI_m1, pT_le, pF_le, pT_lt, pF_lt, pT_eq, pF_eq, pF_m1, mF_eq, mT_eq, mT_lt, mF_le, lm1, rd_nI, wr_nI, cl_nI, pk_us, un_ne, pk_uLs, uL_ne, zI_uI, zI_uJ, zI_uA, zI_uB, zI_uR, zI_uN, zJ_uI, zJ_uJ, zJ_uA, zJ_uB, zJ_uR, zJ_uN, zA_uI, zA_uJ, zA_uA, zA_uB, zA_uR, zA_uN, zB_uI, zB_uJ, zB_uA, zB_uB, zB_uR, zB_uN, zR_uI, zR_uJ, zR_uA, zR_uB, zR_uR, zR_uN, zN_uI, zN_uJ, zN_uA, zN_uB, zN_uR, zN_uN, zI_ne, zJ_ne, zA_ne, zB_ne, zR_ne, zN_ne, bi_T, bi_F, nz16, ↓reduceIte, not_true_eq_false, not_false_eq_true, Bool.false_eq_true, reduceCtorEq, e201, f201]
theorem c_addh {σ : St} {nh : Nat} (hn : nh < 4) (h11 : zI σ 11 = nI nh) : ∃ υ, FR [] [83 + nh] [11] [] σ υ ∧ (∀ k, k < 201 → zB υ (83 + nh) k = zB σ 21 k) ∧ zI υ 11 = nI (nh + 1) ∧ fX1_add σ = some (nI nh, υ) := by
  obtain ⟨y, a1, a2, a3⟩ := c_copyTo (σ := σ) (q := 83 + nh) (by omega)
  have h11y : zI y 11 = nI nh := (a1.2.2.1 11 (by intro x; cases x)).trans h11
  refine ⟨uI y 11 (nI (nh + 1)), FR.uI (FR.mono a1 (by decide) (fun q hq => hq) (by decide) (by decide)) (by decide), fun k hk => by rw [zB_uI]; exact a2 k hk, by rw [zI_uI], ?_⟩
  have hsub : nI (nh + 1) - nI 1 = nI nh := by rw [pI_sub (by omega), Nat.add_sub_cancel]
  unfold fX1_add
  simp (disch := omega) only [l0, l1, l2, l3, l4, l5, l6, l7, l8, l9, l10, l11, l12, l16, l18, l19, l20, l21, l24, l96, l128, l100, l144, l200, l256, l288, l1536, l1728, l1800, bnd, nI_add, pk_mul, pI_sub, pI_m1, pT_le, pF_le, pT_lt, pF_lt, pT_eq, pF_eq, pF_m1, mF_eq, mT_eq, mT_lt, mF_le, lm1, rd_nI, wr_nI, cl_nI, pk_us, un_ne, pk_uLs, uL_ne, zI_uI, zI_uJ, zI_uA, zI_uB, zI_uR, zI_uN, zJ_uI, zJ_uJ, zJ_uA, zJ_uB, zJ_uR, zJ_uN, zA_uI, zA_uJ, zA_uA, zA_uB, zA_uR, zA_uN, zB_uI, zB_uJ, zB_uA, zB_uB, zB_uR, zB_uN, zR_uI, zR_uJ, zR_uA, zR_uB, zR_uR, zR_uN, zN_uI, zN_uJ, zN_uA, zN_uB, zN_uR, zN_uN, zI_ne, zJ_ne, zA_ne, zB_ne, zR_ne, zN_ne, bi_T, bi_F, nz16, ↓reduceIte, not_true_eq_false, not_false_eq_true, Bool.false_eq_true, reduceCtorEq, h11, a3, h11y, hsub]
