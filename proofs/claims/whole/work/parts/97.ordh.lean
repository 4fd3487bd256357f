/-! orders: what is kept, makeRoom, areTold; least, orders on both sides -/
def pot (L : Nat) : Nat := if L = 160001 then 480002 else 2 * L
/-- what the class's tables took so far: c cells, s slots and those of the two tables -/
def AC (τ : St) (c s : Nat) : Prop := zN τ 45 ≤ 160001 ∧ (zN τ 46 = zN τ 45 ∨ 2 * zN τ 46 ≤ zN τ 45 ∨ (zN τ 45 = 160001 ∧ zN τ 46 ≤ 160001)) ∧ zN τ 0 ≤ c ∧ zN τ 1 ≤ s + pot (zN τ 45) + pot (zN τ 46)
theorem AC.more {τ : St} {c s c' s' : Nat} (h : AC τ c s) (hc : c ≤ c') (hs : s ≤ s') : AC τ c' s' := ⟨h.1, h.2.1, Nat.le_trans h.2.2.1 hc, Nat.le_trans h.2.2.2 (by omega)⟩
theorem AC.fr {σ τ : St} {c s : Nat} {A B K N : List Nat} (h : AC σ c s) (f : FR A B K N σ τ) (hN : ∀ q, q ∈ [0, 1, 45, 46] → q ∉ N) : AC τ c s := by
  unfold AC
  rw [f.2.2.2.1 0 (hN 0 (by decide)), f.2.2.2.1 1 (hN 1 (by decide)), f.2.2.2.1 45 (hN 45 (by decide)), f.2.2.2.1 46 (hN 46 (by decide))]
  exact h
theorem nb_ok {ρ : Type} {σ : St} {id n : Nat} {o : Option ρ} (hn : n ≤ 200000) (hr : ∀ k, zR σ k ≠ id) : nb σ id (nI n) o = o := by
  unfold nb
  rw [nI_clamp (by omega)]
  apply if_neg
  rintro (h | h | h | h | h | h)
  · rw [neg_nI (by omega)] at h
    exact h
  · omega
  · exact hr 0 h
  · exact hr 1 h
  · exact hr 2 h
  · exact hr 3 h
theorem l160001 : (160001 : Int32) = nI 160001 := nrfl rfl
theorem c_makeRoom {σ : St} {g : Gh} {S c s : Nat} (hS : inG g S) (hsm : sm g S) (h21 : zI σ 21 = nI (am S)) (h22 : zI σ 22 = nI (rx (zs g S) 8)) (hr : rOk σ) (hA : AC σ c s) : ∃ υ, FR [] [45] [] [0, 1, 45] σ υ ∧ RM υ g S ∧ AC υ (c + 1) s ∧ fX2_makeRoom σ = some υ := by
  have h1 := rho_am S hS.1
  have h2 := hsm.1
  have h3 : rx (zs g S) 8 * am S ≤ 20000 * 8 := Nat.mul_le_mul h2 h1
  have h45 := hA.1
  have hss : fX2_startSlot σ = some (nI (rx (zs g S) 8 * am S)) := by
    unfold fX2_startSlot
    rw [h21, h22]
    simp (disch := omega) only [l0, l1, l2, l3, l4, l5, l6, l7, l8, l9, l10, l11, l12, l16, l18, l19, l20, l21, l24, l96, l128, l100, l144, l200, l256, l288, l1536, l1728, l1800, bnd, nI_add, pk_mul, pI_sub, pI_m1, pT_le, pF_le, pT_lt, pF_lt, pT_eq, pF_eq, pF_m1, mF_eq, mT_eq, mT_lt, mF_le, lm1, rd_nI, wr_nI, cl_nI, pk_us, un_ne, pk_uLs, uL_ne, zI_uI, zI_uJ, zI_uA, zI_uB, zI_uR, zI_uN, zJ_uI, zJ_uJ, zJ_uA, zJ_uB, zJ_uR, zJ_uN, zA_uI, zA_uJ, zA_uA, zA_uB, zA_uR, zA_uN, zB_uI, zB_uJ, zB_uA, zB_uB, zB_uR, zB_uN, zR_uI, zR_uJ, zR_uA, zR_uB, zR_uR, zR_uN, zN_uI, zN_uJ, zN_uA, zN_uB, zN_uR, zN_uN, zI_ne, zJ_ne, zA_ne, zB_ne, zR_ne, zN_ne, bi_T, bi_F, nz16, ↓reduceIte, not_true_eq_false, not_false_eq_true, Bool.false_eq_true, reduceCtorEq]
  unfold fX2_makeRoom
  unfold RM
  generalize rx (zs g S) 8 * am S = n at *
  by_cases hn : n + 1 ≤ zN σ 45
  · refine ⟨σ, FR.rf _ _ _ _ _, ⟨hn, h45⟩, hA.more (by omega) (Nat.le_refl _), ?_⟩
    simp (disch := omega) only [l0, l1, l2, l3, l4, l5, l6, l7, l8, l9, l10, l11, l12, l16, l18, l19, l20, l21, l24, l96, l128, l100, l144, l200, l256, l288, l1536, l1728, l1800, bnd, nI_add, pk_mul, pI_sub, pI_m1, pT_le, pF_le, pT_lt, pF_lt, pT_eq, pF_eq, pF_m1, mF_eq, mT_eq, mT_lt, mF_le, lm1, rd_nI, wr_nI, cl_nI, pk_us, un_ne, pk_uLs, uL_ne, zI_uI, zI_uJ, zI_uA, zI_uB, zI_uR, zI_uN, zJ_uI, zJ_uJ, zJ_uA, zJ_uB, zJ_uR, zJ_uN, zA_uI, zA_uJ, zA_uA, zA_uB, zA_uR, zA_uN, zB_uI, zB_uJ, zB_uA, zB_uB, zB_uR, zB_uN, zR_uI, zR_uJ, zR_uA, zR_uB, zR_uR, zR_uN, zN_uI, zN_uJ, zN_uA, zN_uB, zN_uR, zN_uN, zI_ne, zJ_ne, zA_ne, zB_ne, zR_ne, zN_ne, bi_T, bi_F, nz16, ↓reduceIte, not_true_eq_false, not_false_eq_true, Bool.false_eq_true, reduceCtorEq, hss, oNI]
  · have hmn := jmin (a := 2 * zN σ 45) (b := 160001) (by omega) (by omega)
    have hmx := jmax (a := n + 1) (b := min (2 * zN σ 45) 160001) (by omega) (by omega)
    have hb1 : max (n + 1) (min (2 * zN σ 45) 160001) ≤ 160001 := by omega
    have hb2 : n + 1 ≤ max (n + 1) (min (2 * zN σ 45) 160001) := by omega
    have hb3 : max (n + 1) (min (2 * zN σ 45) 160001) = 160001 ∨ 2 * zN σ 45 ≤ max (n + 1) (min (2 * zN σ 45) 160001) := by omega
    generalize max (n + 1) (min (2 * zN σ 45) 160001) = L at *
    refine ⟨uNew σ 45 (nI L), ?_, ?_, ?_, ?_⟩
    · unfold uNew
      exact FR.uN (FR.uN (FR.uN (FR.uB (FR.rf _ _ _ _ _) (by decide)) (by decide)) (by decide)) (by decide)
    · unfold uNew
      simp (disch := omega) only [l0, l1, l2, l3, l4, l5, l6, l7, l8, l9, l10, l11, l12, l16, l18, l19, l20, l21, l24, l96, l128, l100, l144, l200, l256, l288, l1536, l1728, l1800, bnd, nI_add, pk_mul, pI_sub, pI_m1, pT_le, pF_le, pT_lt, pF_lt, pT_eq, pF_eq, pF_m1, mF_eq, mT_eq, mT_lt, mF_le, lm1, rd_nI, wr_nI, cl_nI, pk_us, un_ne, pk_uLs, uL_ne, zI_uI, zI_uJ, zI_uA, zI_uB, zI_uR, zI_uN, zJ_uI, zJ_uJ, zJ_uA, zJ_uB, zJ_uR, zJ_uN, zA_uI, zA_uJ, zA_uA, zA_uB, zA_uR, zA_uN, zB_uI, zB_uJ, zB_uA, zB_uB, zB_uR, zB_uN, zR_uI, zR_uJ, zR_uA, zR_uB, zR_uR, zR_uN, zN_uI, zN_uJ, zN_uA, zN_uB, zN_uR, zN_uN, zI_ne, zJ_ne, zA_ne, zB_ne, zR_ne, zN_ne, bi_T, bi_F, nz16, ↓reduceIte, not_true_eq_false, not_false_eq_true, Bool.false_eq_true, reduceCtorEq]
      exact ⟨by omega, by omega⟩
    · obtain ⟨hA1, hA2, hA3, hA4⟩ := hA
      unfold AC uNew
      simp (disch := omega) only [l0, l1, l2, l3, l4, l5, l6, l7, l8, l9, l10, l11, l12, l16, l18, l19, l20, l21, l24, l96, l128, l100, l144, l200, l256, l288, l1536, l1728, l1800, bnd, nI_add, pk_mul, pI_sub, pI_m1, pT_le, pF_le, pT_lt, pF_lt, pT_eq, pF_eq, pF_m1, mF_eq, mT_eq, mT_lt, mF_le, lm1, rd_nI, wr_nI, cl_nI, pk_us, un_ne, pk_uLs, uL_ne, zI_uI, zI_uJ, zI_uA, zI_uB, zI_uR, zI_uN, zJ_uI, zJ_uJ, zJ_uA, zJ_uB, zJ_uR, zJ_uN, zA_uI, zA_uJ, zA_uA, zA_uB, zA_uR, zA_uN, zB_uI, zB_uJ, zB_uA, zB_uB, zB_uR, zB_uN, zR_uI, zR_uJ, zR_uA, zR_uB, zR_uR, zR_uN, zN_uI, zN_uJ, zN_uA, zN_uB, zN_uR, zN_uN, zI_ne, zJ_ne, zA_ne, zB_ne, zR_ne, zN_ne, bi_T, bi_F, nz16, ↓reduceIte, not_true_eq_false, not_false_eq_true, Bool.false_eq_true, reduceCtorEq]
      refine ⟨hb1, ?_, by omega, ?_⟩
      · rcases hb3 with h | h
        · right; right; exact ⟨h, by omega⟩
        · right; left; omega
      · have hp : pot (zN σ 45) + L ≤ pot L := by
          unfold pot
          rw [if_neg (show ¬ zN σ 45 = 160001 by omega)]
          split <;> omega
        omega
    · have hnb := nb_ok (σ := σ) (id := 45) (n := L) (o := some (uNew σ 45 (nI L))) (by omega) (fun k => (hr k).1)
      simp (disch := omega) only [l0, l1, l2, l3, l4, l5, l6, l7, l8, l9, l10, l11, l12, l16, l18, l19, l20, l21, l24, l96, l128, l100, l144, l200, l256, l288, l1536, l1728, l1800, bnd, nI_add, pk_mul, pI_sub, pI_m1, pT_le, pF_le, pT_lt, pF_lt, pT_eq, pF_eq, pF_m1, mF_eq, mT_eq, mT_lt, mF_le, lm1, rd_nI, wr_nI, cl_nI, pk_us, un_ne, pk_uLs, uL_ne, zI_uI, zI_uJ, zI_uA, zI_uB, zI_uR, zI_uN, zJ_uI, zJ_uJ, zJ_uA, zJ_uB, zJ_uR, zJ_uN, zA_uI, zA_uJ, zA_uA, zA_uB, zA_uR, zA_uN, zB_uI, zB_uJ, zB_uA, zB_uB, zB_uR, zB_uN, zR_uI, zR_uJ, zR_uA, zR_uB, zR_uR, zR_uN, zN_uI, zN_uJ, zN_uA, zN_uB, zN_uR, zN_uN, zI_ne, zJ_ne, zA_ne, zB_ne, zR_ne, zN_ne, bi_T, bi_F, nz16, ↓reduceIte, not_true_eq_false, not_false_eq_true, Bool.false_eq_true, reduceCtorEq, hss, oNI, l160001, hmn, hmx, hnb]
abbrev xQ (g : Gh) (S st q : Nat) : Nat × Nat := oB (zs g S) (og g (zs g S)) (oA (zs g S) 8) st q
/-- in how many of the best orders speech i of r stands right ahead of speech j of q, when a state is left -/
def pt (g : Gh) (S r i q j st : Nat) : Nat := if sd (zs g S) st r = i + 1 ∧ sd (zs g S) st q = j ∧ (xQ g S st (r + 1)).1 + (xN g S st (r + 1) q).1 = (xL g S 0 0).1 then (xQ g S st (r + 1)).2 * (xN g S st (r + 1) q).2 else 0
def pc (g : Gh) (S r i q j : Nat) : Nat → Nat
  | 0 => 0
  | n + 1 => pc g S r i q j n + pt g S r i q j n
def PK (τ : St) (g : Gh) (S : Nat) : Prop := ∀ a i b j, a < am S → b < am S → i < zs g S (rho S a) → j < zs g S (rho S b) → zB τ 44 (20 * (oA (zs g S) (rho S a) + i) + (oA (zs g S) (rho S b) + j)) = lN (pc g S (rho S a) i (rho S b) j (rx (zs g S) 8))
def TD (τ : St) (g : Gh) (S : Nat) : Prop := CL τ g S ∧ SL τ g S 1 ∧ zB τ 45 (rx (zs g S) 8 * am S) = lN (xw (xL g S 0 0))
def CH (τ : St) (g : Gh) (c : Nat) : Prop := zI τ 19 = nI c ∧ c < 1000000 ∧ ∃ k, k ≤ c ∧ zI τ 24 = nI k ∧ (k = c → zI τ 23 = nI 0 ∨ ∃ S, al g S = true ∧ zI τ 23 = nI S ∧ TD τ g S ∧ (zI τ 25 = nI 0 ∨ (zI τ 25 = nI 1 ∧ PK τ g S)))
theorem CH.se {σ τ : St} {g : Gh} {c : Nat} (h : SE σ τ) (k : CH σ g c) : CH τ g c := by
  unfold CH TD CL SL RM FO LO PK
  rw [h.i 19 (by decide), h.i 24 (by decide), h.i 23 (by decide), h.i 25 (by decide), h.i 21 (by decide), h.i 22 (by decide), h.a 35 (by decide), h.a 36 (by decide), h.a 37 (by decide), h.a 38 (by decide), h.a 39 (by decide), h.b 44 (by decide), h.b 45 (by decide), h.2.2.2.1]
  exact k
theorem AC.se {σ τ : St} {c s : Nat} (h : SE σ τ) (k : AC σ c s) : AC τ c s := by
  unfold AC
  rw [h.2.2.2.1]
  exact k
/-- the class's frame of a call that lays out orders -/
def OF (σ τ : St) : Prop := FR [35, 36, 37, 38, 39, 40, 41, 42] [43, 44, 45, 46] [21, 22, 23, 24, 25] [0, 1, 45, 46] σ τ
theorem c_lay {σ : St} {g : Gh} {S c cc s : Nat} (hg : okG g) (hj : JC σ g) (hr : rOk σ) (hA : AC σ cc s) (hS : al g S = true) (h19 : zI σ 19 = nI c) (hc : c < 1000000) (h24 : ∃ k, k ≤ c ∧ zI σ 24 = nI k) : ∃ τ, ((some (uI σ 23 (0 : Int32))).bind fun s2 => (fX2_layOut s2 (nI S)).bind fun r3 => if (bi r3.1) = 0 then (some (false, r3.2))
  else ((fX2_seeWhatFollows r3.2).bind fun s4 => (fX2_makeRoom s4).bind fun s5 => (fX2_countBack s5).bind fun s6 => (some (uI s6 23 (nI S))).bind fun s7 => (fX7_changes s7).bind fun x8 => (some (uI s7 24 x8)).bind fun s9 => (some (uI s9 25 (0 : Int32))).bind fun s10 => some (true, s10))) = some (decide (sm g S), τ) ∧ OF σ τ ∧ CH τ g c ∧ AC τ (cc + 1) s ∧ (sm g S → TD τ g S ∧ zI τ 23 = nI S ∧ zI τ 24 = nI c ∧ zI τ 25 = nI 0) := by
  have hin := (al_in hg hS).1
  have hF0 : FR [] [] [23] [] σ (uI σ 23 (nI 0)) := FR.uI (FR.rf _ _ _ _ _) (by decide)
  obtain ⟨τ1, h1, h2, h3⟩ := c_layOut (σ := uI σ 23 (nI 0)) hg (hF0.jc (by decide) (by decide) (by decide) hj) hin
  have hF1 : OF σ τ1 := (hF0.mono (by decide) (by decide) (by decide) (by decide)).tr (h2.mono (by decide) (by decide) (by decide) (by decide))
  by_cases hs : sm g S
  · rw [decide_eq_true hs] at h1
    obtain ⟨hL, h21, h22⟩ := h3 hs
    obtain ⟨τ2, h4, h5, h6⟩ := c_see hg (hF1.jc (by decide) (by decide) (by decide) hj) hin hL h21 hs.2
    have hF2 : OF σ τ2 := hF1.tr (h4.mono (by decide) (by decide) (by decide) (by decide))
    have hr2 : rOk τ2 := by
      unfold rOk
      rw [hF2.2.2.2.2]
      exact hr
    have hA2 : AC τ2 cc s := ((hA.fr hF0 (by decide)).fr h2 (by decide)).fr h4 (by decide)
    have h21b := (h4.2.2.1 21 (by decide)).trans h21
    have h22b := (h4.2.2.1 22 (by decide)).trans h22
    obtain ⟨τ3, h7, h8, h9, h10⟩ := c_makeRoom hin hs h21b h22b hr2 hA2
    have hF3 : OF σ τ3 := hF2.tr (h7.mono (by decide) (by decide) (by decide) (by decide))
    have hC3 : CL τ3 g S := by
      refine ⟨hin, hs, (hL.fr h4 (by decide)).fr h7 (by decide), (h7.2.2.1 21 (by decide)).trans h21b, (h7.2.2.1 22 (by decide)).trans h22b, ?_, h8⟩
      unfold FO
      rw [h7.1 39 (by decide)]
      exact h5
    obtain ⟨τ4, h11, h12, h13, h14⟩ := c_countBack hg hC3
    have hF4 : OF σ τ4 := hF3.tr (h11.mono (by decide) (by decide) (by decide) (by decide))
    have h19b : zI τ4 19 = nI c := (hF4.2.2.1 19 (by decide)).trans h19
    have hFl : FR [] [] [23, 24, 25] [] τ4 (uI (uI (uI τ4 23 (nI S)) 24 (nI c)) 25 (nI 0)) := FR.uI (FR.uI (FR.uI (FR.rf _ _ _ _ _) (by decide)) (by decide)) (by decide)
    have hT : TD (uI (uI (uI τ4 23 (nI S)) 24 (nI c)) 25 (nI 0)) g S := ⟨(hC3.fr h11 (by decide) (by decide) (by decide)).fr hFl (by decide) (by decide) (by decide), h12.fr hFl (by decide), by rw [hFl.2.1 45 (by decide)]; exact h13⟩
    have e23 : zI (uI (uI (uI τ4 23 (nI S)) 24 (nI c)) 25 (nI 0)) 23 = nI S := by simp (disch := omega) only [l0, l1, l2, l3, l4, l5, l6, l7, l8, l9, l10, l11, l12, l16, l18, l19, l20, l21, l24, l96, l128, l100, l144, l200, l256, l288, l1536, l1728, l1800, bnd, nI_add, pk_mul, pI_sub, pI_m1, pT_le, pF_le, pT_lt, pF_lt, pT_eq, pF_eq, pF_m1, mF_eq, mT_eq, mT_lt, mF_le, lm1, rd_nI, wr_nI, cl_nI, pk_us, un_ne, pk_uLs, uL_ne, zI_uI, zI_uJ, zI_uA, zI_uB, zI_uR, zI_uN, zJ_uI, zJ_uJ, zJ_uA, zJ_uB, zJ_uR, zJ_uN, zA_uI, zA_uJ, zA_uA, zA_uB, zA_uR, zA_uN, zB_uI, zB_uJ, zB_uA, zB_uB, zB_uR, zB_uN, zR_uI, zR_uJ, zR_uA, zR_uB, zR_uR, zR_uN, zN_uI, zN_uJ, zN_uA, zN_uB, zN_uR, zN_uN, zI_ne, zJ_ne, zA_ne, zB_ne, zR_ne, zN_ne, bi_T, bi_F, nz16, ↓reduceIte, not_true_eq_false, not_false_eq_true, Bool.false_eq_true, reduceCtorEq]
    have e24 : zI (uI (uI (uI τ4 23 (nI S)) 24 (nI c)) 25 (nI 0)) 24 = nI c := by simp (disch := omega) only [l0, l1, l2, l3, l4, l5, l6, l7, l8, l9, l10, l11, l12, l16, l18, l19, l20, l21, l24, l96, l128, l100, l144, l200, l256, l288, l1536, l1728, l1800, bnd, nI_add, pk_mul, pI_sub, pI_m1, pT_le, pF_le, pT_lt, pF_lt, pT_eq, pF_eq, pF_m1, mF_eq, mT_eq, mT_lt, mF_le, lm1, rd_nI, wr_nI, cl_nI, pk_us, un_ne, pk_uLs, uL_ne, zI_uI, zI_uJ, zI_uA, zI_uB, zI_uR, zI_uN, zJ_uI, zJ_uJ, zJ_uA, zJ_uB, zJ_uR, zJ_uN, zA_uI, zA_uJ, zA_uA, zA_uB, zA_uR, zA_uN, zB_uI, zB_uJ, zB_uA, zB_uB, zB_uR, zB_uN, zR_uI, zR_uJ, zR_uA, zR_uB, zR_uR, zR_uN, zN_uI, zN_uJ, zN_uA, zN_uB, zN_uR, zN_uN, zI_ne, zJ_ne, zA_ne, zB_ne, zR_ne, zN_ne, bi_T, bi_F, nz16, ↓reduceIte, not_true_eq_false, not_false_eq_true, Bool.false_eq_true, reduceCtorEq]
    have e25 : zI (uI (uI (uI τ4 23 (nI S)) 24 (nI c)) 25 (nI 0)) 25 = nI 0 := by simp (disch := omega) only [l0, l1, l2, l3, l4, l5, l6, l7, l8, l9, l10, l11, l12, l16, l18, l19, l20, l21, l24, l96, l128, l100, l144, l200, l256, l288, l1536, l1728, l1800, bnd, nI_add, pk_mul, pI_sub, pI_m1, pT_le, pF_le, pT_lt, pF_lt, pT_eq, pF_eq, pF_m1, mF_eq, mT_eq, mT_lt, mF_le, lm1, rd_nI, wr_nI, cl_nI, pk_us, un_ne, pk_uLs, uL_ne, zI_uI, zI_uJ, zI_uA, zI_uB, zI_uR, zI_uN, zJ_uI, zJ_uJ, zJ_uA, zJ_uB, zJ_uR, zJ_uN, zA_uI, zA_uJ, zA_uA, zA_uB, zA_uR, zA_uN, zB_uI, zB_uJ, zB_uA, zB_uB, zB_uR, zB_uN, zR_uI, zR_uJ, zR_uA, zR_uB, zR_uR, zR_uN, zN_uI, zN_uJ, zN_uA, zN_uB, zN_uR, zN_uN, zI_ne, zJ_ne, zA_ne, zB_ne, zR_ne, zN_ne, bi_T, bi_F, nz16, ↓reduceIte, not_true_eq_false, not_false_eq_true, Bool.false_eq_true, reduceCtorEq]
    have e19 : zI (uI (uI (uI τ4 23 (nI S)) 24 (nI c)) 25 (nI 0)) 19 = nI c := by rw [hFl.2.2.1 19 (by decide)]; exact h19b
    refine ⟨uI (uI (uI τ4 23 (nI S)) 24 (nI c)) 25 (nI 0), ?_, hF4.tr (hFl.mono (by decide) (by decide) (by decide) (by decide)), ?_, ((h9.fr h11 (by decide)).fr hFl (by decide)), fun _ => ⟨hT, e23, e24, e25⟩⟩
    · rw [decide_eq_true hs]
      unfold fX7_changes
      simp (disch := omega) only [l0, l1, l2, l3, l4, l5, l6, l7, l8, l9, l10, l11, l12, l16, l18, l19, l20, l21, l24, l96, l128, l100, l144, l200, l256, l288, l1536, l1728, l1800, bnd, nI_add, pk_mul, pI_sub, pI_m1, pT_le, pF_le, pT_lt, pF_lt, pT_eq, pF_eq, pF_m1, mF_eq, mT_eq, mT_lt, mF_le, lm1, rd_nI, wr_nI, cl_nI, pk_us, un_ne, pk_uLs, uL_ne, zI_uI, zI_uJ, zI_uA, zI_uB, zI_uR, zI_uN, zJ_uI, zJ_uJ, zJ_uA, zJ_uB, zJ_uR, zJ_uN, zA_uI, zA_uJ, zA_uA, zA_uB, zA_uR, zA_uN, zB_uI, zB_uJ, zB_uA, zB_uB, zB_uR, zB_uN, zR_uI, zR_uJ, zR_uA, zR_uB, zR_uR, zR_uN, zN_uI, zN_uJ, zN_uA, zN_uB, zN_uR, zN_uN, zI_ne, zJ_ne, zA_ne, zB_ne, zR_ne, zN_ne, bi_T, bi_F, nz16, ↓reduceIte, not_true_eq_false, not_false_eq_true, Bool.false_eq_true, reduceCtorEq, h1, h6, h10, h14, h19b]
    · exact ⟨e19, hc, c, Nat.le_refl _, e24, fun _ => .inr ⟨S, hS, e23, hT, .inl e25⟩⟩
  · rw [decide_eq_false hs] at h1
    refine ⟨τ1, ?_, hF1, ?_, ((hA.fr hF0 (by decide)).fr h2 (by decide)).more (by omega) (Nat.le_refl _), fun x => absurd x hs⟩
    · rw [decide_eq_false hs]
      simp (disch := omega) only [l0, l1, l2, l3, l4, l5, l6, l7, l8, l9, l10, l11, l12, l16, l18, l19, l20, l21, l24, l96, l128, l100, l144, l200, l256, l288, l1536, l1728, l1800, bnd, nI_add, pk_mul, pI_sub, pI_m1, pT_le, pF_le, pT_lt, pF_lt, pT_eq, pF_eq, pF_m1, mF_eq, mT_eq, mT_lt, mF_le, lm1, rd_nI, wr_nI, cl_nI, pk_us, un_ne, pk_uLs, uL_ne, zI_uI, zI_uJ, zI_uA, zI_uB, zI_uR, zI_uN, zJ_uI, zJ_uJ, zJ_uA, zJ_uB, zJ_uR, zJ_uN, zA_uI, zA_uJ, zA_uA, zA_uB, zA_uR, zA_uN, zB_uI, zB_uJ, zB_uA, zB_uB, zB_uR, zB_uN, zR_uI, zR_uJ, zR_uA, zR_uB, zR_uR, zR_uN, zN_uI, zN_uJ, zN_uA, zN_uB, zN_uR, zN_uN, zI_ne, zJ_ne, zA_ne, zB_ne, zR_ne, zN_ne, bi_T, bi_F, nz16, ↓reduceIte, not_true_eq_false, not_false_eq_true, Bool.false_eq_true, reduceCtorEq, h1]
    · obtain ⟨k, hk, h24⟩ := h24
      refine ⟨(hF1.2.2.1 19 (by decide)).trans h19, hc, k, hk, ?_, fun _ => .inl ?_⟩
      · rw [h2.2.2.1 24 (by decide)]
        simp (disch := omega) only [l0, l1, l2, l3, l4, l5, l6, l7, l8, l9, l10, l11, l12, l16, l18, l19, l20, l21, l24, l96, l128, l100, l144, l200, l256, l288, l1536, l1728, l1800, bnd, nI_add, pk_mul, pI_sub, pI_m1, pT_le, pF_le, pT_lt, pF_lt, pT_eq, pF_eq, pF_m1, mF_eq, mT_eq, mT_lt, mF_le, lm1, rd_nI, wr_nI, cl_nI, pk_us, un_ne, pk_uLs, uL_ne, zI_uI, zI_uJ, zI_uA, zI_uB, zI_uR, zI_uN, zJ_uI, zJ_uJ, zJ_uA, zJ_uB, zJ_uR, zJ_uN, zA_uI, zA_uJ, zA_uA, zA_uB, zA_uR, zA_uN, zB_uI, zB_uJ, zB_uA, zB_uB, zB_uR, zB_uN, zR_uI, zR_uJ, zR_uA, zR_uB, zR_uR, zR_uN, zN_uI, zN_uJ, zN_uA, zN_uB, zN_uR, zN_uN, zI_ne, zJ_ne, zA_ne, zB_ne, zR_ne, zN_ne, bi_T, bi_F, nz16, ↓reduceIte, not_true_eq_false, not_false_eq_true, Bool.false_eq_true, reduceCtorEq, h24]
      · rw [h2.2.2.1 23 (by decide)]
        simp (disch := omega) only [l0, l1, l2, l3, l4, l5, l6, l7, l8, l9, l10, l11, l12, l16, l18, l19, l20, l21, l24, l96, l128, l100, l144, l200, l256, l288, l1536, l1728, l1800, bnd, nI_add, pk_mul, pI_sub, pI_m1, pT_le, pF_le, pT_lt, pF_lt, pT_eq, pF_eq, pF_m1, mF_eq, mT_eq, mT_lt, mF_le, lm1, rd_nI, wr_nI, cl_nI, pk_us, un_ne, pk_uLs, uL_ne, zI_uI, zI_uJ, zI_uA, zI_uB, zI_uR, zI_uN, zJ_uI, zJ_uJ, zJ_uA, zJ_uB, zJ_uR, zJ_uN, zA_uI, zA_uJ, zA_uA, zA_uB, zA_uR, zA_uN, zB_uI, zB_uJ, zB_uA, zB_uB, zB_uR, zB_uN, zR_uI, zR_uJ, zR_uA, zR_uB, zR_uR, zR_uN, zN_uI, zN_uJ, zN_uA, zN_uB, zN_uR, zN_uN, zI_ne, zJ_ne, zA_ne, zB_ne, zR_ne, zN_ne, bi_T, bi_F, nz16, ↓reduceIte, not_true_eq_false, not_false_eq_true, Bool.false_eq_true, reduceCtorEq]
theorem TD_mo {τ : St} {g : Gh} {S : Nat} (h : TD τ g S) : sm g S := h.1.2.1
theorem c_areTold {σ : St} {g : Gh} {S c cc s : Nat} (hg : okG g) (hj : JC σ g) (hr : rOk σ) (hA : AC σ cc s) (hS : al g S = true) (hH : CH σ g c) : ∃ τ, fX2_areTold σ (nI S) = some (decide (sm g S), τ) ∧ OF σ τ ∧ CH τ g c ∧ AC τ (cc + 1) s ∧ (sm g S → TD τ g S ∧ zI τ 23 = nI S ∧ zI τ 24 = nI c ∧ (zI τ 25 = nI 0 ∨ (zI τ 25 = nI 1 ∧ PK τ g S))) := by
  have hal := c_all hg hj (t := S) (by have := al_lt hg hS; omega)
  rw [hS] at hal
  obtain ⟨h19, hc, k, hk, h24, hkc⟩ := hH
  obtain ⟨τ, h1, h2, h3, h4, h5⟩ := c_lay hg hj hr hA hS h19 hc ⟨k, hk, h24⟩
  have again : ∃ τ, some (decide (sm g S), τ) = some (decide (sm g S), τ) ∧ OF σ τ ∧ CH τ g c ∧ AC τ (cc + 1) s ∧ (sm g S → TD τ g S ∧ zI τ 23 = nI S ∧ zI τ 24 = nI c ∧ (zI τ 25 = nI 0 ∨ (zI τ 25 = nI 1 ∧ PK τ g S))) := ⟨τ, rfl, h2, h3, h4, fun hs => by have := h5 hs; exact ⟨this.1, this.2.1, this.2.2.1, .inl this.2.2.2⟩⟩
  rw [l0] at h1
  have hc2 : fX7_changes σ = some (nI c) := by
    unfold fX7_changes
    rw [h19]
  have hlt := al_lt hg hS
  unfold fX2_areTold
  by_cases hkn : zI σ 23 = nI S
  · by_cases hkc2 : k = c
    · rcases hkc hkc2 with h6 | ⟨S', h6, h7, h8, h9⟩
      · exfalso
        rw [hkn] at h6
        have := (al_in hg hS).2
        rw [pF_eq this (by omega) (by omega)] at h6
        exact h6
      · have e : S' = S := by
          have h10 := al_lt hg h6
          rw [hkn] at h7
          exact ((nI_eq (by omega) (by omega)).mp h7).symm
        rw [e] at h8 h9
        refine ⟨σ, ?_, FR.rf _ _ _ _ _, ⟨h19, hc, k, hk, h24, hkc⟩, hA.more (by omega) (Nat.le_refl _), fun _ => ⟨h8, hkn, by rw [h24, hkc2], h9⟩⟩
        rw [decide_eq_true (TD_mo h8)]
        simp (disch := omega) only [l0, l1, l2, l3, l4, l5, l6, l7, l8, l9, l10, l11, l12, l16, l18, l19, l20, l21, l24, l96, l128, l100, l144, l200, l256, l288, l1536, l1728, l1800, bnd, nI_add, pk_mul, pI_sub, pI_m1, pT_le, pF_le, pT_lt, pF_lt, pT_eq, pF_eq, pF_m1, mF_eq, mT_eq, mT_lt, mF_le, lm1, rd_nI, wr_nI, cl_nI, pk_us, un_ne, pk_uLs, uL_ne, zI_uI, zI_uJ, zI_uA, zI_uB, zI_uR, zI_uN, zJ_uI, zJ_uJ, zJ_uA, zJ_uB, zJ_uR, zJ_uN, zA_uI, zA_uJ, zA_uA, zA_uB, zA_uR, zA_uN, zB_uI, zB_uJ, zB_uA, zB_uB, zB_uR, zB_uN, zR_uI, zR_uJ, zR_uA, zR_uB, zR_uR, zR_uN, zN_uI, zN_uJ, zN_uA, zN_uB, zN_uR, zN_uN, zI_ne, zJ_ne, zA_ne, zB_ne, zR_ne, zN_ne, bi_T, bi_F, nz16, ↓reduceIte, not_true_eq_false, not_false_eq_true, Bool.false_eq_true, reduceCtorEq, hal, hkn, hc2, h24]
    · refine ⟨τ, ?_, h2, h3, h4, fun hs => by have := h5 hs; exact ⟨this.1, this.2.1, this.2.2.1, .inl this.2.2.2⟩⟩
      rw [← h1]
      simp (disch := omega) only [l0, l1, l2, l3, l4, l5, l6, l7, l8, l9, l10, l11, l12, l16, l18, l19, l20, l21, l24, l96, l128, l100, l144, l200, l256, l288, l1536, l1728, l1800, bnd, nI_add, pk_mul, pI_sub, pI_m1, pT_le, pF_le, pT_lt, pF_lt, pT_eq, pF_eq, pF_m1, mF_eq, mT_eq, mT_lt, mF_le, lm1, rd_nI, wr_nI, cl_nI, pk_us, un_ne, pk_uLs, uL_ne, zI_uI, zI_uJ, zI_uA, zI_uB, zI_uR, zI_uN, zJ_uI, zJ_uJ, zJ_uA, zJ_uB, zJ_uR, zJ_uN, zA_uI, zA_uJ, zA_uA, zA_uB, zA_uR, zA_uN, zB_uI, zB_uJ, zB_uA, zB_uB, zB_uR, zB_uN, zR_uI, zR_uJ, zR_uA, zR_uB, zR_uR, zR_uN, zN_uI, zN_uJ, zN_uA, zN_uB, zN_uR, zN_uN, zI_ne, zJ_ne, zA_ne, zB_ne, zR_ne, zN_ne, bi_T, bi_F, nz16, ↓reduceIte, not_true_eq_false, not_false_eq_true, Bool.false_eq_true, reduceCtorEq, hal, hkn, hc2, h24]
  · refine ⟨τ, ?_, h2, h3, h4, fun hs => by have := h5 hs; exact ⟨this.1, this.2.1, this.2.2.1, .inl this.2.2.2⟩⟩
    rw [← h1]
    simp (disch := omega) only [l0, l1, l2, l3, l4, l5, l6, l7, l8, l9, l10, l11, l12, l16, l18, l19, l20, l21, l24, l96, l128, l100, l144, l200, l256, l288, l1536, l1728, l1800, bnd, nI_add, pk_mul, pI_sub, pI_m1, pT_le, pF_le, pT_lt, pF_lt, pT_eq, pF_eq, pF_m1, mF_eq, mT_eq, mT_lt, mF_le, lm1, rd_nI, wr_nI, cl_nI, pk_us, un_ne, pk_uLs, uL_ne, zI_uI, zI_uJ, zI_uA, zI_uB, zI_uR, zI_uN, zJ_uI, zJ_uJ, zJ_uA, zJ_uB, zJ_uR, zJ_uN, zA_uI, zA_uJ, zA_uA, zA_uB, zA_uR, zA_uN, zB_uI, zB_uJ, zB_uA, zB_uB, zB_uR, zB_uN, zR_uI, zR_uJ, zR_uA, zR_uB, zR_uR, zR_uN, zN_uI, zN_uJ, zN_uA, zN_uB, zN_uR, zN_uN, zI_ne, zJ_ne, zA_ne, zB_ne, zR_ne, zN_ne, bi_T, bi_F, nz16, ↓reduceIte, not_true_eq_false, not_false_eq_true, Bool.false_eq_true, reduceCtorEq, hal, if_neg hkn]
