/-! habits: clauses (the spec), the class's takeAll and faultOf *-/
def clX (x : Sx) : Sx := nd 58 (nd 121 x)
def clC1 (e : En) (x : Sx) : Bool × Sx := hcS (unS e 8 0) (clX x)
def clV0 (e : En) (x : Sx) : Int × Sx := smD e 0 (clX x)
def clC0 (e : En) (x : Sx) : Bool × Sx := ptS2 (unS e 8 0) (cmS e 0 (clV0 e x).1 (clV0 e x).2)
where ptS2 (u : Sx → Bool × Sx) (c : Bool × Sx) : Bool × Sx := ulL u 200 c.1 c.2
def clC2 (e : En) (x : Sx) : Bool × Sx := trL (unS e 8 0) 200 (clC0 e x).1 (clC0 e x).2
def clV (e : En) (c : Bool × Sx) : Int × Sx := smD e 0 (nd 63 c.2)
def cls (e : En) (x : Sx) : Bool × (Int × Sx) := if sg (clX x) = 33 ∨ sg (clX x) = 40 then ((clC1 e x).1, clV e (clC1 e x)) else if isRl (sg (clV0 e x).2) = true then ((clC2 e x).1, clV e (clC2 e x)) else (true, clV0 e x)
def clL (e : En) : Nat → Bool → Int → Sx → Int × Sx
  | 0, _, w, x => (w, x)
  | n + 1, h, w, x => if tb 59 (cls e x).2.2 = true then clL e n (h || (cls e x).1) (if ((cls e x).1 && !h) = true then (cls e x).2.1 else w) (tlx (cls e x).2.2) else (if ((cls e x).1 && !h) = true then (cls e x).2.1 else w, (cls e x).2.2)
theorem cls_g {e : En} (he : eB e) (N : Nat) (x : Sx) (hx : gX N x) : gX N (cls e x).2.2 ∧ bnd6 (cls e x).2.1 := by
  have h1 : gX N (clX x) := gX_nd (gX_nd hx (by decide)) (by decide)
  unfold cls
  split
  · have h2 := hcS_g (unS_g he N 8 0) N (clX x) (Nat.le_refl _) h1
    exact smD_g he 0 N _ (gX_nd h2 (by decide))
  · have h3 := smD_g he 0 N (clX x) h1
    split
    · have h4 := cmS_g he 0 N (clV0 e x).1 (clV0 e x).2 h3.1
      have h5 := ulL_g (unS_g he N 8 0) 200 (cmS e 0 (clV0 e x).1 (clV0 e x).2).1 N _ (Nat.le_refl _) h4
      have h6 := trL_g (unS_g he N 8 0) 200 (clC0 e x).1 N _ (Nat.le_refl _) h5
      exact smD_g he 0 N _ (gX_nd h6 (by decide))
    · exact h3
def HG (y υ : St) : Prop := FR [] [] [9, 10, 16] [] y υ ∧ zJ υ = zJ y
theorem HG.of {y υ : St} (h : HF y υ) : HG y υ := ⟨h.1.mono (by decide) (by decide) (by decide) (by decide), h.2⟩
theorem HG.tr {y υ w : St} (h : HG y υ) (k : HG υ w) : HG y w := ⟨h.1.tr k.1, k.2.trans h.2⟩
theorem HG.rf (y : St) : HG y y := ⟨FR.rf _ _ _ _ _, rfl⟩
theorem EC.fg {y υ : St} {e : En} (h : EC y e) (f : HG y υ) : EC υ e := by
  unfold EC
  rw [f.1.2.2.1 12 (by decide), f.1.2.2.1 13 (by decide), f.1.2.2.1 14 (by decide), f.1.2.2.1 15 (by decide), f.2]
  exact h
theorem HS.u16 {y : St} {q : Nat} {T : List Tk} {x : Sx} {v : Int32} (h : HS y q T x) : HS (uI y 16 v) q T x := by
  cases x with
  | inl p =>
    refine ⟨?_, fun hq => ?_, h.2.2⟩
    · rw [zI_ne (by decide)]; exact h.1
    · rw [zI_ne (by decide)]; exact h.2.1 hq
  | inr R =>
    obtain ⟨h1, h2, h3, h4, h5, h6, h7, pre, h8, h9⟩ := h
    exact ⟨h1, h2, by rw [zI_ne (by decide)]; exact h3, h4, h5, h6, h7, pre, h8, by rw [zI_ne (by decide)]; exact h9⟩
/-- the end of a clause -/
theorem c_clEnd {q M : Nat} {T : List Tk} {y : St} {x : Sx} {h b : Bool} {v w : Int} {i : Nat} (kb : St → Int32 → Int32 → Int32 → Option St) (hS : HS y q T x) (hx : gX M x) (h16 : zI y 16 = iI w) : ∃ υ, ((if bi b = nI 0 then ((fX5_takes_h y (nI 59)).bind fun r => kb r.2 (bi h) (bi r.1) (nI (i + 1))) else (if bi h = nI 0 then ((fX5_takes_h (uI y 16 (iI v)) (nI 59)).bind fun r => kb r.2 (nI 1) (bi r.1) (nI (i + 1))) else ((fX5_takes_h y (nI 59)).bind fun r => kb r.2 (bi h) (bi r.1) (nI (i + 1))))) = kb υ (bi (h || b)) (bi (tb 59 x)) (nI (i + 1))) ∧ HS υ q T (if tb 59 x = true then tlx x else x) ∧ HG y υ ∧ zI υ 16 = iI (if (b && !h) = true then v else w) := by
  obtain ⟨y1, a1, a2, a3⟩ := h_takes (v := 59) hS hx (by decide)
  obtain ⟨y2, b1, b2, b3⟩ := h_takes (v := 59) (hS.u16 (v := iI v)) hx (by decide)
  have h161 : zI y1 16 = iI w := (a3.1.2.2.1 16 (by decide)).trans h16
  have h162 : zI y2 16 = iI v := by rw [b3.1.2.2.1 16 (by decide), zI_uI]
  have hF2 : HG y y2 := HG.tr ⟨FR.uI (FR.rf _ _ _ _ _) (by decide), rfl⟩ (HG.of b3)
  cases b with
  | false =>
    refine ⟨y1, ?_, a2, HG.of a3, h161⟩
    rw [bi_F, if_pos rfl, a1, bnd, Bool.or_false]
  | true =>
    cases h with
    | false =>
      refine ⟨y2, ?_, b2, hF2, h162⟩
      rw [bi_T, bi_F, if_neg (by decide), if_pos rfl, b1, bnd]
      rfl
    | true =>
      refine ⟨y1, ?_, a2, HG.of a3, h161⟩
      rw [bi_T, if_neg (by decide), if_neg (by decide), a1, bnd]
      rfl
theorem l63 : (63 : Int32) = nI 63 := nrfl rfl
theorem l121 : (121 : Int32) = nI 121 := nrfl rfl
theorem l58 : (58 : Int32) = nI 58 := nrfl rfl
theorem c_clause {q N : Nat} {T : List Tk} {e : En} {y : St} {x : Sx} {h : Bool} {w : Int} {i : Nat} (kb : St → Int32 → Int32 → Int32 → Option St) (hi : i < 200) (hS : HS y q T x) (hx : gX N x) (hE : EC y e) (h16 : zI y 16 = iI w) : ∃ υ, fX1_takeAll_L11 kb y (bi h) (nI 1) (nI i) = kb υ (bi (h || (cls e x).1)) (bi (tb 59 (cls e x).2.2)) (nI (i + 1)) ∧ HS υ q T (if tb 59 (cls e x).2.2 = true then tlx (cls e x).2.2 else (cls e x).2.2) ∧ HG y υ ∧ zI υ 16 = iI (if ((cls e x).1 && !h) = true then (cls e x).2.1 else w) := by
  have heb := hE.eb
  obtain ⟨y1, a1, a2, a3⟩ := h_needs (v := 121) hS hx (by decide)
  have g1 := gX_nd (v := 121) hx (by decide)
  obtain ⟨y2, b1, b2, b3⟩ := h_needs (v := 58) a2 g1 (by decide)
  have g2 : gX N (clX x) := gX_nd (v := 58) g1 (by decide)
  have hS2 : HS y2 q T (clX x) := b2
  have hs := h_sign hS2 g2
  have hsl := sg_lt (clX x)
  have hF2 := a3.tr b3
  have hE2 := hE.fr hF2
  have hgu := unS_g heb N 8 0
  have hcu := c_unit (q := q) (N := N) (T := T) (e := e) 8 0 (by decide) (by decide)
  -- behind a condition
  have beh : ∀ (z : St) (c : Bool × Sx), HS z q T c.2 → gX N c.2 → HF y z → ∃ υ, ((fX5_needs_h z (nI 63)).bind fun s9 => (fX1_sum 8 s9 (nI 0)).bind fun r10 => (if bi c.1 = nI 0 then ((fX5_takes_h r10.2 (nI 59)).bind fun r => kb r.2 (bi h) (bi r.1) (nI (i + 1))) else (if bi h = nI 0 then ((fX5_takes_h (uI r10.2 16 r10.1) (nI 59)).bind fun r => kb r.2 (nI 1) (bi r.1) (nI (i + 1))) else ((fX5_takes_h r10.2 (nI 59)).bind fun r => kb r.2 (bi h) (bi r.1) (nI (i + 1)))))) = kb υ (bi (h || c.1)) (bi (tb 59 (clV e c).2)) (nI (i + 1)) ∧ HS υ q T (if tb 59 (clV e c).2 = true then tlx (clV e c).2 else (clV e c).2) ∧ HG y υ ∧ zI υ 16 = iI (if (c.1 && !h) = true then (clV e c).1 else w) := by
    intro z c hz hc hFz
    obtain ⟨z1, d1, d2, d3⟩ := h_needs (v := 63) hz hc (by decide)
    have g3 := gX_nd (v := 63) hc (by decide)
    obtain ⟨z2, f1, f2, f3⟩ := c_smD (N := N) 0 (by decide) z1 (nd 63 c.2) N (Nat.le_refl _) d2 g3 ((hE.fr hFz).fr d3)
    have f1 : fX1_sum 8 z1 (nI 0) = some (iI (clV e c).1, z2) := f1
    have g4 := smD_g heb 0 N (nd 63 c.2) g3
    have hFt := (hFz.tr d3).tr f3
    obtain ⟨υ, k1, k2, k3, k4⟩ := c_clEnd (h := h) (b := c.1) (v := (clV e c).1) (w := w) (i := i) kb f2 g4.1 ((hFt.1.2.2.1 16 (by decide)).trans h16)
    refine ⟨υ, ?_, k2, (HG.of hFt).tr k3, k4⟩
    rw [d1, bnd, f1, bnd]
    exact k1
  unfold fX1_takeAll_L11 cls
  by_cases hop : sg (clX x) = 33 ∨ sg (clX x) = 40
  · rw [if_pos hop]
    obtain ⟨z, c1, c2, c3⟩ := c_hcS hcu hgu y2 (clX x) N (Nat.le_refl _) hS2 g2 hE2
    have c1 : fX1_condition 8 y2 (nI 0) = some ((clC1 e x).1, z) := c1
    have g3 := hcS_g hgu N (clX x) (Nat.le_refl _) g2
    obtain ⟨υ, k1, k2, k3, k4⟩ := beh z (clC1 e x) c2 g3 (hF2.tr c3)
    refine ⟨υ, ?_, k2, k3, k4⟩
    rw [← k1]
    rcases hop with hop | hop
    · unfold fX1_takeAll_J57 fX1_takeAll_J93
      simp (disch := omega) only [l0, l1, l2, l3, l4, l5, l6, l7, l8, l9, l10, l11, l12, l16, l18, l19, l20, l21, l24, l96, l128, l100, l144, l200, l256, l288, l1536, l1728, l1800, bnd, nI_add, pk_mul, pI_sub, pI_m1, pT_le, pF_le, pT_lt, pF_lt, pT_eq, pF_eq, pF_m1, mF_eq, mT_eq, mT_lt, mF_le, lm1, rd_nI, wr_nI, cl_nI, pk_us, un_ne, pk_uLs, uL_ne, zI_uI, zI_uJ, zI_uA, zI_uB, zI_uR, zI_uN, zJ_uI, zJ_uJ, zJ_uA, zJ_uB, zJ_uR, zJ_uN, zA_uI, zA_uJ, zA_uA, zA_uB, zA_uR, zA_uN, zB_uI, zB_uJ, zB_uA, zB_uB, zB_uR, zB_uN, zR_uI, zR_uJ, zR_uA, zR_uB, zR_uR, zR_uN, zN_uI, zN_uJ, zN_uA, zN_uB, zN_uR, zN_uN, zI_ne, zJ_ne, zA_ne, zB_ne, zR_ne, zN_ne, bi_T, bi_F, nz16, ↓reduceIte, not_true_eq_false, not_false_eq_true, Bool.false_eq_true, reduceCtorEq, l121, a1, l58, b1, hs, l33, hop, c1, l63, l59]
    · unfold fX1_takeAll_J57 fX1_takeAll_J93
      simp (disch := omega) only [l0, l1, l2, l3, l4, l5, l6, l7, l8, l9, l10, l11, l12, l16, l18, l19, l20, l21, l24, l96, l128, l100, l144, l200, l256, l288, l1536, l1728, l1800, bnd, nI_add, pk_mul, pI_sub, pI_m1, pT_le, pF_le, pT_lt, pF_lt, pT_eq, pF_eq, pF_m1, mF_eq, mT_eq, mT_lt, mF_le, lm1, rd_nI, wr_nI, cl_nI, pk_us, un_ne, pk_uLs, uL_ne, zI_uI, zI_uJ, zI_uA, zI_uB, zI_uR, zI_uN, zJ_uI, zJ_uJ, zJ_uA, zJ_uB, zJ_uR, zJ_uN, zA_uI, zA_uJ, zA_uA, zA_uB, zA_uR, zA_uN, zB_uI, zB_uJ, zB_uA, zB_uB, zB_uR, zB_uN, zR_uI, zR_uJ, zR_uA, zR_uB, zR_uR, zR_uN, zN_uI, zN_uJ, zN_uA, zN_uB, zN_uR, zN_uN, zI_ne, zJ_ne, zA_ne, zB_ne, zR_ne, zN_ne, bi_T, bi_F, nz16, ↓reduceIte, not_true_eq_false, not_false_eq_true, Bool.false_eq_true, reduceCtorEq, l121, a1, l58, b1, hs, l33, l40, hop, c1, l63, l59]
  · rw [if_neg hop]
    obtain ⟨z, c1, c2, c3⟩ := c_smD (N := N) 0 (by decide) y2 (clX x) N (Nat.le_refl _) hS2 g2 hE2
    have c1 : fX1_sum 8 y2 (nI 0) = some (iI (clV0 e x).1, z) := c1
    have c2 : HS z q T (clV0 e x).2 := c2
    have g3 := smD_g heb 0 N (clX x) g2
    have g3 : gX N (clV0 e x).2 ∧ bnd6 (clV0 e x).1 := g3
    have hs2 := h_sign c2 g3.1
    have hsl2 := sg_lt (clV0 e x).2
    have hrl := (c_isRel hsl2).1
    have hFz := hF2.tr c3
    have hEz := hE.fr hFz
    by_cases hr : isRl (sg (clV0 e x).2) = true
    · rw [if_pos hr]
      rw [hr] at hrl
      obtain ⟨z1, d1, d2, d3⟩ := c_cmS (N := N) 0 (by decide) (clV0 e x).1 g3.2 z (clV0 e x).2 N (Nat.le_refl _) c2 g3.1 hEz
      have d1 : fX1_compared z (iI (clV0 e x).1) (nI 0) = some ((cmS e 0 (clV0 e x).1 (clV0 e x).2).1, z1) := d1
      have g4 := cmS_g heb 0 N (clV0 e x).1 (clV0 e x).2 g3.1
      obtain ⟨z2, f1, f2, f3⟩ := c_ulL hcu hgu (cmS e 0 (clV0 e x).1 (clV0 e x).2).1 z1 _ N (Nat.le_refl _) d2 g4 (hEz.fr d3)
      have f1 : fX1_moreUnits 8 z1 (bi (cmS e 0 (clV0 e x).1 (clV0 e x).2).1) (nI 0) = some ((clC0 e x).1, z2) := f1
      have g5 : gX N (clC0 e x).2 := ulL_g hgu 200 _ N _ (Nat.le_refl _) g4
      obtain ⟨z3, p1, p2, p3⟩ := c_trL hcu hgu (clC0 e x).1 z2 (clC0 e x).2 N (Nat.le_refl _) f2 g5 ((hEz.fr d3).fr f3)
      have p1 : fX1_moreTruths 8 z2 (bi (clC0 e x).1) (nI 0) = some ((clC2 e x).1, z3) := p1
      have g6 : gX N (clC2 e x).2 := trL_g hgu 200 _ N _ (Nat.le_refl _) g5
      obtain ⟨υ, k1, k2, k3, k4⟩ := beh z3 (clC2 e x) p2 g6 (((hFz.tr d3).tr f3).tr p3)
      refine ⟨υ, ?_, k2, k3, k4⟩
      rw [← k1]
      unfold fX1_takeAll_J57 fX1_takeAll_J93
      simp (disch := omega) only [l0, l1, l2, l3, l4, l5, l6, l7, l8, l9, l10, l11, l12, l16, l18, l19, l20, l21, l24, l96, l128, l100, l144, l200, l256, l288, l1536, l1728, l1800, bnd, nI_add, pk_mul, pI_sub, pI_m1, pT_le, pF_le, pT_lt, pF_lt, pT_eq, pF_eq, pF_m1, mF_eq, mT_eq, mT_lt, mF_le, lm1, rd_nI, wr_nI, cl_nI, pk_us, un_ne, pk_uLs, uL_ne, zI_uI, zI_uJ, zI_uA, zI_uB, zI_uR, zI_uN, zJ_uI, zJ_uJ, zJ_uA, zJ_uB, zJ_uR, zJ_uN, zA_uI, zA_uJ, zA_uA, zA_uB, zA_uR, zA_uN, zB_uI, zB_uJ, zB_uA, zB_uB, zB_uR, zB_uN, zR_uI, zR_uJ, zR_uA, zR_uB, zR_uR, zR_uN, zN_uI, zN_uJ, zN_uA, zN_uB, zN_uR, zN_uN, zI_ne, zJ_ne, zA_ne, zB_ne, zR_ne, zN_ne, bi_T, bi_F, nz16, ↓reduceIte, not_true_eq_false, not_false_eq_true, Bool.false_eq_true, reduceCtorEq, l121, a1, l58, b1, hs, l33, l40, c1, hs2, hrl, d1, f1, p1, l63, l59]
    · rw [if_neg hr]
      have hf : isRl (sg (clV0 e x).2) = false := Bool.eq_false_iff.mpr hr
      rw [hf] at hrl
      obtain ⟨υ, k1, k2, k3, k4⟩ := c_clEnd (h := h) (b := true) (v := (clV0 e x).1) (w := w) (i := i) kb c2 g3.1 ((hFz.1.2.2.1 16 (by decide)).trans h16)
      refine ⟨υ, ?_, k2, (HG.of hFz).tr k3, k4⟩
      rw [← k1]
      unfold fX1_takeAll_J57
      simp (disch := omega) only [l0, l1, l2, l3, l4, l5, l6, l7, l8, l9, l10, l11, l12, l16, l18, l19, l20, l21, l24, l96, l128, l100, l144, l200, l256, l288, l1536, l1728, l1800, bnd, nI_add, pk_mul, pI_sub, pI_m1, pT_le, pF_le, pT_lt, pF_lt, pT_eq, pF_eq, pF_m1, mF_eq, mT_eq, mT_lt, mF_le, lm1, rd_nI, wr_nI, cl_nI, pk_us, un_ne, pk_uLs, uL_ne, zI_uI, zI_uJ, zI_uA, zI_uB, zI_uR, zI_uN, zJ_uI, zJ_uJ, zJ_uA, zJ_uB, zJ_uR, zJ_uN, zA_uI, zA_uJ, zA_uA, zA_uB, zA_uR, zA_uN, zB_uI, zB_uJ, zB_uA, zB_uB, zB_uR, zB_uN, zR_uI, zR_uJ, zR_uA, zR_uB, zR_uR, zR_uN, zN_uI, zN_uJ, zN_uA, zN_uB, zN_uR, zN_uN, zI_ne, zJ_ne, zA_ne, zB_ne, zR_ne, zN_ne, bi_T, bi_F, nz16, ↓reduceIte, not_true_eq_false, not_false_eq_true, Bool.false_eq_true, reduceCtorEq, l121, a1, l58, b1, hs, l33, l40, c1, hs2, hrl, l59]
theorem c_takeAll_h {q N : Nat} {T : List Tk} {e : En} {y : St} {x : Sx} (hS : HS y q T x) (hx : gX N x) (hE : EC y e) : ∃ υ, fX1_takeAll y = some υ ∧ HS υ q T (clL e 200 false 0 x).2 ∧ HG y υ ∧ zI υ 16 = iI (clL e 200 false 0 x).1 := by
  have heb := hE.eb
  have hG0 : HG y (uI y 16 (nI 0)) := ⟨FR.uI (FR.rf _ _ _ _ _) (by decide), rfl⟩
  have key := it_for (β := St × Bool × Bool × Int × Sx) (body := fun (kb : (St × Int32 × Int32 × Int32) → Option St) (t : St × Int32 × Int32 × Int32) => fX1_takeAll_L11 (fun σ v1 v2 v3 => kb (σ, v1, v2, v3)) t.1 t.2.1 t.2.2.1 t.2.2.2) 200 (by omega) (fun i b => (b.1, bi b.2.1, bi b.2.2.1, nI i)) (fun i b => HG y b.1 ∧ HS b.1 q T b.2.2.2.2 ∧ gX N b.2.2.2.2 ∧ zI b.1 16 = iI b.2.2.2.1 ∧ (b.2.2.1 = true → clL e 200 false 0 x = clL e (200 - i) b.2.1 b.2.2.2.1 b.2.2.2.2) ∧ (b.2.2.1 = false → clL e 200 false 0 x = (b.2.2.2.1, b.2.2.2.2))) (fun i b z => ∃ υ, z = some υ ∧ HS υ q T (clL e 200 false 0 x).2 ∧ HG y υ ∧ zI υ 16 = iI (clL e 200 false 0 x).1) ?_ 0 (uI y 16 (nI 0), false, true, 0, x) (Nat.zero_le _) ⟨hG0, hS.u16, hx, by rw [zI_uI]; rfl, fun _ => rfl, fun h => by cases h⟩
  · obtain ⟨υ, k1, k2, k3, k4⟩ := key
    exact ⟨υ, k1, k2, k3, k4⟩
  · rintro i ⟨z, h, more, w, x'⟩ hi ⟨jG, jS, jx, j16, jt, jf⟩ kb hkb
    have hG : HG y z := jG
    have hSz : HS z q T x' := jS
    have hx' : gX N x' := jx
    have h16 : zI z 16 = iI w := j16
    have ht : more = true → clL e 200 false 0 x = clL e (200 - i) h w x' := jt
    have hf : more = false → clL e 200 false 0 x = (w, x') := jf
    clear jG jS jx j16 jt jf
    show ∃ υ, fX1_takeAll_L11 (fun σ v1 v2 v3 => kb (σ, v1, v2, v3)) z (bi h) (bi more) (nI i) = some υ ∧ _
    have stop : clL e 200 false 0 x = (w, x') → ∃ υ, some z = some υ ∧ HS υ q T (clL e 200 false 0 x).2 ∧ HG y υ ∧ zI υ 16 = iI (clL e 200 false 0 x).1 := fun he => ⟨z, rfl, by rw [he]; exact hSz, hG, by rw [he]; exact h16⟩
    by_cases hi2 : i = 200
    · have he : clL e 200 false 0 x = (w, x') := by
        cases hm : more with
        | true => rw [ht hm, hi2]; rfl
        | false => exact hf hm
      obtain ⟨υ, k1, k2⟩ := stop he
      refine ⟨υ, ?_, k2⟩
      rw [← k1]
      unfold fX1_takeAll_L11
      simp (disch := omega) only [l0, l1, l2, l3, l4, l5, l6, l7, l8, l9, l10, l11, l12, l16, l18, l19, l20, l21, l24, l96, l128, l100, l144, l200, l256, l288, l1536, l1728, l1800, bnd, nI_add, pk_mul, pI_sub, pI_m1, pT_le, pF_le, pT_lt, pF_lt, pT_eq, pF_eq, pF_m1, mF_eq, mT_eq, mT_lt, mF_le, lm1, rd_nI, wr_nI, cl_nI, pk_us, un_ne, pk_uLs, uL_ne, zI_uI, zI_uJ, zI_uA, zI_uB, zI_uR, zI_uN, zJ_uI, zJ_uJ, zJ_uA, zJ_uB, zJ_uR, zJ_uN, zA_uI, zA_uJ, zA_uA, zA_uB, zA_uR, zA_uN, zB_uI, zB_uJ, zB_uA, zB_uB, zB_uR, zB_uN, zR_uI, zR_uJ, zR_uA, zR_uB, zR_uR, zR_uN, zN_uI, zN_uJ, zN_uA, zN_uB, zN_uR, zN_uN, zI_ne, zJ_ne, zA_ne, zB_ne, zR_ne, zN_ne, bi_T, bi_F, nz16, ↓reduceIte, not_true_eq_false, not_false_eq_true, Bool.false_eq_true, reduceCtorEq, hi2]
    · cases hm : more with
      | false =>
        obtain ⟨υ, k1, k2⟩ := stop (hf hm)
        refine ⟨υ, ?_, k2⟩
        rw [← k1]
        unfold fX1_takeAll_L11
        simp (disch := omega) only [l0, l1, l2, l3, l4, l5, l6, l7, l8, l9, l10, l11, l12, l16, l18, l19, l20, l21, l24, l96, l128, l100, l144, l200, l256, l288, l1536, l1728, l1800, bnd, nI_add, pk_mul, pI_sub, pI_m1, pT_le, pF_le, pT_lt, pF_lt, pT_eq, pF_eq, pF_m1, mF_eq, mT_eq, mT_lt, mF_le, lm1, rd_nI, wr_nI, cl_nI, pk_us, un_ne, pk_uLs, uL_ne, zI_uI, zI_uJ, zI_uA, zI_uB, zI_uR, zI_uN, zJ_uI, zJ_uJ, zJ_uA, zJ_uB, zJ_uR, zJ_uN, zA_uI, zA_uJ, zA_uA, zA_uB, zA_uR, zA_uN, zB_uI, zB_uJ, zB_uA, zB_uB, zB_uR, zB_uN, zR_uI, zR_uJ, zR_uA, zR_uB, zR_uR, zR_uN, zN_uI, zN_uJ, zN_uA, zN_uB, zN_uR, zN_uN, zI_ne, zJ_ne, zA_ne, zB_ne, zR_ne, zN_ne, bi_T, bi_F, nz16, ↓reduceIte, not_true_eq_false, not_false_eq_true, Bool.false_eq_true, reduceCtorEq]
      | true =>
        have ht := ht hm
        rw [show 200 - i = (200 - (i + 1)) + 1 by omega] at ht
        have ht : clL e 200 false 0 x = if tb 59 (cls e x').2.2 = true then clL e (200 - (i + 1)) (h || (cls e x').1) (if ((cls e x').1 && !h) = true then (cls e x').2.1 else w) (tlx (cls e x').2.2) else (if ((cls e x').1 && !h) = true then (cls e x').2.1 else w, (cls e x').2.2) := ht
        obtain ⟨υ, k1, k2, k3, k4⟩ := c_clause (h := h) (w := w) (i := i) (fun σ v1 v2 v3 => kb (σ, v1, v2, v3)) (by omega) hSz hx' (hE.fg hG) h16
        have g1 := (cls_g heb N x' hx').1
        rw [bi_T]
        rw [k1]
        cases hb : tb 59 (cls e x').2.2 with
        | true =>
          rw [if_pos hb] at k2 ht
          have g2 := gX_tl g1 (by rw [tb_sg (by decide) hb]; decide)
          obtain ⟨u, m1, m2⟩ := hkb (υ, (h || (cls e x').1), true, (if ((cls e x').1 && !h) = true then (cls e x').2.1 else w), tlx (cls e x').2.2) (by omega) ⟨hG.tr k3, k2, gX_mono g2 (by omega), k4, fun _ => ht, fun h => by cases h⟩
          exact ⟨u, m1, m2⟩
        | false =>
          have hb' : ¬ tb 59 (cls e x').2.2 = true := by rw [hb]; decide
          rw [if_neg hb'] at k2 ht
          obtain ⟨u, m1, m2⟩ := hkb (υ, (h || (cls e x').1), false, (if ((cls e x').1 && !h) = true then (cls e x').2.1 else w), (cls e x').2.2) (by omega) ⟨hG.tr k3, k2, g1, k4, (fun h => by cases h), fun _ => ht⟩
          exact ⟨u, m1, m2⟩
/-- how a text reads as a habit, with the letters' values *-/
def pHab (e : En) (bs : List Nat) : Int × Sx := clL e 200 false 0 (.inr (tkF Jh 4 gh bs))
theorem gX_F {bs : List Nat} (hl : bs.length ≤ 200) (hb : ∀ b, b ∈ bs → 1 ≤ b ∧ b < 256) (hn : (tkF Jh 4 gh bs).length ≤ 201) : gX 201 (.inr (tkF Jh 4 gh bs)) := by
  refine ⟨gT_h hl hb, fun t ht => ?_, hn⟩
  unfold tkF at ht
  rw [List.mem_append, List.mem_singleton] at ht
  rcases ht with ht | ht
  · refine tk_lt (B := fun r => 10 ^ r) (K := 11000) (fun r v c hj hv hr => ?_) (by decide) (.inl (by decide)) (fun r hr => ?_) (by decide) bs 0 0 none (fun b h => (hb b h).2) (fun p h => by cases h) t ht
    · have h1 := of_decide_eq_true hj
      unfold gh
      show _ < 10 ^ (r + 1)
      rw [Nat.pow_succ]
      have hv : v < 10 ^ r := hv
      omega
    · have h1 : (10 : Nat) ^ r ≤ 10 ^ 4 := Nat.pow_le_pow_right (by decide) hr
      show 10 ^ r + 1000 ≤ _
      omega
  · rw [ht]
    show 256 < 11000
    decide
