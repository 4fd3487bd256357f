/-! habits: conditions (the spec), and the class's *-/
def isRl (s : Nat) : Bool := decide (s = 61 ∨ s = 60 ∨ s = 62)
def cmpR (s : Nat) (l r : Int) : Bool := if s = 61 then decide (l = r) else if s = 60 then decide (l < r) else decide (r < l)
def smD (e : En) (dp : Nat) (x : Sx) : Int × Sx := smS (atS e 8 dp) x
def cmS (e : En) (dp : Nat) (l : Int) (x : Sx) : Bool × Sx := if isRl (sg x) = true then (cmpR (sg x) l (smD e dp (tlx x)).1, (smD e dp (tlx x)).2) else (false, slx x)
def bsS (cd : Nat → Sx → Bool × Sx) (e : En) (dp : Nat) (x : Sx) : Bool × Sx := if dp < 6 ∧ tb 40 x = true then ((cd (dp + 1) (tlx x)).1, nd 41 (cd (dp + 1) (tlx x)).2) else cmS e dp (smD e dp x).1 (smD e dp x).2
def unN (cd : Nat → Sx → Bool × Sx) (e : En) : Nat → Nat → Sx → Bool × Sx
  | 0, dp, x => bsS cd e dp x
  | n + 1, dp, x => if tb 33 x = true then (!(unN cd e n (dp + 1) (tlx x)).1, (unN cd e n (dp + 1) (tlx x)).2) else bsS cd e dp x
def ulL (u : Sx → Bool × Sx) : Nat → Bool → Sx → Bool × Sx
  | 0, a, x => (a, x)
  | n + 1, a, x => if tb 38 x = true then ulL u n (a && (u (tlx x)).1) (u (tlx x)).2 else (a, x)
def ptS (u : Sx → Bool × Sx) (x : Sx) : Bool × Sx := ulL u 200 (u x).1 (u x).2
def trL (u : Sx → Bool × Sx) : Nat → Bool → Sx → Bool × Sx
  | 0, a, x => (a, x)
  | n + 1, a, x => if tb 124 x = true then trL u n (a || (ptS u (tlx x)).1) (ptS u (tlx x)).2 else (a, x)
def hcS (u : Sx → Bool × Sx) (x : Sx) : Bool × Sx := trL u 200 (ptS u x).1 (ptS u x).2
def unS (e : En) : Nat → Nat → Sx → Bool × Sx
  | 0, _, x => (false, x)
  | k + 1, dp, x => unN (fun dp x => hcS (unS e k dp) x) e (6 - dp) dp x
/-! they keep the tokens well made -/
def gB (N : Nat) (s : Sx → Bool × Sx) : Prop := ∀ N' x, N' ≤ N → gX N' x → gX N' (s x).2
theorem tb_sg {v : Nat} {x : Sx} (hv : v < 256) (h : tb v x = true) : sg x = v := by
  cases x with
  | inl p => cases h
  | inr R =>
    have h : (hd R).1 = v := of_decide_eq_true h
    show (if (hd R).1 < 1000 then _ else _) = _
    rw [if_pos (by omega), h]
theorem tb_no {v : Nat} {x : Sx} (hv : v < 256) (h : ¬ tb v x = true) : sg x ≠ v := by
  intro e
  apply h
  cases x with
  | inl p => have : sg (.inl p) = 257 := rfl; omega
  | inr R =>
    have e : (if (hd R).1 < 1000 then (hd R).1 else 1000) = v := e
    exact decide_eq_true (by split at e <;> omega)
theorem smD_g {e : En} (he : eB e) (dp N : Nat) (x : Sx) (hx : gX N x) : gX N (smD e dp x).2 ∧ bnd6 (smD e dp x).1 :=
  smS_g (N := N) (fun N' x _ hx => atS_g he 8 dp x N' hx) x N (Nat.le_refl _) hx
theorem isRl_lt {s : Nat} (h : isRl s = true) : s ≠ 256 ∧ s ≠ 257 ∧ s < 256 := by
  have h := of_decide_eq_true h
  omega
theorem cmS_g {e : En} (he : eB e) (dp N : Nat) (l : Int) (x : Sx) (hx : gX N x) : gX N (cmS e dp l x).2 := by
  unfold cmS
  split
  · rename_i h
    exact gX_mono (smD_g he dp (N - 1) (tlx x) (gX_tl hx (isRl_lt h).1)).1 (by omega)
  · exact gX_sl hx
theorem bsS_g {e : En} (he : eB e) {cd : Nat → Sx → Bool × Sx} {N : Nat} (hcd : ∀ dp, gB N (cd dp)) (dp : Nat) : gB N (bsS cd e dp) := by
  intro N' x hN hx
  unfold bsS
  split
  · rename_i h
    have hs := tb_sg (by decide) h.2
    exact gX_nd (gX_mono (hcd (dp + 1) (N' - 1) (tlx x) (by omega) (gX_tl hx (by omega))) (by omega)) (by decide)
  · obtain ⟨h1, h2⟩ := smD_g he dp N' x hx
    exact cmS_g he dp N' _ _ h1
theorem unN_g {e : En} (he : eB e) {cd : Nat → Sx → Bool × Sx} {N : Nat} (hcd : ∀ dp, gB N (cd dp)) : ∀ (n dp : Nat), gB N (unN cd e n dp)
  | 0, dp => bsS_g he hcd dp
  | n + 1, dp => by
    intro N' x hN hx
    unfold unN
    split
    · rename_i h
      have hs := tb_sg (by decide) h
      exact gX_mono (unN_g he hcd n (dp + 1) (N' - 1) (tlx x) (by omega) (gX_tl hx (by omega))) (by omega)
    · exact bsS_g he hcd dp N' x hN hx
theorem ulL_g {u : Sx → Bool × Sx} {N : Nat} (hu : gB N u) : ∀ (n : Nat) (a : Bool), gB N (ulL u n a)
  | 0, a => fun N' x hN hx => hx
  | n + 1, a => by
    intro N' x hN hx
    unfold ulL
    split
    · rename_i h
      have hs := tb_sg (by decide) h
      have h1 := hu (N' - 1) (tlx x) (by omega) (gX_tl hx (by omega))
      exact gX_mono (ulL_g hu n (a && (u (tlx x)).1) (N' - 1) _ (by omega) h1) (by omega)
    · exact hx
theorem ptS_g {u : Sx → Bool × Sx} {N : Nat} (hu : gB N u) : gB N (ptS u) := fun N' x hN hx => ulL_g hu 200 _ N' _ hN (hu N' x hN hx)
theorem trL_g {u : Sx → Bool × Sx} {N : Nat} (hu : gB N u) : ∀ (n : Nat) (a : Bool), gB N (trL u n a)
  | 0, a => fun N' x hN hx => hx
  | n + 1, a => by
    intro N' x hN hx
    unfold trL
    split
    · rename_i h
      have hs := tb_sg (by decide) h
      have h1 := ptS_g hu (N' - 1) (tlx x) (by omega) (gX_tl hx (by omega))
      exact gX_mono (trL_g hu n (a || (ptS u (tlx x)).1) (N' - 1) _ (by omega) h1) (by omega)
    · exact hx
theorem hcS_g {u : Sx → Bool × Sx} {N : Nat} (hu : gB N u) : gB N (hcS u) := fun N' x hN hx => trL_g hu 200 _ N' _ hN (ptS_g hu N' x hN hx)
theorem unS_g {e : En} (he : eB e) (N : Nat) : ∀ (k dp : Nat), gB N (unS e k dp)
  | 0, dp => fun N' x hN hx => hx
  | k + 1, dp => unN_g he (fun dp => hcS_g (unS_g he N k dp)) (6 - dp) dp
/-! the class's -/
def cBK (q : Nat) (T : List Tk) (e : En) (N : Nat) (f : St → Option (Bool × St)) (s : Sx → Bool × Sx) : Prop := ∀ y x N', N' ≤ N → HS y q T x → gX N' x → EC y e → ∃ υ, f y = some ((s x).1, υ) ∧ HS υ q T (s x).2 ∧ HF y υ
theorem c_smD {q N : Nat} {T : List Tk} {e : En} (dp : Nat) (hd : dp ≤ 6) : cOK q T e N (fun y => fX1_sum 8 y (nI dp)) (smD e dp) := by
  intro y x N' hN hS hx hE
  exact c_smS (c_atom 8 dp (by omega) hd) (fun N'' x _ hx => atS_g hE.eb 8 dp x N'' hx) y x N' hN hS hx hE
theorem l60' : (60 : Int32) = nI 60 := nrfl rfl
theorem l61 : (61 : Int32) = nI 61 := nrfl rfl
theorem c_isRel {s : Nat} (hs : s ≤ 1000) : fX1_isRelation (nI s) = some (isRl s) ∧ fX12_isSign (nI s) = some (isRl s) := by
  have go : (if nI s = nI 61 then some true else if nI s = nI 60 then some true else if nI s = nI 62 then some true else some false) = some (isRl s) := by
    unfold isRl
    by_cases h1 : s = 61
    · rw [if_pos (by rw [h1]), decide_eq_true (.inl h1)]
    · rw [if_neg (fun x => h1 ((nI_eq (by omega) (by omega)).mp x))]
      by_cases h2 : s = 60
      · rw [if_pos (by rw [h2]), decide_eq_true (.inr (.inl h2))]
      · rw [if_neg (fun x => h2 ((nI_eq (by omega) (by omega)).mp x))]
        by_cases h3 : s = 62
        · rw [if_pos (by rw [h3]), decide_eq_true (.inr (.inr h3))]
        · rw [if_neg (fun x => h3 ((nI_eq (by omega) (by omega)).mp x)), decide_eq_false (by omega)]
  exact ⟨go, go⟩
/-- the three relations, as both sides decide them -/
theorem cmp_ok {s : Nat} {l r : Int} {w : St} (hs : isRl s = true) (hl : bnd6 l) (hr : bnd6 r) : (if nI s = nI 61 then (if iI l = iI r then some (true, w) else some (false, w)) else if nI s = nI 60 then (if iI r ≤ iI l then some (false, w) else some (true, w)) else (if iI l ≤ iI r then some (false, w) else some (true, w))) = some (cmpR s l r, w) := by
  have h := of_decide_eq_true hs
  unfold cmpR
  by_cases h1 : s = 61
  · rw [if_pos (by rw [h1]), if_pos h1]
    by_cases e : l = r
    · rw [if_pos (by rw [e]), decide_eq_true e]
    · rw [if_neg (fun x => e ((iI_inj hl hr).mp x)), decide_eq_false e]
  · rw [if_neg (fun x => h1 ((nI_eq (by omega) (by omega)).mp x)), if_neg h1]
    by_cases h2 : s = 60
    · rw [if_pos (by rw [h2]), if_pos h2]
      by_cases e : l < r
      · rw [if_neg (fun x => by have := (iI_le hr hl).mp x; omega), decide_eq_true e]
      · rw [if_pos ((iI_le hr hl).mpr (by omega)), decide_eq_false e]
    · rw [if_neg (fun x => h2 ((nI_eq (by omega) (by omega)).mp x)), if_neg h2]
      by_cases e : r < l
      · rw [if_neg (fun x => by have := (iI_le hl hr).mp x; omega), decide_eq_true e]
      · rw [if_pos ((iI_le hl hr).mpr (by omega)), decide_eq_false e]
theorem c_cmS {q N : Nat} {T : List Tk} {e : En} (dp : Nat) (hd : dp ≤ 6) (l : Int) (hl : bnd6 l) : cBK q T e N (fun y => fX1_compared y (iI l) (nI dp)) (cmS e dp l) := by
  intro y x N' hN hS hx hE
  have hs := h_sign hS hx
  have hsl := sg_lt x
  have hr := (c_isRel hsl).1
  show ∃ υ, fX1_compared y (iI l) (nI dp) = _ ∧ _
  unfold fX1_compared cmS
  by_cases h : isRl (sg x) = true
  · rw [if_pos h]
    obtain ⟨y1, a1, a2, a3⟩ := h_step hS hx (isRl_lt h).2.1
    have hx1 := gX_tl hx (isRl_lt h).1
    obtain ⟨y2, b1, b2, b3⟩ := c_smD (N := N) dp hd y1 (tlx x) (N' - 1) (by omega) a2 hx1 (hE.fr a3)
    have b1 : fX1_sum 8 y1 (nI dp) = some (iI (smD e dp (tlx x)).1, y2) := b1
    have hg := smD_g hE.eb dp (N' - 1) (tlx x) hx1
    refine ⟨y2, ?_, b2, a3.tr b3⟩
    rw [h] at hr
    rw [hs, bnd, hr, bnd, if_neg (by decide), a1, bnd, b1, bnd, l61, l60']
    exact cmp_ok h hl hg.2
  · rw [if_neg h]
    obtain ⟨y1, a1, a2, a3⟩ := h_spoil hS hx
    refine ⟨y1, ?_, a2, a3⟩
    have hf : isRl (sg x) = false := Bool.eq_false_iff.mpr h
    rw [hf] at hr
    simp (disch := omega) only [l0, l1, l2, l3, l4, l5, l6, l7, l8, l9, l10, l11, l12, l16, l18, l19, l20, l21, l24, l96, l128, l100, l144, l200, l256, l288, l1536, l1728, l1800, bnd, nI_add, pk_mul, pI_sub, pI_m1, pT_le, pF_le, pT_lt, pF_lt, pT_eq, pF_eq, pF_m1, mF_eq, mT_eq, mT_lt, mF_le, lm1, rd_nI, wr_nI, cl_nI, pk_us, un_ne, pk_uLs, uL_ne, zI_uI, zI_uJ, zI_uA, zI_uB, zI_uR, zI_uN, zJ_uI, zJ_uJ, zJ_uA, zJ_uB, zJ_uR, zJ_uN, zA_uI, zA_uJ, zA_uA, zA_uB, zA_uR, zA_uN, zB_uI, zB_uJ, zB_uA, zB_uB, zB_uR, zB_uN, zR_uI, zR_uJ, zR_uA, zR_uB, zR_uR, zR_uN, zN_uI, zN_uJ, zN_uA, zN_uB, zN_uR, zN_uN, zI_ne, zJ_ne, zA_ne, zB_ne, zR_ne, zN_ne, bi_T, bi_F, nz16, ↓reduceIte, not_true_eq_false, not_false_eq_true, Bool.false_eq_true, reduceCtorEq, hs, hr, a1]
theorem bi_and (a b : Bool) : bi a &&& bi b = bi (a && b) := by cases a <;> cases b <;> rfl
theorem bi_or (a b : Bool) : bi a ||| bi b = bi (a || b) := by cases a <;> cases b <;> rfl
theorem zb_bi (a : Bool) : zb (bi a) = some a := by cases a <;> rfl
theorem l38 : (38 : Int32) = nI 38 := nrfl rfl
theorem l124 : (124 : Int32) = nI 124 := nrfl rfl
theorem l33 : (33 : Int32) = nI 33 := nrfl rfl
theorem l40 : (40 : Int32) = nI 40 := nrfl rfl
theorem l41 : (41 : Int32) = nI 41 := nrfl rfl
theorem c_ulL {q N : Nat} {T : List Tk} {e : En} {rec : St → Int32 → Option (Bool × St)} {p0 : Int32} {u : Sx → Bool × Sx} (hr : cBK q T e N (fun y => rec y p0) u) (hg : gB N u) (a : Bool) : cBK q T e N (fun y => fX1_moreUnits_B rec y (bi a) p0) (ulL u 200 a) := by
  intro y x N' hN hS hx hE
  have key := it_for (β := St × Bool × Sx × Nat) (body := fun (kb : (St × Int32 × Int32) → Option (Bool × St)) (t : St × Int32 × Int32) => fX1_moreUnits_L5 rec p0 (fun σ v3 v4 => kb (σ, v3, v4)) t.1 t.2.1 t.2.2) 200 (by omega) (fun i b => (b.1, bi b.2.1, nI i)) (fun i b => ulL u 200 a x = ulL u (200 - i) b.2.1 b.2.2.1 ∧ b.2.2.2 ≤ N ∧ HS b.1 q T b.2.2.1 ∧ gX b.2.2.2 b.2.2.1 ∧ HF y b.1) (fun i b z => ∃ υ, z = some ((ulL u 200 a x).1, υ) ∧ HS υ q T (ulL u 200 a x).2 ∧ HF y υ) ?_ 0 (y, a, x, N') (Nat.zero_le _) ⟨rfl, hN, hS, hx, HF.rf y⟩
  · exact key
  · rintro i ⟨z, v, w, M⟩ hi ⟨jt, jN, jS, jx, jF⟩ kb hkb
    have ht : ulL u 200 a x = ulL u (200 - i) v w := jt
    have hM : M ≤ N := jN
    have hSz : HS z q T w := jS
    have hw : gX M w := jx
    have hFz : HF y z := jF
    clear jt jN jS jx jF
    show ∃ υ, fX1_moreUnits_L5 rec p0 (fun σ v3 v4 => kb (σ, v3, v4)) z (bi v) (nI i) = _ ∧ _
    unfold fX1_moreUnits_L5
    have hz := zb_bi v
    by_cases hi2 : i = 200
    · rw [hi2, Nat.sub_self] at ht
      refine ⟨z, ?_, by rw [ht]; exact hSz, hFz⟩
      rw [ht]
      simp (disch := omega) only [l0, l1, l2, l3, l4, l5, l6, l7, l8, l9, l10, l11, l12, l16, l18, l19, l20, l21, l24, l96, l128, l100, l144, l200, l256, l288, l1536, l1728, l1800, bnd, nI_add, pk_mul, pI_sub, pI_m1, pT_le, pF_le, pT_lt, pF_lt, pT_eq, pF_eq, pF_m1, mF_eq, mT_eq, mT_lt, mF_le, lm1, rd_nI, wr_nI, cl_nI, pk_us, un_ne, pk_uLs, uL_ne, zI_uI, zI_uJ, zI_uA, zI_uB, zI_uR, zI_uN, zJ_uI, zJ_uJ, zJ_uA, zJ_uB, zJ_uR, zJ_uN, zA_uI, zA_uJ, zA_uA, zA_uB, zA_uR, zA_uN, zB_uI, zB_uJ, zB_uA, zB_uB, zB_uR, zB_uN, zR_uI, zR_uJ, zR_uA, zR_uB, zR_uR, zR_uN, zN_uI, zN_uJ, zN_uA, zN_uB, zN_uR, zN_uN, zI_ne, zJ_ne, zA_ne, zB_ne, zR_ne, zN_ne, bi_T, bi_F, nz16, ↓reduceIte, not_true_eq_false, not_false_eq_true, Bool.false_eq_true, reduceCtorEq, hi2, hz]
      rfl
    · rw [show 200 - i = (200 - (i + 1)) + 1 by omega] at ht
      have ht : ulL u 200 a x = if tb 38 w = true then ulL u (200 - (i + 1)) (v && (u (tlx w)).1) (u (tlx w)).2 else (v, w) := ht
      obtain ⟨z1, a1, a2, a3⟩ := h_takes (v := 38) hSz hw (by decide)
      by_cases h38 : tb 38 w = true
      · rw [if_pos h38] at ht a2
        rw [h38] at a1
        have hw1 := gX_tl hw (by rw [tb_sg (by decide) h38]; decide)
        obtain ⟨z2, b1, b2, b3⟩ := hr z1 (tlx w) (M - 1) (by omega) a2 hw1 ((hE.fr hFz).fr a3)
        have c1 := hg (M - 1) (tlx w) (by omega) hw1
        have b1 : rec z1 p0 = some ((u (tlx w)).1, z2) := b1
        obtain ⟨υ, k1, k2, k3⟩ := hkb (z2, (v && (u (tlx w)).1), (u (tlx w)).2, M - 1) (by omega) ⟨ht, by show M - 1 ≤ N; omega, b2, c1, (hFz.tr a3).tr b3⟩
        refine ⟨υ, ?_, k2, k3⟩
        rw [← k1]
        have hba := bi_and v (u (tlx w)).1
        simp (disch := omega) only [l0, l1, l2, l3, l4, l5, l6, l7, l8, l9, l10, l11, l12, l16, l18, l19, l20, l21, l24, l96, l128, l100, l144, l200, l256, l288, l1536, l1728, l1800, bnd, nI_add, pk_mul, pI_sub, pI_m1, pT_le, pF_le, pT_lt, pF_lt, pT_eq, pF_eq, pF_m1, mF_eq, mT_eq, mT_lt, mF_le, lm1, rd_nI, wr_nI, cl_nI, pk_us, un_ne, pk_uLs, uL_ne, zI_uI, zI_uJ, zI_uA, zI_uB, zI_uR, zI_uN, zJ_uI, zJ_uJ, zJ_uA, zJ_uB, zJ_uR, zJ_uN, zA_uI, zA_uJ, zA_uA, zA_uB, zA_uR, zA_uN, zB_uI, zB_uJ, zB_uA, zB_uB, zB_uR, zB_uN, zR_uI, zR_uJ, zR_uA, zR_uB, zR_uR, zR_uN, zN_uI, zN_uJ, zN_uA, zN_uB, zN_uR, zN_uN, zI_ne, zJ_ne, zA_ne, zB_ne, zR_ne, zN_ne, bi_T, bi_F, nz16, ↓reduceIte, not_true_eq_false, not_false_eq_true, Bool.false_eq_true, reduceCtorEq, l38, a1, b1, hba]
      · rw [if_neg h38] at ht a2
        have hf : tb 38 w = false := Bool.eq_false_iff.mpr h38
        rw [hf] at a1
        refine ⟨z1, ?_, by rw [ht]; exact a2, hFz.tr a3⟩
        rw [ht]
        simp (disch := omega) only [l0, l1, l2, l3, l4, l5, l6, l7, l8, l9, l10, l11, l12, l16, l18, l19, l20, l21, l24, l96, l128, l100, l144, l200, l256, l288, l1536, l1728, l1800, bnd, nI_add, pk_mul, pI_sub, pI_m1, pT_le, pF_le, pT_lt, pF_lt, pT_eq, pF_eq, pF_m1, mF_eq, mT_eq, mT_lt, mF_le, lm1, rd_nI, wr_nI, cl_nI, pk_us, un_ne, pk_uLs, uL_ne, zI_uI, zI_uJ, zI_uA, zI_uB, zI_uR, zI_uN, zJ_uI, zJ_uJ, zJ_uA, zJ_uB, zJ_uR, zJ_uN, zA_uI, zA_uJ, zA_uA, zA_uB, zA_uR, zA_uN, zB_uI, zB_uJ, zB_uA, zB_uB, zB_uR, zB_uN, zR_uI, zR_uJ, zR_uA, zR_uB, zR_uR, zR_uN, zN_uI, zN_uJ, zN_uA, zN_uB, zN_uR, zN_uN, zI_ne, zJ_ne, zA_ne, zB_ne, zR_ne, zN_ne, bi_T, bi_F, nz16, ↓reduceIte, not_true_eq_false, not_false_eq_true, Bool.false_eq_true, reduceCtorEq, l38, a1, hz]
theorem c_trL {q N : Nat} {T : List Tk} {e : En} {rec : St → Int32 → Option (Bool × St)} {p0 : Int32} {u : Sx → Bool × Sx} (hr : cBK q T e N (fun y => rec y p0) u) (hg : gB N u) (a : Bool) : cBK q T e N (fun y => fX1_moreTruths_B rec y (bi a) p0) (trL u 200 a) := by
  intro y x N' hN hS hx hE
  have key := it_for (β := St × Bool × Sx × Nat) (body := fun (kb : (St × Int32 × Int32) → Option (Bool × St)) (t : St × Int32 × Int32) => fX1_moreTruths_L5 rec p0 (fun σ v3 v4 => kb (σ, v3, v4)) t.1 t.2.1 t.2.2) 200 (by omega) (fun i b => (b.1, bi b.2.1, nI i)) (fun i b => trL u 200 a x = trL u (200 - i) b.2.1 b.2.2.1 ∧ b.2.2.2 ≤ N ∧ HS b.1 q T b.2.2.1 ∧ gX b.2.2.2 b.2.2.1 ∧ HF y b.1) (fun i b z => ∃ υ, z = some ((trL u 200 a x).1, υ) ∧ HS υ q T (trL u 200 a x).2 ∧ HF y υ) ?_ 0 (y, a, x, N') (Nat.zero_le _) ⟨rfl, hN, hS, hx, HF.rf y⟩
  · exact key
  · rintro i ⟨z, v, w, M⟩ hi ⟨jt, jN, jS, jx, jF⟩ kb hkb
    have ht : trL u 200 a x = trL u (200 - i) v w := jt
    have hM : M ≤ N := jN
    have hSz : HS z q T w := jS
    have hw : gX M w := jx
    have hFz : HF y z := jF
    clear jt jN jS jx jF
    show ∃ υ, fX1_moreTruths_L5 rec p0 (fun σ v3 v4 => kb (σ, v3, v4)) z (bi v) (nI i) = _ ∧ _
    unfold fX1_moreTruths_L5
    have hz := zb_bi v
    by_cases hi2 : i = 200
    · rw [hi2, Nat.sub_self] at ht
      refine ⟨z, ?_, by rw [ht]; exact hSz, hFz⟩
      rw [ht]
      simp (disch := omega) only [l0, l1, l2, l3, l4, l5, l6, l7, l8, l9, l10, l11, l12, l16, l18, l19, l20, l21, l24, l96, l128, l100, l144, l200, l256, l288, l1536, l1728, l1800, bnd, nI_add, pk_mul, pI_sub, pI_m1, pT_le, pF_le, pT_lt, pF_lt, pT_eq, pF_eq, pF_m1, mF_eq, mT_eq, mT_lt, mF_le, lm1, rd_nI, wr_nI, cl_nI, pk_us, un_ne, pk_uLs, uL_ne, zI_uI, zI_uJ, zI_uA, zI_uB, zI_uR, zI_uN, zJ_uI, zJ_uJ, zJ_uA, zJ_uB, zJ_uR, zJ_uN, zA_uI, zA_uJ, zA_uA, zA_uB, zA_uR, zA_uN, zB_uI, zB_uJ, zB_uA, zB_uB, zB_uR, zB_uN, zR_uI, zR_uJ, zR_uA, zR_uB, zR_uR, zR_uN, zN_uI, zN_uJ, zN_uA, zN_uB, zN_uR, zN_uN, zI_ne, zJ_ne, zA_ne, zB_ne, zR_ne, zN_ne, bi_T, bi_F, nz16, ↓reduceIte, not_true_eq_false, not_false_eq_true, Bool.false_eq_true, reduceCtorEq, hi2, hz]
      rfl
    · rw [show 200 - i = (200 - (i + 1)) + 1 by omega] at ht
      have ht : trL u 200 a x = if tb 124 w = true then trL u (200 - (i + 1)) (v || (ptS u (tlx w)).1) (ptS u (tlx w)).2 else (v, w) := ht
      obtain ⟨z1, a1, a2, a3⟩ := h_takes (v := 124) hSz hw (by decide)
      by_cases h38 : tb 124 w = true
      · rw [if_pos h38] at ht a2
        rw [h38] at a1
        have hw1 := gX_tl hw (by rw [tb_sg (by decide) h38]; decide)
        obtain ⟨z2, b1, b2, b3⟩ := hr z1 (tlx w) (M - 1) (by omega) a2 hw1 ((hE.fr hFz).fr a3)
        have c1 := hg (M - 1) (tlx w) (by omega) hw1
        have b1 : rec z1 p0 = some ((u (tlx w)).1, z2) := b1
        obtain ⟨z3, d1, d2, d3⟩ := c_ulL hr hg (u (tlx w)).1 z2 (u (tlx w)).2 (M - 1) (by omega) b2 c1 (((hE.fr hFz).fr a3).fr b3)
        have d1 : fX1_moreUnits_B rec z2 (bi (u (tlx w)).1) p0 = some ((ptS u (tlx w)).1, z3) := d1
        have c2 := ptS_g hg (M - 1) (tlx w) (by omega) hw1
        obtain ⟨υ, k1, k2, k3⟩ := hkb (z3, (v || (ptS u (tlx w)).1), (ptS u (tlx w)).2, M - 1) (by omega) ⟨ht, by show M - 1 ≤ N; omega, d2, c2, ((hFz.tr a3).tr b3).tr d3⟩
        refine ⟨υ, ?_, k2, k3⟩
        rw [← k1]
        have hba := bi_or v (ptS u (tlx w)).1
        simp (disch := omega) only [l0, l1, l2, l3, l4, l5, l6, l7, l8, l9, l10, l11, l12, l16, l18, l19, l20, l21, l24, l96, l128, l100, l144, l200, l256, l288, l1536, l1728, l1800, bnd, nI_add, pk_mul, pI_sub, pI_m1, pT_le, pF_le, pT_lt, pF_lt, pT_eq, pF_eq, pF_m1, mF_eq, mT_eq, mT_lt, mF_le, lm1, rd_nI, wr_nI, cl_nI, pk_us, un_ne, pk_uLs, uL_ne, zI_uI, zI_uJ, zI_uA, zI_uB, zI_uR, zI_uN, zJ_uI, zJ_uJ, zJ_uA, zJ_uB, zJ_uR, zJ_uN, zA_uI, zA_uJ, zA_uA, zA_uB, zA_uR, zA_uN, zB_uI, zB_uJ, zB_uA, zB_uB, zB_uR, zB_uN, zR_uI, zR_uJ, zR_uA, zR_uB, zR_uR, zR_uN, zN_uI, zN_uJ, zN_uA, zN_uB, zN_uR, zN_uN, zI_ne, zJ_ne, zA_ne, zB_ne, zR_ne, zN_ne, bi_T, bi_F, nz16, ↓reduceIte, not_true_eq_false, not_false_eq_true, Bool.false_eq_true, reduceCtorEq, l124, a1, b1, d1, hba]
      · rw [if_neg h38] at ht a2
        have hf : tb 124 w = false := Bool.eq_false_iff.mpr h38
        rw [hf] at a1
        refine ⟨z1, ?_, by rw [ht]; exact a2, hFz.tr a3⟩
        rw [ht]
        simp (disch := omega) only [l0, l1, l2, l3, l4, l5, l6, l7, l8, l9, l10, l11, l12, l16, l18, l19, l20, l21, l24, l96, l128, l100, l144, l200, l256, l288, l1536, l1728, l1800, bnd, nI_add, pk_mul, pI_sub, pI_m1, pT_le, pF_le, pT_lt, pF_lt, pT_eq, pF_eq, pF_m1, mF_eq, mT_eq, mT_lt, mF_le, lm1, rd_nI, wr_nI, cl_nI, pk_us, un_ne, pk_uLs, uL_ne, zI_uI, zI_uJ, zI_uA, zI_uB, zI_uR, zI_uN, zJ_uI, zJ_uJ, zJ_uA, zJ_uB, zJ_uR, zJ_uN, zA_uI, zA_uJ, zA_uA, zA_uB, zA_uR, zA_uN, zB_uI, zB_uJ, zB_uA, zB_uB, zB_uR, zB_uN, zR_uI, zR_uJ, zR_uA, zR_uB, zR_uR, zR_uN, zN_uI, zN_uJ, zN_uA, zN_uB, zN_uR, zN_uN, zI_ne, zJ_ne, zA_ne, zB_ne, zR_ne, zN_ne, bi_T, bi_F, nz16, ↓reduceIte, not_true_eq_false, not_false_eq_true, Bool.false_eq_true, reduceCtorEq, l124, a1, hz]
theorem c_hcS {q N : Nat} {T : List Tk} {e : En} {rec : St → Int32 → Option (Bool × St)} {p0 : Int32} {u : Sx → Bool × Sx} (hr : cBK q T e N (fun y => rec y p0) u) (hg : gB N u) : cBK q T e N (fun y => fX1_condition_B rec y p0) (hcS u) := by
  intro y x N' hN hS hx hE
  obtain ⟨y1, a1, a2, a3⟩ := hr y x N' hN hS hx hE
  have c1 := hg N' x hN hx
  have hE1 := hE.fr a3
  obtain ⟨y2, b1, b2, b3⟩ := c_ulL hr hg (u x).1 y1 (u x).2 N' hN a2 c1 hE1
  have c2 := ptS_g hg N' x hN hx
  obtain ⟨y3, d1, d2, d3⟩ := c_trL hr hg (ptS u x).1 y2 (ptS u x).2 N' hN b2 c2 (hE1.fr b3)
  have a1 : rec y p0 = some ((u x).1, y1) := a1
  have b1 : fX1_moreUnits_B rec y1 (bi (u x).1) p0 = some ((ptS u x).1, y2) := b1
  have d1 : fX1_moreTruths_B rec y2 (bi (ptS u x).1) p0 = some ((hcS u x).1, y3) := d1
  refine ⟨y3, ?_, d2, (a3.tr b3).tr d3⟩
  show fX1_condition_B rec y p0 = _
  unfold fX1_condition_B
  simp (disch := omega) only [l0, l1, l2, l3, l4, l5, l6, l7, l8, l9, l10, l11, l12, l16, l18, l19, l20, l21, l24, l96, l128, l100, l144, l200, l256, l288, l1536, l1728, l1800, bnd, nI_add, pk_mul, pI_sub, pI_m1, pT_le, pF_le, pT_lt, pF_lt, pT_eq, pF_eq, pF_m1, mF_eq, mT_eq, mT_lt, mF_le, lm1, rd_nI, wr_nI, cl_nI, pk_us, un_ne, pk_uLs, uL_ne, zI_uI, zI_uJ, zI_uA, zI_uB, zI_uR, zI_uN, zJ_uI, zJ_uJ, zJ_uA, zJ_uB, zJ_uR, zJ_uN, zA_uI, zA_uJ, zA_uA, zA_uB, zA_uR, zA_uN, zB_uI, zB_uJ, zB_uA, zB_uB, zB_uR, zB_uN, zR_uI, zR_uJ, zR_uA, zR_uB, zR_uR, zR_uN, zN_uI, zN_uJ, zN_uA, zN_uB, zN_uR, zN_uN, zI_ne, zJ_ne, zA_ne, zB_ne, zR_ne, zN_ne, bi_T, bi_F, nz16, ↓reduceIte, not_true_eq_false, not_false_eq_true, Bool.false_eq_true, reduceCtorEq, a1, b1, d1]
theorem xor_bi (r d : Bool) (w : St) : (if bi r = bi d then some (false, w) else some (true, w)) = some (xor d r, w) := by cases r <;> cases d <;> rfl
theorem c_base {q N : Nat} {T : List Tk} {e : En} {rec : St → Int32 → Option (Bool × St)} {cd : Nat → Sx → Bool × Sx} (dp : Nat) (hd : dp ≤ 6) (hr : dp < 6 → cBK q T e N (fun y => fX1_condition_B rec y (nI (dp + 1))) (cd (dp + 1))) (hg : ∀ dp, gB N (cd dp)) (d : Bool) : cBK q T e N (fun y => fX1_unit_J42 rec y (bi d) (nI dp)) (fun x => (xor d (bsS cd e dp x).1, (bsS cd e dp x).2)) := by
  intro y x N' hN hS hx hE
  have heb := hE.eb
  show ∃ υ, fX1_unit_J42 rec y (bi d) (nI dp) = some (xor d (bsS cd e dp x).1, υ) ∧ HS υ q T (bsS cd e dp x).2 ∧ HF y υ
  -- a comparison
  have cmp : ∀ z, HS z q T x → HF y z → ∃ υ, ((fX1_sum 8 z (nI dp)).bind fun r8 => (fX1_compared r8.2 r8.1 (nI dp)).bind fun r9 => if (bi r9.1) = bi d then (some (false, r9.2)) else (some (true, r9.2))) = some (xor d (cmS e dp (smD e dp x).1 (smD e dp x).2).1, υ) ∧ HS υ q T (cmS e dp (smD e dp x).1 (smD e dp x).2).2 ∧ HF y υ := by
    intro z hSz hFz
    have hEz := hE.fr hFz
    obtain ⟨z1, a1, a2, a3⟩ := c_smD (N := N) dp hd z x N' hN hSz hx hEz
    have a1 : fX1_sum 8 z (nI dp) = some (iI (smD e dp x).1, z1) := a1
    obtain ⟨g1, g2⟩ := smD_g heb dp N' x hx
    obtain ⟨z2, b1, b2, b3⟩ := c_cmS (N := N) dp hd (smD e dp x).1 g2 z1 (smD e dp x).2 N' hN a2 g1 (hEz.fr a3)
    have b1 : fX1_compared z1 (iI (smD e dp x).1) (nI dp) = some ((cmS e dp (smD e dp x).1 (smD e dp x).2).1, z2) := b1
    refine ⟨z2, ?_, b2, (hFz.tr a3).tr b3⟩
    rw [a1, bnd, b1, bnd]
    exact xor_bi _ _ _
  unfold fX1_unit_J42 bsS
  by_cases h6 : dp < 6
  · obtain ⟨z1, a1, a2, a3⟩ := h_takes (v := 40) hS hx (by decide)
    by_cases h40 : tb 40 x = true
    · have hc : dp < 6 ∧ tb 40 x = true := ⟨h6, h40⟩
      rw [if_pos hc]
      rw [if_pos h40] at a2
      rw [h40] at a1
      have hx1 := gX_tl hx (by rw [tb_sg (by decide) h40]; decide)
      obtain ⟨z2, b1, b2, b3⟩ := hr h6 z1 (tlx x) (N' - 1) (by omega) a2 hx1 (hE.fr a3)
      have b1 : fX1_condition_B rec z1 (nI (dp + 1)) = some ((cd (dp + 1) (tlx x)).1, z2) := b1
      have c1 := hg (dp + 1) (N' - 1) (tlx x) (by omega) hx1
      obtain ⟨z3, d1, d2, d3⟩ := h_needs (v := 41) b2 c1 (by decide)
      refine ⟨z3, ?_, d2, (a3.tr b3).tr d3⟩
      have hxo := xor_bi (cd (dp + 1) (tlx x)).1 d z3
      simp (disch := omega) only [l0, l1, l2, l3, l4, l5, l6, l7, l8, l9, l10, l11, l12, l16, l18, l19, l20, l21, l24, l96, l128, l100, l144, l200, l256, l288, l1536, l1728, l1800, bnd, nI_add, pk_mul, pI_sub, pI_m1, pT_le, pF_le, pT_lt, pF_lt, pT_eq, pF_eq, pF_m1, mF_eq, mT_eq, mT_lt, mF_le, lm1, rd_nI, wr_nI, cl_nI, pk_us, un_ne, pk_uLs, uL_ne, zI_uI, zI_uJ, zI_uA, zI_uB, zI_uR, zI_uN, zJ_uI, zJ_uJ, zJ_uA, zJ_uB, zJ_uR, zJ_uN, zA_uI, zA_uJ, zA_uA, zA_uB, zA_uR, zA_uN, zB_uI, zB_uJ, zB_uA, zB_uB, zB_uR, zB_uN, zR_uI, zR_uJ, zR_uA, zR_uB, zR_uR, zR_uN, zN_uI, zN_uJ, zN_uA, zN_uB, zN_uR, zN_uN, zI_ne, zJ_ne, zA_ne, zB_ne, zR_ne, zN_ne, bi_T, bi_F, nz16, ↓reduceIte, not_true_eq_false, not_false_eq_true, Bool.false_eq_true, reduceCtorEq, l40, a1, b1, l41, d1]
      exact hxo
    · have hc : ¬ (dp < 6 ∧ tb 40 x = true) := fun h => h40 h.2
      rw [if_neg hc]
      rw [if_neg h40] at a2
      have hf : tb 40 x = false := Bool.eq_false_iff.mpr h40
      rw [hf] at a1
      obtain ⟨υ, k1, k2, k3⟩ := cmp z1 a2 a3
      refine ⟨υ, ?_, k2, k3⟩
      rw [← k1]
      simp (disch := omega) only [l0, l1, l2, l3, l4, l5, l6, l7, l8, l9, l10, l11, l12, l16, l18, l19, l20, l21, l24, l96, l128, l100, l144, l200, l256, l288, l1536, l1728, l1800, bnd, nI_add, pk_mul, pI_sub, pI_m1, pT_le, pF_le, pT_lt, pF_lt, pT_eq, pF_eq, pF_m1, mF_eq, mT_eq, mT_lt, mF_le, lm1, rd_nI, wr_nI, cl_nI, pk_us, un_ne, pk_uLs, uL_ne, zI_uI, zI_uJ, zI_uA, zI_uB, zI_uR, zI_uN, zJ_uI, zJ_uJ, zJ_uA, zJ_uB, zJ_uR, zJ_uN, zA_uI, zA_uJ, zA_uA, zA_uB, zA_uR, zA_uN, zB_uI, zB_uJ, zB_uA, zB_uB, zB_uR, zB_uN, zR_uI, zR_uJ, zR_uA, zR_uB, zR_uR, zR_uN, zN_uI, zN_uJ, zN_uA, zN_uB, zN_uR, zN_uN, zI_ne, zJ_ne, zA_ne, zB_ne, zR_ne, zN_ne, bi_T, bi_F, nz16, ↓reduceIte, not_true_eq_false, not_false_eq_true, Bool.false_eq_true, reduceCtorEq, l40, a1]
  · have hc : ¬ (dp < 6 ∧ tb 40 x = true) := fun h => h6 h.1
    rw [if_neg hc]
    obtain ⟨υ, k1, k2, k3⟩ := cmp y hS (HF.rf y)
    refine ⟨υ, ?_, k2, k3⟩
    rw [← k1]
    simp (disch := omega) only [l0, l1, l2, l3, l4, l5, l6, l7, l8, l9, l10, l11, l12, l16, l18, l19, l20, l21, l24, l96, l128, l100, l144, l200, l256, l288, l1536, l1728, l1800, bnd, nI_add, pk_mul, pI_sub, pI_m1, pT_le, pF_le, pT_lt, pF_lt, pT_eq, pF_eq, pF_m1, mF_eq, mT_eq, mT_lt, mF_le, lm1, rd_nI, wr_nI, cl_nI, pk_us, un_ne, pk_uLs, uL_ne, zI_uI, zI_uJ, zI_uA, zI_uB, zI_uR, zI_uN, zJ_uI, zJ_uJ, zJ_uA, zJ_uB, zJ_uR, zJ_uN, zA_uI, zA_uJ, zA_uA, zA_uB, zA_uR, zA_uN, zB_uI, zB_uJ, zB_uA, zB_uB, zB_uR, zB_uN, zR_uI, zR_uJ, zR_uA, zR_uB, zR_uR, zR_uN, zN_uI, zN_uJ, zN_uA, zN_uB, zN_uR, zN_uN, zI_ne, zJ_ne, zA_ne, zB_ne, zR_ne, zN_ne, bi_T, bi_F, nz16, ↓reduceIte, not_true_eq_false, not_false_eq_true, Bool.false_eq_true, reduceCtorEq]
theorem c_unit {q N : Nat} {T : List Tk} {e : En} : ∀ (k dp : Nat), 7 ≤ k + dp → dp ≤ 6 → cBK q T e N (fun y => fX1_unit k y (nI dp)) (unS e k dp)
  | 0, dp, h1, h2 => by omega
  | k + 1, dp, h1, h2 => by
    intro y x N' hN hS hx hE
    have heb := hE.eb
    have hgc : ∀ d, gB N ((fun dp x => hcS (unS e k dp) x) d) := fun d => hcS_g (unS_g heb N k d)
    have key := it_for (β := St × Bool × Sx × Nat) (body := fun (kb : (St × Int32 × Int32 × Int32) → Option (Bool × St)) (t : St × Int32 × Int32 × Int32) => fX1_unit_L7 (fX1_unit k) (fun s2 x3 x4 => fX1_unit_J42 (fX1_unit k) s2 x3 x4) (fun σ v2 v3 v4 => kb (σ, v2, v3, v4)) t.1 t.2.1 t.2.2.1 t.2.2.2) 6 (by omega) (fun i b => (b.1, bi b.2.1, nI i, nI i)) (fun i b => dp ≤ i ∧ unS e (k + 1) dp x = (xor b.2.1 (unN (fun dp x => hcS (unS e k dp) x) e (6 - i) i b.2.2.1).1, (unN (fun dp x => hcS (unS e k dp) x) e (6 - i) i b.2.2.1).2) ∧ b.2.2.2 ≤ N ∧ HS b.1 q T b.2.2.1 ∧ gX b.2.2.2 b.2.2.1 ∧ HF y b.1) (fun i b z => ∃ υ, z = some ((unS e (k + 1) dp x).1, υ) ∧ HS υ q T (unS e (k + 1) dp x).2 ∧ HF y υ) ?_ dp (y, false, x, N') h2 ⟨Nat.le_refl _, by show _ = (xor false _, _); rw [Bool.false_xor]; rfl, hN, hS, hx, HF.rf y⟩
    · exact key
    · rintro i ⟨z, d, w, M⟩ hi ⟨jd, jt, jN, jS, jx, jF⟩ kb hkb
      have hdi : dp ≤ i := jd
      have ht : unS e (k + 1) dp x = (xor d (unN (fun dp x => hcS (unS e k dp) x) e (6 - i) i w).1, (unN (fun dp x => hcS (unS e k dp) x) e (6 - i) i w).2) := jt
      have hM : M ≤ N := jN
      have hSz : HS z q T w := jS
      have hw : gX M w := jx
      have hFz : HF y z := jF
      clear jd jt jN jS jx jF
      show ∃ υ, fX1_unit_L7 (fX1_unit k) _ (fun σ v2 v3 v4 => kb (σ, v2, v3, v4)) z (bi d) (nI i) (nI i) = _ ∧ _
      -- no denial more
      have base : ∀ z', HS z' q T w → HF y z' → unN (fun dp x => hcS (unS e k dp) x) e (6 - i) i w = bsS (fun dp x => hcS (unS e k dp) x) e i w → ∃ υ, fX1_unit_J42 (fX1_unit k) z' (bi d) (nI i) = some ((unS e (k + 1) dp x).1, υ) ∧ HS υ q T (unS e (k + 1) dp x).2 ∧ HF y υ := by
        intro z' hS' hF' he
        rw [he] at ht
        obtain ⟨υ, k1, k2, k3⟩ := c_base (rec := fX1_unit k) (cd := fun dp x => hcS (unS e k dp) x) i hi (fun h6 => c_hcS (c_unit (q := q) (N := N) (T := T) (e := e) k (i + 1) (by omega) (by omega)) (unS_g heb N k (i + 1))) hgc d z' w M hM hS' hw (hE.fr hF')
        refine ⟨υ, ?_, by rw [ht]; exact k2, hF'.tr k3⟩
        rw [ht]
        exact k1
      unfold fX1_unit_L7
      by_cases hi6 : i = 6
      · obtain ⟨υ, k1, k2, k3⟩ := base z hSz hFz (by rw [hi6]; rfl)
        refine ⟨υ, ?_, k2, k3⟩
        rw [← k1]
        simp (disch := omega) only [l0, l1, l2, l3, l4, l5, l6, l7, l8, l9, l10, l11, l12, l16, l18, l19, l20, l21, l24, l96, l128, l100, l144, l200, l256, l288, l1536, l1728, l1800, bnd, nI_add, pk_mul, pI_sub, pI_m1, pT_le, pF_le, pT_lt, pF_lt, pT_eq, pF_eq, pF_m1, mF_eq, mT_eq, mT_lt, mF_le, lm1, rd_nI, wr_nI, cl_nI, pk_us, un_ne, pk_uLs, uL_ne, zI_uI, zI_uJ, zI_uA, zI_uB, zI_uR, zI_uN, zJ_uI, zJ_uJ, zJ_uA, zJ_uB, zJ_uR, zJ_uN, zA_uI, zA_uJ, zA_uA, zA_uB, zA_uR, zA_uN, zB_uI, zB_uJ, zB_uA, zB_uB, zB_uR, zB_uN, zR_uI, zR_uJ, zR_uA, zR_uB, zR_uR, zR_uN, zN_uI, zN_uJ, zN_uA, zN_uB, zN_uR, zN_uN, zI_ne, zJ_ne, zA_ne, zB_ne, zR_ne, zN_ne, bi_T, bi_F, nz16, ↓reduceIte, not_true_eq_false, not_false_eq_true, Bool.false_eq_true, reduceCtorEq, hi6]
      · have e6 : 6 - i = (6 - (i + 1)) + 1 := by omega
        have eu : unN (fun dp x => hcS (unS e k dp) x) e (6 - i) i w = if tb 33 w = true then (!(unN (fun dp x => hcS (unS e k dp) x) e (6 - (i + 1)) (i + 1) (tlx w)).1, (unN (fun dp x => hcS (unS e k dp) x) e (6 - (i + 1)) (i + 1) (tlx w)).2) else bsS (fun dp x => hcS (unS e k dp) x) e i w := by rw [e6]; rfl
        obtain ⟨z1, a1, a2, a3⟩ := h_takes (v := 33) hSz hw (by decide)
        by_cases h33 : tb 33 w = true
        · rw [if_pos h33] at eu a2
          rw [h33] at a1
          have hw1 := gX_tl hw (by rw [tb_sg (by decide) h33]; decide)
          rw [eu] at ht
          obtain ⟨υ, k1, k2, k3⟩ := hkb (z1, !d, tlx w, M - 1) (by omega) ⟨by omega, by rw [ht]; show (xor d (!_), _) = (xor (!d) _, _); congr 1; cases d <;> simp, by show M - 1 ≤ N; omega, a2, hw1, hFz.tr a3⟩
          refine ⟨υ, ?_, k2, k3⟩
          rw [← k1]
          cases d with
          | true => simp (disch := omega) only [l0, l1, l2, l3, l4, l5, l6, l7, l8, l9, l10, l11, l12, l16, l18, l19, l20, l21, l24, l96, l128, l100, l144, l200, l256, l288, l1536, l1728, l1800, bnd, nI_add, pk_mul, pI_sub, pI_m1, pT_le, pF_le, pT_lt, pF_lt, pT_eq, pF_eq, pF_m1, mF_eq, mT_eq, mT_lt, mF_le, lm1, rd_nI, wr_nI, cl_nI, pk_us, un_ne, pk_uLs, uL_ne, zI_uI, zI_uJ, zI_uA, zI_uB, zI_uR, zI_uN, zJ_uI, zJ_uJ, zJ_uA, zJ_uB, zJ_uR, zJ_uN, zA_uI, zA_uJ, zA_uA, zA_uB, zA_uR, zA_uN, zB_uI, zB_uJ, zB_uA, zB_uB, zB_uR, zB_uN, zR_uI, zR_uJ, zR_uA, zR_uB, zR_uR, zR_uN, zN_uI, zN_uJ, zN_uA, zN_uB, zN_uR, zN_uN, zI_ne, zJ_ne, zA_ne, zB_ne, zR_ne, zN_ne, bi_T, bi_F, nz16, ↓reduceIte, not_true_eq_false, not_false_eq_true, Bool.false_eq_true, reduceCtorEq, l33, a1]; rfl
          | false => simp (disch := omega) only [l0, l1, l2, l3, l4, l5, l6, l7, l8, l9, l10, l11, l12, l16, l18, l19, l20, l21, l24, l96, l128, l100, l144, l200, l256, l288, l1536, l1728, l1800, bnd, nI_add, pk_mul, pI_sub, pI_m1, pT_le, pF_le, pT_lt, pF_lt, pT_eq, pF_eq, pF_m1, mF_eq, mT_eq, mT_lt, mF_le, lm1, rd_nI, wr_nI, cl_nI, pk_us, un_ne, pk_uLs, uL_ne, zI_uI, zI_uJ, zI_uA, zI_uB, zI_uR, zI_uN, zJ_uI, zJ_uJ, zJ_uA, zJ_uB, zJ_uR, zJ_uN, zA_uI, zA_uJ, zA_uA, zA_uB, zA_uR, zA_uN, zB_uI, zB_uJ, zB_uA, zB_uB, zB_uR, zB_uN, zR_uI, zR_uJ, zR_uA, zR_uB, zR_uR, zR_uN, zN_uI, zN_uJ, zN_uA, zN_uB, zN_uR, zN_uN, zI_ne, zJ_ne, zA_ne, zB_ne, zR_ne, zN_ne, bi_T, bi_F, nz16, ↓reduceIte, not_true_eq_false, not_false_eq_true, Bool.false_eq_true, reduceCtorEq, l33, a1]; rfl
        · rw [if_neg h33] at eu a2
          have hf : tb 33 w = false := Bool.eq_false_iff.mpr h33
          rw [hf] at a1
          obtain ⟨υ, k1, k2, k3⟩ := base z1 a2 (hFz.tr a3) eu
          refine ⟨υ, ?_, k2, k3⟩
          rw [← k1]
          simp (disch := omega) only [l0, l1, l2, l3, l4, l5, l6, l7, l8, l9, l10, l11, l12, l16, l18, l19, l20, l21, l24, l96, l128, l100, l144, l200, l256, l288, l1536, l1728, l1800, bnd, nI_add, pk_mul, pI_sub, pI_m1, pT_le, pF_le, pT_lt, pF_lt, pT_eq, pF_eq, pF_m1, mF_eq, mT_eq, mT_lt, mF_le, lm1, rd_nI, wr_nI, cl_nI, pk_us, un_ne, pk_uLs, uL_ne, zI_uI, zI_uJ, zI_uA, zI_uB, zI_uR, zI_uN, zJ_uI, zJ_uJ, zJ_uA, zJ_uB, zJ_uR, zJ_uN, zA_uI, zA_uJ, zA_uA, zA_uB, zA_uR, zA_uN, zB_uI, zB_uJ, zB_uA, zB_uB, zB_uR, zB_uN, zR_uI, zR_uJ, zR_uA, zR_uB, zR_uR, zR_uN, zN_uI, zN_uJ, zN_uA, zN_uB, zN_uR, zN_uN, zI_ne, zJ_ne, zA_ne, zB_ne, zR_ne, zN_ne, bi_T, bi_F, nz16, ↓reduceIte, not_true_eq_false, not_false_eq_true, Bool.false_eq_true, reduceCtorEq, l33, a1]
