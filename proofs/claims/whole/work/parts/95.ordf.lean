/-! orders: the class's slots, what it looks ahead at -/
theorem oNI (n : Nat) : Int32.ofNat n = nI n := nrfl rfl
theorem un_un {f : Nat → Int32} {k : Nat} {x y : Int32} : upd (upd f k x) k y = upd f k y := by
  funext j
  by_cases h : j = k
  · rw [h, pk_us, pk_us]
  · rw [pk_un h, pk_un h, pk_un h]
theorem l1000 : (1000 : Int32) = nI 1000 := nrfl rfl
def xw (p : Nat × Nat) : Nat := 32 * p.2 + p.1
theorem xL_le {g : Gh} {S st last : Nat} (hs : sm g S) : (xL g S st last).1 ≤ 20 ∧ (xL g S st last).2 ≤ 2 ^ 57 := by
  have h1 := rm_le (zs g S) st 8
  have h2 := hs.2
  have h3 := oL_gaps (z := zs g S) (og_le g (zs g S)) (rm (zs g S) st 8) st last rfl (by omega)
  have h4 := oL_ways (z := zs g S) (gp := og g (zs g S)) (rm (zs g S) st 8) st last rfl
  refine ⟨Nat.le_trans h3 (by omega), Nat.le_trans h4 ?_⟩
  have h5 : (8 : Nat) ^ (rm (zs g S) st 8 - 1) ≤ 8 ^ 19 := Nat.pow_le_pow_right (by decide) (by omega)
  exact Nat.le_trans h5 (by decide)
theorem to32 {n : Nat} (h : n < 2147483648) : Int64.toInt32 (lN n) = nI n := by
  apply Int32.toBitVec_inj.mp
  show (BitVec.ofNat 64 n).signExtend 32 = BitVec.ofNat 32 n
  apply BitVec.eq_of_toNat_eq
  rw [BitVec.signExtend_eq_setWidth_of_le _ (by decide)]
  simp
theorem and31 {w p : Nat} (hp : p < 32) : lN (32 * w + p) &&& (31 : Int64) = lN p := by
  have h := fb_maskL (32 * w + p) 5
  rw [show (2 : Nat) ^ 5 = 32 from rfl] at h
  rw [show (31 : Int64) = lN (32 - 1) from rfl, h, Nat.mul_add_mod, Nat.mod_eq_of_lt hp]
theorem c_gapsAt {τ : St} {k w p : Nat} (hk : k < zN τ 45) (hN : zN τ 45 ≤ 160001) (hp : p < 32) (h : zB τ 45 k = lN (32 * w + p)) : fX2_gapsAt τ (nI k) = some (nI p) := by
  unfold fX2_gapsAt
  have h2 := and31 (w := w) hp
  have h3 := to32 (n := p) (by omega)
  rw [← h] at h2
  simp (disch := omega) only [l0, l1, l2, l3, l4, l5, l6, l7, l8, l9, l10, l11, l12, l16, l18, l19, l20, l21, l24, l96, l128, l100, l144, l200, l256, l288, l1536, l1728, l1800, bnd, nI_add, pk_mul, pI_sub, pI_m1, pT_le, pF_le, pT_lt, pF_lt, pT_eq, pF_eq, pF_m1, mF_eq, mT_eq, mT_lt, mF_le, lm1, rd_nI, wr_nI, cl_nI, pk_us, un_ne, pk_uLs, uL_ne, zI_uI, zI_uJ, zI_uA, zI_uB, zI_uR, zI_uN, zJ_uI, zJ_uJ, zJ_uA, zJ_uB, zJ_uR, zJ_uN, zA_uI, zA_uJ, zA_uA, zA_uB, zA_uR, zA_uN, zB_uI, zB_uJ, zB_uA, zB_uB, zB_uR, zB_uN, zR_uI, zR_uJ, zR_uA, zR_uB, zR_uR, zR_uN, zN_uI, zN_uJ, zN_uA, zN_uB, zN_uR, zN_uN, zI_ne, zJ_ne, zA_ne, zB_ne, zR_ne, zN_ne, bi_T, bi_F, nz16, ↓reduceIte, not_true_eq_false, not_false_eq_true, Bool.false_eq_true, reduceCtorEq, oNI]
  rw [h2, h3]
theorem c_waysAt {τ : St} {k w p : Nat} (hk : k < zN τ 45) (hN : zN τ 45 ≤ 160001) (hp : p < 32) (hw : w ≤ 2 ^ 57) (h : zB τ 45 k = lN (32 * w + p)) : fX2_waysAt τ (nI k) = some (lN w) := by
  have e57 : (2 : Nat) ^ 57 = 144115188075855872 := by decide
  have h2 := ush (n := 32 * w + p) (k := 5) (by omega) (by omega)
  rw [show (2 : Nat) ^ 5 = 32 from rfl, Nat.mul_add_div (by decide), Nat.div_eq_of_lt hp, Nat.add_zero, ← h] at h2
  unfold fX2_waysAt
  simp (disch := omega) only [l0, l1, l2, l3, l4, l5, l6, l7, l8, l9, l10, l11, l12, l16, l18, l19, l20, l21, l24, l96, l128, l100, l144, l200, l256, l288, l1536, l1728, l1800, bnd, nI_add, pk_mul, pI_sub, pI_m1, pT_le, pF_le, pT_lt, pF_lt, pT_eq, pF_eq, pF_m1, mF_eq, mT_eq, mT_lt, mF_le, lm1, rd_nI, wr_nI, cl_nI, pk_us, un_ne, pk_uLs, uL_ne, zI_uI, zI_uJ, zI_uA, zI_uB, zI_uR, zI_uN, zJ_uI, zJ_uJ, zJ_uA, zJ_uB, zJ_uR, zJ_uN, zA_uI, zA_uJ, zA_uA, zA_uB, zA_uR, zA_uN, zB_uI, zB_uJ, zB_uA, zB_uB, zB_uR, zB_uN, zR_uI, zR_uJ, zR_uA, zR_uB, zR_uR, zR_uN, zN_uI, zN_uJ, zN_uA, zN_uB, zN_uR, zN_uN, zI_ne, zJ_ne, zA_ne, zB_ne, zR_ne, zN_ne, bi_T, bi_F, nz16, ↓reduceIte, not_true_eq_false, not_false_eq_true, Bool.false_eq_true, reduceCtorEq, oNI]
  rw [h2]
def RM (τ : St) (g : Gh) (S : Nat) : Prop := rx (zs g S) 8 * am S < zN τ 45 ∧ zN τ 45 ≤ 160001
def SL (τ : St) (g : Gh) (S lo : Nat) : Prop := ∀ st a, lo ≤ st → st < rx (zs g S) 8 → a < am S → 0 < sd (zs g S) st (rho S a) → zB τ 45 (st * am S + a) = lN (xw (xL g S st (rho S a + 1)))
theorem slot_lt {g : Gh} {S st a : Nat} (h : st < rx (zs g S) 8) (ha : a < am S) : st * am S + a < rx (zs g S) 8 * am S := by
  have h1 : (st + 1) * am S ≤ rx (zs g S) 8 * am S := Nat.mul_le_mul_right _ h
  rw [Nat.add_mul] at h1
  omega
theorem oslot_ne {n s a t b : Nat} (ha : a < n) (hb : b < n) (h : ¬ (s = t ∧ a = b)) : s * n + a ≠ t * n + b := by
  intro e
  rcases Nat.lt_trichotomy s t with h1 | h1 | h1
  · have h2 : (s + 1) * n ≤ t * n := Nat.mul_le_mul_right _ h1
    rw [Nat.add_mul] at h2
    omega
  · rw [h1] at e
    exact h ⟨h1, by omega⟩
  · have h2 : (t + 1) * n ≤ s * n := Nat.mul_le_mul_right _ h1
    rw [Nat.add_mul] at h2
    omega
/-- What the class sees ahead at a state. -/
def LA (τ : St) (g : Gh) (S st n : Nat) : Prop := ∀ a, a < n → (sd (zs g S) st (rho S a) < zs g S (rho S a) → zA τ 41 a = nI (1 + (xL g S (st + rx (zs g S) (rho S a)) (rho S a + 1)).1) ∧ zB τ 43 a = lN (xL g S (st + rx (zs g S) (rho S a)) (rho S a + 1)).2 ∧ ∃ v, zA τ 42 a = nI v ∧ FB g S (16 * rho S a + sd (zs g S) st (rho S a)) v) ∧ (¬ sd (zs g S) st (rho S a) < zs g S (rho S a) → zA τ 41 a = nI 1000)
/-- the class's cells of what is laid out, for a small set of rolls -/
def CL (τ : St) (g : Gh) (S : Nat) : Prop := inG g S ∧ sm g S ∧ LO τ g S (am S) ∧ zI τ 21 = nI (am S) ∧ zI τ 22 = nI (rx (zs g S) 8) ∧ FO τ g S (am S) 0 ∧ RM τ g S
theorem CL.fr {σ τ : St} {g : Gh} {S : Nat} {A B K N : List Nat} (h : CL σ g S) (f : FR A B K N σ τ) (hA : ∀ q, q ∈ [35, 36, 37, 38, 39] → q ∉ A) (hK : ∀ q, q ∈ [21, 22] → q ∉ K) (hN : 45 ∉ N) : CL τ g S := by
  refine ⟨h.1, h.2.1, h.2.2.1.fr f (fun q hq => hA q (by revert q; decide)), ?_, ?_, ?_, ?_⟩
  · rw [f.2.2.1 21 (hK 21 (by decide))]
    exact h.2.2.2.1
  · rw [f.2.2.1 22 (hK 22 (by decide))]
    exact h.2.2.2.2.1
  · unfold FO
    rw [f.1 39 (hA 39 (by decide))]
    exact h.2.2.2.2.2.1
  · unfold RM
    rw [f.2.2.2.1 45 hN]
    exact h.2.2.2.2.2.2
theorem SL.fr {σ τ : St} {g : Gh} {S lo : Nat} {A B K N : List Nat} (h : SL σ g S lo) (f : FR A B K N σ τ) (hB : 45 ∉ B) : SL τ g S lo := by
  unfold SL
  rw [f.2.1 45 hB]
  exact h
theorem LA.fr {σ τ : St} {g : Gh} {S st n : Nat} {A B K N : List Nat} (h : LA σ g S st n) (f : FR A B K N σ τ) (hA : ∀ q, q ∈ [41, 42] → q ∉ A) (hB : 43 ∉ B) : LA τ g S st n := by
  unfold LA
  rw [f.1 41 (hA 41 (by decide)), f.1 42 (hA 42 (by decide)), f.2.1 43 hB]
  exact h
theorem c_lookAhead {σ : St} {g : Gh} {S st : Nat} (hg : okG g) (hC : CL σ g S) (hst : st < rx (zs g S) 8) (hD : SD σ g S st) (hSL : SL σ g S (st + 1)) : ∃ υ, FR [41, 42] [43] [] [] σ υ ∧ LA υ g S st (am S) ∧ fX2_lookAhead σ (nI st) = some υ := by
  have hS := hC.1
  have hsm := hC.2.1
  have h1 := rho_am S hS.1
  have key := it_for (β := St) (body := fun (kb : (St × Int32) → Option St) (t : St × Int32) => fX2_lookAhead_L2 (nI st) (fun σ v2 => kb (σ, v2)) t.1 t.2) (am S) (by omega) (fun a τ => (τ, nI a)) (fun a τ => FR [41, 42] [43] [] [] σ τ ∧ LA τ g S st a) (fun a τ z => ∃ υ, FR [41, 42] [43] [] [] σ υ ∧ LA υ g S st (am S) ∧ z = some υ) ?_ 0 σ (Nat.zero_le _) ⟨FR.rf _ _ _ _ _, fun b hb => absurd hb (Nat.not_lt_zero _)⟩
  · exact key
  · rintro a τ ha ⟨hF, hA⟩ kb hkb
    show ∃ υ, _ ∧ _ ∧ fX2_lookAhead_L2 (nI st) (fun σ v2 => kb (σ, v2)) τ (nI a) = _
    have hC2 := hC.fr hF (by decide) (by decide) (by decide)
    have h21 := hC2.2.2.2.1
    unfold fX2_lookAhead_L2
    by_cases hae : a = am S
    · rw [hae] at hA
      exact ⟨τ, hF, hA, by simp (disch := omega) only [l0, l1, l2, l3, l4, l5, l6, l7, l8, l9, l10, l11, l12, l16, l18, l19, l20, l21, l24, l96, l128, l100, l144, l200, l256, l288, l1536, l1728, l1800, bnd, nI_add, pk_mul, pI_sub, pI_m1, pT_le, pF_le, pT_lt, pF_lt, pT_eq, pF_eq, pF_m1, mF_eq, mT_eq, mT_lt, mF_le, lm1, rd_nI, wr_nI, cl_nI, pk_us, un_ne, pk_uLs, uL_ne, zI_uI, zI_uJ, zI_uA, zI_uB, zI_uR, zI_uN, zJ_uI, zJ_uJ, zJ_uA, zJ_uB, zJ_uR, zJ_uN, zA_uI, zA_uJ, zA_uA, zA_uB, zA_uR, zA_uN, zB_uI, zB_uJ, zB_uA, zB_uB, zB_uR, zB_uN, zR_uI, zR_uJ, zR_uA, zR_uB, zR_uR, zR_uN, zN_uI, zN_uJ, zN_uA, zN_uB, zN_uR, zN_uN, zI_ne, zJ_ne, zA_ne, zB_ne, zR_ne, zN_ne, bi_T, bi_F, nz16, ↓reduceIte, not_true_eq_false, not_false_eq_true, Bool.false_eq_true, reduceCtorEq, h21, hae]⟩
    · have ha2 : a < am S := by omega
      have hi := rho_in S hS.1 a (by omega) ha2
      have hl := hC2.2.2.1 a ha2
      have h40 := (hD.fr hF (by decide)) a ha2
      have hle := sd_le (zs g S) st (rho S a)
      have hz := zs_le hg hS hi.1
      have hol := oA_lt (z := zs g S) hi.1
      have ho20 := hsm.2
      -- what a write at a keeps
      have keep : ∀ τ' : St, (∀ b, b ≠ a → zA τ' 41 b = zA τ 41 b ∧ zA τ' 42 b = zA τ 42 b ∧ zB τ' 43 b = zB τ 43 b) → ((sd (zs g S) st (rho S a) < zs g S (rho S a) → zA τ' 41 a = nI (1 + (xL g S (st + rx (zs g S) (rho S a)) (rho S a + 1)).1) ∧ zB τ' 43 a = lN (xL g S (st + rx (zs g S) (rho S a)) (rho S a + 1)).2 ∧ ∃ v, zA τ' 42 a = nI v ∧ FB g S (16 * rho S a + sd (zs g S) st (rho S a)) v) ∧ (¬ sd (zs g S) st (rho S a) < zs g S (rho S a) → zA τ' 41 a = nI 1000)) → LA τ' g S st (a + 1) := by
        intro τ' h2 h3 b hb
        by_cases e : b = a
        · rw [e]
          exact h3
        · rw [(h2 b e).1, (h2 b e).2.1, (h2 b e).2.2]
          exact hA b (by omega)
      by_cases hs : sd (zs g S) st (rho S a) < zs g S (rho S a)
      · have hroom := sd_room hs hi.1 hst
        have hxp := rx_pos (zs g S) (rho S a)
        have hx := xL_le (st := st + rx (zs g S) (rho S a)) (last := rho S a + 1) hsm
        have hsl := hSL (st + rx (zs g S) (rho S a)) a (by omega) hroom ha2 (by rw [sd_same hs]; omega)
        have hslt := slot_lt hroom ha2
        have hrm := hC.2.2.2.2.2.2
        obtain ⟨v, hv, hfb⟩ := hC.2.2.2.2.2.1 a (sd (zs g S) st (rho S a)) (.inl ha2) ha2 hs
        have hv2 : zA τ 39 (oA (zs g S) (rho S a) + sd (zs g S) st (rho S a)) = nI v := by rw [hF.1 39 (by decide)]; exact hv
        have h160 := hrm.2
        have hbh : ∀ f, fX2_slotBehind (uA τ 41 f) (nI st) (nI a) = some (nI ((st + rx (zs g S) (rho S a)) * am S + a)) := by
          intro f
          unfold fX2_slotBehind
          simp (disch := omega) only [l0, l1, l2, l3, l4, l5, l6, l7, l8, l9, l10, l11, l12, l16, l18, l19, l20, l21, l24, l96, l128, l100, l144, l200, l256, l288, l1536, l1728, l1800, bnd, nI_add, pk_mul, pI_sub, pI_m1, pT_le, pF_le, pT_lt, pF_lt, pT_eq, pF_eq, pF_m1, mF_eq, mT_eq, mT_lt, mF_le, lm1, rd_nI, wr_nI, cl_nI, pk_us, un_ne, pk_uLs, uL_ne, zI_uI, zI_uJ, zI_uA, zI_uB, zI_uR, zI_uN, zJ_uI, zJ_uJ, zJ_uA, zJ_uB, zJ_uR, zJ_uN, zA_uI, zA_uJ, zA_uA, zA_uB, zA_uR, zA_uN, zB_uI, zB_uJ, zB_uA, zB_uB, zB_uR, zB_uN, zR_uI, zR_uJ, zR_uA, zR_uB, zR_uR, zR_uN, zN_uI, zN_uJ, zN_uA, zN_uB, zN_uR, zN_uN, zI_ne, zJ_ne, zA_ne, zB_ne, zR_ne, zN_ne, bi_T, bi_F, nz16, ↓reduceIte, not_true_eq_false, not_false_eq_true, Bool.false_eq_true, reduceCtorEq, hl.2.2.1, h21]
        generalize hky : (st + rx (zs g S) (rho S a)) * am S + a = ky at *
        generalize hxl : xL g S (st + rx (zs g S) (rho S a)) (rho S a + 1) = x at *
        have hga : ∀ f, fX2_gapsAt (uA τ 41 f) (nI ky) = some (nI x.1) := fun f => c_gapsAt (τ := uA τ 41 f) (w := x.2) (by rw [zN_uA, hF.2.2.2.1 45 (by decide)]; exact Nat.lt_trans hslt hrm.1) (by rw [zN_uA, hF.2.2.2.1 45 (by decide)]; exact hrm.2) (by omega) (by rw [zB_uA, hF.2.1 45 (by decide)]; exact hsl)
        have hwa : ∀ f, fX2_waysAt (uA τ 41 f) (nI ky) = some (lN x.2) := fun f => c_waysAt (τ := uA τ 41 f) (w := x.2) (p := x.1) (by rw [zN_uA, hF.2.2.2.1 45 (by decide)]; exact Nat.lt_trans hslt hrm.1) (by rw [zN_uA, hF.2.2.2.1 45 (by decide)]; exact hrm.2) (by omega) hx.2 (by rw [zB_uA, hF.2.1 45 (by decide)]; exact hsl)
        have nx := hkb (uA (uB (uA τ 41 (upd (zA τ 41) a (nI (1 + x.1)))) 43 (vp_updL (zB τ 43) a (lN x.2))) 42 (upd (zA τ 42) a (nI v))) ha2 ⟨FR.uA (FR.uB (FR.uA hF (by decide)) (by decide)) (by decide), keep _ (fun b hb => by
          refine ⟨?_, ?_, ?_⟩
          · simp (disch := omega) only [l0, l1, l2, l3, l4, l5, l6, l7, l8, l9, l10, l11, l12, l16, l18, l19, l20, l21, l24, l96, l128, l100, l144, l200, l256, l288, l1536, l1728, l1800, bnd, nI_add, pk_mul, pI_sub, pI_m1, pT_le, pF_le, pT_lt, pF_lt, pT_eq, pF_eq, pF_m1, mF_eq, mT_eq, mT_lt, mF_le, lm1, rd_nI, wr_nI, cl_nI, pk_us, un_ne, pk_uLs, uL_ne, zI_uI, zI_uJ, zI_uA, zI_uB, zI_uR, zI_uN, zJ_uI, zJ_uJ, zJ_uA, zJ_uB, zJ_uR, zJ_uN, zA_uI, zA_uJ, zA_uA, zA_uB, zA_uR, zA_uN, zB_uI, zB_uJ, zB_uA, zB_uB, zB_uR, zB_uN, zR_uI, zR_uJ, zR_uA, zR_uB, zR_uR, zR_uN, zN_uI, zN_uJ, zN_uA, zN_uB, zN_uR, zN_uN, zI_ne, zJ_ne, zA_ne, zB_ne, zR_ne, zN_ne, bi_T, bi_F, nz16, ↓reduceIte, not_true_eq_false, not_false_eq_true, Bool.false_eq_true, reduceCtorEq]
          · simp (disch := omega) only [l0, l1, l2, l3, l4, l5, l6, l7, l8, l9, l10, l11, l12, l16, l18, l19, l20, l21, l24, l96, l128, l100, l144, l200, l256, l288, l1536, l1728, l1800, bnd, nI_add, pk_mul, pI_sub, pI_m1, pT_le, pF_le, pT_lt, pF_lt, pT_eq, pF_eq, pF_m1, mF_eq, mT_eq, mT_lt, mF_le, lm1, rd_nI, wr_nI, cl_nI, pk_us, un_ne, pk_uLs, uL_ne, zI_uI, zI_uJ, zI_uA, zI_uB, zI_uR, zI_uN, zJ_uI, zJ_uJ, zJ_uA, zJ_uB, zJ_uR, zJ_uN, zA_uI, zA_uJ, zA_uA, zA_uB, zA_uR, zA_uN, zB_uI, zB_uJ, zB_uA, zB_uB, zB_uR, zB_uN, zR_uI, zR_uJ, zR_uA, zR_uB, zR_uR, zR_uN, zN_uI, zN_uJ, zN_uA, zN_uB, zN_uR, zN_uN, zI_ne, zJ_ne, zA_ne, zB_ne, zR_ne, zN_ne, bi_T, bi_F, nz16, ↓reduceIte, not_true_eq_false, not_false_eq_true, Bool.false_eq_true, reduceCtorEq]
          · simp (disch := omega) only [l0, l1, l2, l3, l4, l5, l6, l7, l8, l9, l10, l11, l12, l16, l18, l19, l20, l21, l24, l96, l128, l100, l144, l200, l256, l288, l1536, l1728, l1800, bnd, nI_add, pk_mul, pI_sub, pI_m1, pT_le, pF_le, pT_lt, pF_lt, pT_eq, pF_eq, pF_m1, mF_eq, mT_eq, mT_lt, mF_le, lm1, rd_nI, wr_nI, cl_nI, pk_us, un_ne, pk_uLs, uL_ne, zI_uI, zI_uJ, zI_uA, zI_uB, zI_uR, zI_uN, zJ_uI, zJ_uJ, zJ_uA, zJ_uB, zJ_uR, zJ_uN, zA_uI, zA_uJ, zA_uA, zA_uB, zA_uR, zA_uN, zB_uI, zB_uJ, zB_uA, zB_uB, zB_uR, zB_uN, zR_uI, zR_uJ, zR_uA, zR_uB, zR_uR, zR_uN, zN_uI, zN_uJ, zN_uA, zN_uB, zN_uR, zN_uN, zI_ne, zJ_ne, zA_ne, zB_ne, zR_ne, zN_ne, bi_T, bi_F, nz16, ↓reduceIte, not_true_eq_false, not_false_eq_true, Bool.false_eq_true, reduceCtorEq]) ⟨fun _ => by
            refine ⟨?_, ?_, v, ?_, hfb⟩
            · simp (disch := omega) only [l0, l1, l2, l3, l4, l5, l6, l7, l8, l9, l10, l11, l12, l16, l18, l19, l20, l21, l24, l96, l128, l100, l144, l200, l256, l288, l1536, l1728, l1800, bnd, nI_add, pk_mul, pI_sub, pI_m1, pT_le, pF_le, pT_lt, pF_lt, pT_eq, pF_eq, pF_m1, mF_eq, mT_eq, mT_lt, mF_le, lm1, rd_nI, wr_nI, cl_nI, pk_us, un_ne, pk_uLs, uL_ne, zI_uI, zI_uJ, zI_uA, zI_uB, zI_uR, zI_uN, zJ_uI, zJ_uJ, zJ_uA, zJ_uB, zJ_uR, zJ_uN, zA_uI, zA_uJ, zA_uA, zA_uB, zA_uR, zA_uN, zB_uI, zB_uJ, zB_uA, zB_uB, zB_uR, zB_uN, zR_uI, zR_uJ, zR_uA, zR_uB, zR_uR, zR_uN, zN_uI, zN_uJ, zN_uA, zN_uB, zN_uR, zN_uN, zI_ne, zJ_ne, zA_ne, zB_ne, zR_ne, zN_ne, bi_T, bi_F, nz16, ↓reduceIte, not_true_eq_false, not_false_eq_true, Bool.false_eq_true, reduceCtorEq]
            · simp (disch := omega) only [l0, l1, l2, l3, l4, l5, l6, l7, l8, l9, l10, l11, l12, l16, l18, l19, l20, l21, l24, l96, l128, l100, l144, l200, l256, l288, l1536, l1728, l1800, bnd, nI_add, pk_mul, pI_sub, pI_m1, pT_le, pF_le, pT_lt, pF_lt, pT_eq, pF_eq, pF_m1, mF_eq, mT_eq, mT_lt, mF_le, lm1, rd_nI, wr_nI, cl_nI, pk_us, un_ne, pk_uLs, uL_ne, zI_uI, zI_uJ, zI_uA, zI_uB, zI_uR, zI_uN, zJ_uI, zJ_uJ, zJ_uA, zJ_uB, zJ_uR, zJ_uN, zA_uI, zA_uJ, zA_uA, zA_uB, zA_uR, zA_uN, zB_uI, zB_uJ, zB_uA, zB_uB, zB_uR, zB_uN, zR_uI, zR_uJ, zR_uA, zR_uB, zR_uR, zR_uN, zN_uI, zN_uJ, zN_uA, zN_uB, zN_uR, zN_uN, zI_ne, zJ_ne, zA_ne, zB_ne, zR_ne, zN_ne, bi_T, bi_F, nz16, ↓reduceIte, not_true_eq_false, not_false_eq_true, Bool.false_eq_true, reduceCtorEq]
            · simp (disch := omega) only [l0, l1, l2, l3, l4, l5, l6, l7, l8, l9, l10, l11, l12, l16, l18, l19, l20, l21, l24, l96, l128, l100, l144, l200, l256, l288, l1536, l1728, l1800, bnd, nI_add, pk_mul, pI_sub, pI_m1, pT_le, pF_le, pT_lt, pF_lt, pT_eq, pF_eq, pF_m1, mF_eq, mT_eq, mT_lt, mF_le, lm1, rd_nI, wr_nI, cl_nI, pk_us, un_ne, pk_uLs, uL_ne, zI_uI, zI_uJ, zI_uA, zI_uB, zI_uR, zI_uN, zJ_uI, zJ_uJ, zJ_uA, zJ_uB, zJ_uR, zJ_uN, zA_uI, zA_uJ, zA_uA, zA_uB, zA_uR, zA_uN, zB_uI, zB_uJ, zB_uA, zB_uB, zB_uR, zB_uN, zR_uI, zR_uJ, zR_uA, zR_uB, zR_uR, zR_uN, zN_uI, zN_uJ, zN_uA, zN_uB, zN_uR, zN_uN, zI_ne, zJ_ne, zA_ne, zB_ne, zR_ne, zN_ne, bi_T, bi_F, nz16, ↓reduceIte, not_true_eq_false, not_false_eq_true, Bool.false_eq_true, reduceCtorEq], fun hn => absurd hs hn⟩⟩
        simp (disch := omega) only [l0, l1, l2, l3, l4, l5, l6, l7, l8, l9, l10, l11, l12, l16, l18, l19, l20, l21, l24, l96, l128, l100, l144, l200, l256, l288, l1536, l1728, l1800, bnd, nI_add, pk_mul, pI_sub, pI_m1, pT_le, pF_le, pT_lt, pF_lt, pT_eq, pF_eq, pF_m1, mF_eq, mT_eq, mT_lt, mF_le, lm1, rd_nI, wr_nI, cl_nI, pk_us, un_ne, pk_uLs, uL_ne, zI_uI, zI_uJ, zI_uA, zI_uB, zI_uR, zI_uN, zJ_uI, zJ_uJ, zJ_uA, zJ_uB, zJ_uR, zJ_uN, zA_uI, zA_uJ, zA_uA, zA_uB, zA_uR, zA_uN, zB_uI, zB_uJ, zB_uA, zB_uB, zB_uR, zB_uN, zR_uI, zR_uJ, zR_uA, zR_uB, zR_uR, zR_uN, zN_uI, zN_uJ, zN_uA, zN_uB, zN_uR, zN_uN, zI_ne, zJ_ne, zA_ne, zB_ne, zR_ne, zN_ne, bi_T, bi_F, nz16, ↓reduceIte, not_true_eq_false, not_false_eq_true, Bool.false_eq_true, reduceCtorEq, h21, hl.2.2.2, h40, hl.2.1, hbh, hga, l1000, uA_uA, un_un, hwa, hv2]
        exact nx
      · have nx := hkb (uA τ 41 (upd (zA τ 41) a (nI 1000))) ha2 ⟨FR.uA hF (by decide), keep _ (fun b hb => by
          refine ⟨?_, ?_, ?_⟩
          · simp (disch := omega) only [l0, l1, l2, l3, l4, l5, l6, l7, l8, l9, l10, l11, l12, l16, l18, l19, l20, l21, l24, l96, l128, l100, l144, l200, l256, l288, l1536, l1728, l1800, bnd, nI_add, pk_mul, pI_sub, pI_m1, pT_le, pF_le, pT_lt, pF_lt, pT_eq, pF_eq, pF_m1, mF_eq, mT_eq, mT_lt, mF_le, lm1, rd_nI, wr_nI, cl_nI, pk_us, un_ne, pk_uLs, uL_ne, zI_uI, zI_uJ, zI_uA, zI_uB, zI_uR, zI_uN, zJ_uI, zJ_uJ, zJ_uA, zJ_uB, zJ_uR, zJ_uN, zA_uI, zA_uJ, zA_uA, zA_uB, zA_uR, zA_uN, zB_uI, zB_uJ, zB_uA, zB_uB, zB_uR, zB_uN, zR_uI, zR_uJ, zR_uA, zR_uB, zR_uR, zR_uN, zN_uI, zN_uJ, zN_uA, zN_uB, zN_uR, zN_uN, zI_ne, zJ_ne, zA_ne, zB_ne, zR_ne, zN_ne, bi_T, bi_F, nz16, ↓reduceIte, not_true_eq_false, not_false_eq_true, Bool.false_eq_true, reduceCtorEq]
          · simp (disch := omega) only [l0, l1, l2, l3, l4, l5, l6, l7, l8, l9, l10, l11, l12, l16, l18, l19, l20, l21, l24, l96, l128, l100, l144, l200, l256, l288, l1536, l1728, l1800, bnd, nI_add, pk_mul, pI_sub, pI_m1, pT_le, pF_le, pT_lt, pF_lt, pT_eq, pF_eq, pF_m1, mF_eq, mT_eq, mT_lt, mF_le, lm1, rd_nI, wr_nI, cl_nI, pk_us, un_ne, pk_uLs, uL_ne, zI_uI, zI_uJ, zI_uA, zI_uB, zI_uR, zI_uN, zJ_uI, zJ_uJ, zJ_uA, zJ_uB, zJ_uR, zJ_uN, zA_uI, zA_uJ, zA_uA, zA_uB, zA_uR, zA_uN, zB_uI, zB_uJ, zB_uA, zB_uB, zB_uR, zB_uN, zR_uI, zR_uJ, zR_uA, zR_uB, zR_uR, zR_uN, zN_uI, zN_uJ, zN_uA, zN_uB, zN_uR, zN_uN, zI_ne, zJ_ne, zA_ne, zB_ne, zR_ne, zN_ne, bi_T, bi_F, nz16, ↓reduceIte, not_true_eq_false, not_false_eq_true, Bool.false_eq_true, reduceCtorEq]
          · simp (disch := omega) only [l0, l1, l2, l3, l4, l5, l6, l7, l8, l9, l10, l11, l12, l16, l18, l19, l20, l21, l24, l96, l128, l100, l144, l200, l256, l288, l1536, l1728, l1800, bnd, nI_add, pk_mul, pI_sub, pI_m1, pT_le, pF_le, pT_lt, pF_lt, pT_eq, pF_eq, pF_m1, mF_eq, mT_eq, mT_lt, mF_le, lm1, rd_nI, wr_nI, cl_nI, pk_us, un_ne, pk_uLs, uL_ne, zI_uI, zI_uJ, zI_uA, zI_uB, zI_uR, zI_uN, zJ_uI, zJ_uJ, zJ_uA, zJ_uB, zJ_uR, zJ_uN, zA_uI, zA_uJ, zA_uA, zA_uB, zA_uR, zA_uN, zB_uI, zB_uJ, zB_uA, zB_uB, zB_uR, zB_uN, zR_uI, zR_uJ, zR_uA, zR_uB, zR_uR, zR_uN, zN_uI, zN_uJ, zN_uA, zN_uB, zN_uR, zN_uN, zI_ne, zJ_ne, zA_ne, zB_ne, zR_ne, zN_ne, bi_T, bi_F, nz16, ↓reduceIte, not_true_eq_false, not_false_eq_true, Bool.false_eq_true, reduceCtorEq]) ⟨fun hn => absurd hn hs, fun _ => by simp (disch := omega) only [l0, l1, l2, l3, l4, l5, l6, l7, l8, l9, l10, l11, l12, l16, l18, l19, l20, l21, l24, l96, l128, l100, l144, l200, l256, l288, l1536, l1728, l1800, bnd, nI_add, pk_mul, pI_sub, pI_m1, pT_le, pF_le, pT_lt, pF_lt, pT_eq, pF_eq, pF_m1, mF_eq, mT_eq, mT_lt, mF_le, lm1, rd_nI, wr_nI, cl_nI, pk_us, un_ne, pk_uLs, uL_ne, zI_uI, zI_uJ, zI_uA, zI_uB, zI_uR, zI_uN, zJ_uI, zJ_uJ, zJ_uA, zJ_uB, zJ_uR, zJ_uN, zA_uI, zA_uJ, zA_uA, zA_uB, zA_uR, zA_uN, zB_uI, zB_uJ, zB_uA, zB_uB, zB_uR, zB_uN, zR_uI, zR_uJ, zR_uA, zR_uB, zR_uR, zR_uN, zN_uI, zN_uJ, zN_uA, zN_uB, zN_uR, zN_uN, zI_ne, zJ_ne, zA_ne, zB_ne, zR_ne, zN_ne, bi_T, bi_F, nz16, ↓reduceIte, not_true_eq_false, not_false_eq_true, Bool.false_eq_true, reduceCtorEq]⟩⟩
        simp (disch := omega) only [l0, l1, l2, l3, l4, l5, l6, l7, l8, l9, l10, l11, l12, l16, l18, l19, l20, l21, l24, l96, l128, l100, l144, l200, l256, l288, l1536, l1728, l1800, bnd, nI_add, pk_mul, pI_sub, pI_m1, pT_le, pF_le, pT_lt, pF_lt, pT_eq, pF_eq, pF_m1, mF_eq, mT_eq, mT_lt, mF_le, lm1, rd_nI, wr_nI, cl_nI, pk_us, un_ne, pk_uLs, uL_ne, zI_uI, zI_uJ, zI_uA, zI_uB, zI_uR, zI_uN, zJ_uI, zJ_uJ, zJ_uA, zJ_uB, zJ_uR, zJ_uN, zA_uI, zA_uJ, zA_uA, zA_uB, zA_uR, zA_uN, zB_uI, zB_uJ, zB_uA, zB_uB, zB_uR, zB_uN, zR_uI, zR_uJ, zR_uA, zR_uB, zR_uR, zR_uN, zN_uI, zN_uJ, zN_uA, zN_uB, zN_uR, zN_uN, zI_ne, zJ_ne, zA_ne, zB_ne, zR_ne, zN_ne, bi_T, bi_F, nz16, ↓reduceIte, not_true_eq_false, not_false_eq_true, Bool.false_eq_true, reduceCtorEq, h21, hl.2.2.2, h40, hl.2.1, l1000]
        exact nx
/-- which speech a bit of what is followed means *-/
def LC (g : Gh) (S st last x : Nat) : Prop := (last = 0 ∧ x = 20) ∨ (1 ≤ last ∧ last ≤ 8 ∧ 0 < sd (zs g S) st (last - 1) ∧ x = oA (zs g S) (last - 1) + sd (zs g S) st (last - 1) - 1)
def gn (g : Gh) (S st last r : Nat) : Nat := if sd (zs g S) st r < zs g S r then (xN g S st last r).1 else 1000
theorem og_bit {g : Gh} {S st last x r v : Nat} (hg : okG g) (hS : inG g S) (hr : r < 8) (hs : sd (zs g S) st r < zs g S r) (hx : LC g S st last x) (hv : FB g S (16 * r + sd (zs g S) st r) v) : og g (zs g S) st last r = if v.testBit x = true then 0 else 1 := by
  have hz := zs_le hg hS hr
  unfold og
  rcases hx with ⟨h1, h2⟩ | ⟨h1, h2, h3, h4⟩
  · rw [if_pos h1, h2, hv.2.1]
    by_cases hc : (gC g (16 * r + sd (zs g S) st r)).length = 0
    · rw [if_pos hc, if_pos (decide_eq_true hc)]
    · rw [if_neg hc, decide_eq_false hc, if_neg (by decide)]
  · have hle := sd_le (zs g S) st (last - 1)
    have h5 := hv.2.2 (last - 1) (sd (zs g S) st (last - 1) - 1) (by omega) (by omega)
    rw [show oA (zs g S) (last - 1) + (sd (zs g S) st (last - 1) - 1) = x by omega, show (16 * r + sd (zs g S) st r) / 16 = r by omega, show 16 * (last - 1) + (sd (zs g S) st (last - 1) - 1) = 16 * (last - 1) + sd (zs g S) st (last - 1) - 1 by omega] at h5
    rw [if_neg (by omega), h5]
    by_cases he : last - 1 = r
    · rw [if_pos he, decide_eq_false (fun h => h he), Bool.false_and, if_neg (by decide)]
    · rw [if_neg he, decide_eq_true he, Bool.true_and]
theorem c_gapsIfNext {τ : St} {g : Gh} {S st last x a : Nat} (hg : okG g) (hS : inG g S) (hA : LA τ g S st (am S)) (ha : a < am S) (hx : LC g S st last x) (hsm : sm g S) : fX2_gapsIfNext τ (nI a) (nI x) = some (nI (gn g S st last (rho S a))) := by
  have h1 := rho_am S hS.1
  have hi := rho_in S hS.1 a (by omega) ha
  have hl := hA a ha
  have hx20 : x ≤ 20 := by
    rcases hx with hx | hx
    · omega
    · have h3 := oA_lt (z := zs g S) (r := last - 1) (n := 8) (by omega)
      have h4 := sd_le (zs g S) st (last - 1)
      have h5 := hsm.2
      omega
  unfold fX2_gapsIfNext gn
  by_cases hs : sd (zs g S) st (rho S a) < zs g S (rho S a)
  · rw [if_pos hs]
    obtain ⟨h2, _, v, h3, h4⟩ := hl.1 hs
    have hxl := xL_le (st := st + rx (zs g S) (rho S a)) (last := rho S a + 1) hsm
    have hv21 : v < 2147483648 := Nat.lt_trans h4.1 (by decide)
    have hsh := shr1 (t := v) (r := x) hv21 (by omega)
    have hob := og_bit hg hS hi.1 hs hx h4
    have e1 : (xN g S st last (rho S a)).1 = (xL g S (st + rx (zs g S) (rho S a)) (rho S a + 1)).1 + og g (zs g S) st last (rho S a) := rfl
    rw [e1]
    generalize (xL g S (st + rx (zs g S) (rho S a)) (rho S a + 1)).1 = y at *
    rw [hob, tb_eq]
    by_cases hb : v / 2 ^ x % 2 = 1
    · rw [decide_eq_true hb, if_pos rfl]
      have hsub : nI (1 + y) - nI 1 = nI (1 + y - 1) := pI_sub (by omega)
      simp (disch := omega) only [l0, l1, l2, l3, l4, l5, l6, l7, l8, l9, l10, l11, l12, l16, l18, l19, l20, l21, l24, l96, l128, l100, l144, l200, l256, l288, l1536, l1728, l1800, bnd, nI_add, pk_mul, pI_sub, pI_m1, pT_le, pF_le, pT_lt, pF_lt, pT_eq, pF_eq, pF_m1, mF_eq, mT_eq, mT_lt, mF_le, lm1, rd_nI, wr_nI, cl_nI, pk_us, un_ne, pk_uLs, uL_ne, zI_uI, zI_uJ, zI_uA, zI_uB, zI_uR, zI_uN, zJ_uI, zJ_uJ, zJ_uA, zJ_uB, zJ_uR, zJ_uN, zA_uI, zA_uJ, zA_uA, zA_uB, zA_uR, zA_uN, zB_uI, zB_uJ, zB_uA, zB_uB, zB_uR, zB_uN, zR_uI, zR_uJ, zR_uA, zR_uB, zR_uR, zR_uN, zN_uI, zN_uJ, zN_uA, zN_uB, zN_uR, zN_uN, zI_ne, zJ_ne, zA_ne, zB_ne, zR_ne, zN_ne, bi_T, bi_F, nz16, ↓reduceIte, not_true_eq_false, not_false_eq_true, Bool.false_eq_true, reduceCtorEq, h2, h3, l1000, hsh, hb, hsub, Nat.add_sub_cancel_left, Nat.add_zero]
    · have hb0 : v / 2 ^ x % 2 = 0 := by omega
      rw [decide_eq_false hb, if_neg (by decide)]
      have hsub : nI (1 + y) - nI 0 = nI (1 + y - 0) := pI_sub (by omega)
      simp (disch := omega) only [l0, l1, l2, l3, l4, l5, l6, l7, l8, l9, l10, l11, l12, l16, l18, l19, l20, l21, l24, l96, l128, l100, l144, l200, l256, l288, l1536, l1728, l1800, bnd, nI_add, pk_mul, pI_sub, pI_m1, pT_le, pF_le, pT_lt, pF_lt, pT_eq, pF_eq, pF_m1, mF_eq, mT_eq, mT_lt, mF_le, lm1, rd_nI, wr_nI, cl_nI, pk_us, un_ne, pk_uLs, uL_ne, zI_uI, zI_uJ, zI_uA, zI_uB, zI_uR, zI_uN, zJ_uI, zJ_uJ, zJ_uA, zJ_uB, zJ_uR, zJ_uN, zA_uI, zA_uJ, zA_uA, zA_uB, zA_uR, zA_uN, zB_uI, zB_uJ, zB_uA, zB_uB, zB_uR, zB_uN, zR_uI, zR_uJ, zR_uA, zR_uB, zR_uR, zR_uN, zN_uI, zN_uJ, zN_uA, zN_uB, zN_uR, zN_uN, zI_ne, zJ_ne, zA_ne, zB_ne, zR_ne, zN_ne, bi_T, bi_F, nz16, ↓reduceIte, not_true_eq_false, not_false_eq_true, Bool.false_eq_true, reduceCtorEq, h2, h3, l1000, hsh, hb0, hsub, Nat.sub_zero]
      rw [Nat.add_comm]
  · rw [if_neg hs]
    have h2 := hl.2 hs
    simp (disch := omega) only [l0, l1, l2, l3, l4, l5, l6, l7, l8, l9, l10, l11, l12, l16, l18, l19, l20, l21, l24, l96, l128, l100, l144, l200, l256, l288, l1536, l1728, l1800, bnd, nI_add, pk_mul, pI_sub, pI_m1, pT_le, pF_le, pT_lt, pF_lt, pT_eq, pF_eq, pF_m1, mF_eq, mT_eq, mT_lt, mF_le, lm1, rd_nI, wr_nI, cl_nI, pk_us, un_ne, pk_uLs, uL_ne, zI_uI, zI_uJ, zI_uA, zI_uB, zI_uR, zI_uN, zJ_uI, zJ_uJ, zJ_uA, zJ_uB, zJ_uR, zJ_uN, zA_uI, zA_uJ, zA_uA, zA_uB, zA_uR, zA_uN, zB_uI, zB_uJ, zB_uA, zB_uB, zB_uR, zB_uN, zR_uI, zR_uJ, zR_uA, zR_uB, zR_uR, zR_uN, zN_uI, zN_uJ, zN_uA, zN_uB, zN_uR, zN_uN, zI_ne, zJ_ne, zA_ne, zB_ne, zR_ne, zN_ne, bi_T, bi_F, nz16, ↓reduceIte, not_true_eq_false, not_false_eq_true, Bool.false_eq_true, reduceCtorEq, h2, l1000]
