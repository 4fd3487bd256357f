/-! back -/
theorem PI_cut {σ : St} {g : Gh} {pl : List Nat} {kr kp : Nat} (hg : okG g) (hp : PI σ g pl) (hkr : kr ≤ gN g) (hkp : kp ≤ pl.length) (hk : ∀ k, k < kp → pl.getD k 0 / 16 < kr) {τ : St} (h26 : zI τ 26 = nI kp) (h48 : zI τ 48 = nI kp) (h47 : zA τ 47 = zA σ 47) (h78 : zA τ 78 = zA σ 78) : PI τ (gcut g kr) (pl.take kp) := by
  have hl : (pl.take kp).length = kp := by rw [List.length_take]; omega
  refine ⟨by rw [hl]; exact h26, by rw [hl]; exact h48, fun k hkl => ?_, fun s hs => ?_, fun r hr => ?_⟩
  · rw [h47, h78, getD_take (by omega)]
    exact hp.2.2.1 k (by omega)
  · obtain ⟨i, hi, he⟩ := List.getElem_of_mem hs
    have h1 := hp.2.2.2.1 s (List.mem_of_mem_take hs)
    have h2 := hk i (by omega)
    rw [List.getD_eq_getElem?_getD, List.getElem?_eq_getElem (by omega)] at h2
    rw [List.getElem_take] at he
    have h3 : pl[i] / 16 < kr := h2
    rw [gcut_vd hkr, h1, decide_eq_true (by rw [← he]; exact h3)]
    rfl
  · have h1 := hp.2.2.2.2 r (Nat.lt_of_lt_of_le hr hkr)
    refine Nat.le_trans ?_ h1
    unfold cR
    exact List.Sublist.countP_le (List.take_sublist kp pl)
theorem c_cutLoop {σ : St} {g : Gh} (hg : okG g) (hj : JC σ g) {k : Nat} (hk : k ≤ gN g) (k1 : St → Option St) : fX7_cutTo_P15 (nI k) k1 σ (nI k) = k1 (uI σ 17 (nI (fb_sm (gS g) k))) := by
  have h18 := hj.1
  have hN := hg.1
  have h17 := hj.2.2.2.1
  rw [sp_sum hg] at h17
  have mono : ∀ i, i ≤ gN g → fb_sm (gS g) k ≤ fb_sm (gS g) k := fun _ _ => Nat.le_refl _
  have split : ∀ i, k ≤ i → i ≤ gN g → fb_sm (gS g) (gN g) = fb_sm (gS g) i + fb_sm (fun j => gS g (i + j)) (gN g - i) := by
    intro i _ hi
    have := fb_sm_split (gS g) i (gN g - i)
    rw [show i + (gN g - i) = gN g by omega] at this
    exact this
  have hbound : fb_sm (gS g) (gN g) ≤ 96 := by
    have := fb_sm_bound (f := gS g) (c := 12) (n := gN g) (fun r hr => (hg.2.1 r hr).2)
    have h3 : gN g * 12 ≤ 8 * 12 := Nat.mul_le_mul_right _ hN
    omega
  have key := it_for (β := Unit) (body := fun (kb : (St × Int32) → Option St) (t : St × Int32) => fX7_cutTo_L15 (nI k) k1 (fun σ v2 => kb (σ, v2)) t.1 t.2) (gN g - k) (by omega) (fun i _ => (uI σ 17 (nI (fb_sm (gS g) k + fb_sm (fun j => gS g (k + i + j)) (gN g - (k + i)))), nI (k + i))) (fun _ _ => True) (fun i _ z => z = k1 (uI σ 17 (nI (fb_sm (gS g) k)))) ?_ 0 () (Nat.zero_le _) trivial
  · have e1 : uI σ 17 (nI (fb_sm (gS g) k + fb_sm (fun j => gS g (k + 0 + j)) (gN g - (k + 0)))) = σ := by
      rw [Nat.add_zero, ← split k (Nat.le_refl _) hk, ← h17]
      unfold uI zI
      have : va_up σ.1 17 (σ.1 17) = σ.1 := by
        funext j
        unfold va_up
        split
        · rename_i e; rw [e]
        · rfl
      rw [this]
    simp only [e1] at key
    exact key
  · intro i _ hi _ kb hkb
    show fX7_cutTo_L15 _ _ _ (uI σ 17 (nI (fb_sm (gS g) k + fb_sm (fun j => gS g (k + i + j)) (gN g - (k + i))))) (nI (k + i)) = _
    unfold fX7_cutTo_L15
    by_cases hin : k + i = gN g
    · have e0 : fb_sm (fun j => gS g (k + i + j)) (gN g - (k + i)) = 0 := by rw [hin, Nat.sub_self]; rfl
      rw [e0, Nat.add_zero]
      simp (disch := omega) only [l0, l1, l2, l3, l4, l5, l6, l7, l8, l9, l10, l11, l12, l16, l18, l19, l20, l21, l24, l96, l128, l100, l144, l200, l256, l288, l1536, l1728, l1800, bnd, nI_add, pk_mul, pI_sub, pI_m1, pT_le, pF_le, pT_lt, pF_lt, pT_eq, pF_eq, pF_m1, mF_eq, mT_eq, mT_lt, mF_le, lm1, rd_nI, wr_nI, cl_nI, pk_us, un_ne, pk_uLs, uL_ne, zI_uI, zI_uJ, zI_uA, zI_uB, zI_uR, zI_uN, zJ_uI, zJ_uJ, zJ_uA, zJ_uB, zJ_uR, zJ_uN, zA_uI, zA_uJ, zA_uA, zA_uB, zA_uR, zA_uN, zB_uI, zB_uJ, zB_uA, zB_uB, zB_uR, zB_uN, zR_uI, zR_uJ, zR_uA, zR_uB, zR_uR, zR_uN, zN_uI, zN_uJ, zN_uA, zN_uB, zN_uR, zN_uN, zI_ne, zJ_ne, zA_ne, zB_ne, zR_ne, zN_ne, bi_T, bi_F, nz16, ↓reduceIte, not_true_eq_false, not_false_eq_true, Bool.false_eq_true, reduceCtorEq, h18]
    · have h23 := hj.2.1 (k + i) (by omega)
      have nx := hkb () (by omega) trivial
      have e1 := fb_sm_split (fun j => gS g (k + i + j)) 1 (gN g - (k + (i + 1)))
      rw [show 1 + (gN g - (k + (i + 1))) = gN g - (k + i) by omega] at e1
      have e2 : fb_sm (fun j => gS g (k + i + j)) 1 = gS g (k + i) := by rw [fb_sm_succ]; show 0 + gS g (k + i + 0) = _; rw [Nat.zero_add, Nat.add_zero]
      have e3 : fb_sm (fun j => gS g (k + i + (1 + j))) (gN g - (k + (i + 1))) = fb_sm (fun j => gS g (k + (i + 1) + j)) (gN g - (k + (i + 1))) := by
        apply fb_sm_cong
        intro j _
        rw [show k + i + (1 + j) = k + (i + 1) + j by omega]
      rw [e2, e3] at e1
      have hs := split (k + i) (by omega) (by omega)
      have hs0 := split k (Nat.le_refl _) hk
      have hst : uI (uI σ 17 (nI (fb_sm (gS g) k + fb_sm (fun j => gS g (k + i + j)) (gN g - (k + i))))) 17 (nI (fb_sm (gS g) k + fb_sm (fun j => gS g (k + i + j)) (gN g - (k + i)) - gS g (k + i))) = uI σ 17 (nI (fb_sm (gS g) k + fb_sm (fun j => gS g (k + (i + 1) + j)) (gN g - (k + (i + 1))))) := by
        rw [uI_uI, e1]
        congr 2
        omega
      simp (disch := omega) only [l0, l1, l2, l3, l4, l5, l6, l7, l8, l9, l10, l11, l12, l16, l18, l19, l20, l21, l24, l96, l128, l100, l144, l200, l256, l288, l1536, l1728, l1800, bnd, nI_add, pk_mul, pI_sub, pI_m1, pT_le, pF_le, pT_lt, pF_lt, pT_eq, pF_eq, pF_m1, mF_eq, mT_eq, mT_lt, mF_le, lm1, rd_nI, wr_nI, cl_nI, pk_us, un_ne, pk_uLs, uL_ne, zI_uI, zI_uJ, zI_uA, zI_uB, zI_uR, zI_uN, zJ_uI, zJ_uJ, zJ_uA, zJ_uB, zJ_uR, zJ_uN, zA_uI, zA_uJ, zA_uA, zA_uB, zA_uR, zA_uN, zB_uI, zB_uJ, zB_uA, zB_uB, zB_uR, zB_uN, zR_uI, zR_uJ, zR_uA, zR_uB, zR_uR, zR_uN, zN_uI, zN_uJ, zN_uA, zN_uB, zN_uR, zN_uN, zI_ne, zJ_ne, zA_ne, zB_ne, zR_ne, zN_ne, bi_T, bi_F, nz16, ↓reduceIte, not_true_eq_false, not_false_eq_true, Bool.false_eq_true, reduceCtorEq, h18, h23]
      rw [hst]
      exact nx
theorem JC_cut {σ : St} {g : Gh} (hg : okG g) (hj : JC σ g) {k : Nat} (hk : k ≤ gN g) {τ : St} (h18 : zI τ 18 = nI k) (h17 : zI τ 17 = nI (fb_sm (gS g) k)) (ha : zA τ = zA σ) (hb : zB τ = zB σ) : JC τ (gcut g k) := by
  have hs := sp_sum (gcut_ok hg hk)
  obtain ⟨l, hl⟩ := gcut_pre hg hk
  refine ⟨h18, fun r hr => by rw [ha]; exact hj.2.1 r (Nat.lt_of_lt_of_le hr hk), fun s hs2 => ?_, by rw [hs]; exact h17, fun i hi => ?_⟩
  · rw [gcut_vd hk, Bool.and_eq_true] at hs2
    rw [ha, hb]
    exact hj.2.2.1 s hs2.1
  · have := hj.2.2.2.2 i (by rw [hl, List.length_append]; omega)
    rw [hl, getD_app hi] at this
    rw [ha]
    exact this
/-- what back leaves of the class's store -/
def backC (σ : St) (g : Gh) (kr kp : Nat) : St := if kr < gN g then (if kp < (zI σ 26).toNatClampNeg then uI (uI (uI (uI σ 17 (nI (fb_sm (gS g) kr))) 18 (nI kr)) 19 (zI σ 19 + 1)) 26 (nI kp) else uI (uI (uI σ 17 (nI (fb_sm (gS g) kr))) 18 (nI kr)) 19 (zI σ 19 + 1)) else (if kp < (zI σ 26).toNatClampNeg then uI σ 26 (nI kp) else σ)
theorem c_back {σ : St} {g : Gh} {pl : List Nat} {kr kp : Nat} (hg : okG g) (hj : JC σ g) (hp : PI σ g pl) (hk : KI σ g pl kr kp) : fX11_back σ = some (nI (kr + kp), backC σ g kr kp) ∧ zI (backC σ g kr kp) 26 = nI kp ∧ zI (backC σ g kr kp) 18 = nI kr ∧ zI (backC σ g kr kp) 17 = nI (fb_sm (gS g) kr) := by
  have h18 := hj.1
  have h17 := hj.2.2.2.1
  rw [sp_sum hg] at h17
  have h26 := hp.1
  have h0 := hk.1
  have h1 := hk.2.2.1
  have hkr := hk.2.2.2.2.1
  have hkp := hk.2.2.2.2.2.1
  have hN := hg.1
  have hpl := (pl_le hg hp.2.2.2.1 hp.2.2.2.2).1
  have ecl : (zI σ 26).toNatClampNeg = pl.length := by rw [h26, cl_nI (by omega)]
  have hcut := fun k1 => c_cutLoop hg hj (k := kr) hkr k1
  unfold backC
  rw [ecl]
  by_cases h2 : kr < gN g
  · rw [if_pos h2]
    by_cases h3 : kp < pl.length
    · rw [if_pos h3]
      refine ⟨?_, rfl, rfl, rfl⟩
      unfold fX11_back fX7_cutTo fX8_cutTo fX7_number fX8_played
      simp (disch := omega) only [l0, l1, l2, l3, l4, l5, l6, l7, l8, l9, l10, l11, l12, l16, l18, l19, l20, l21, l24, l96, l128, l100, l144, l200, l256, l288, l1536, l1728, l1800, bnd, nI_add, pk_mul, pI_sub, pI_m1, pT_le, pF_le, pT_lt, pF_lt, pT_eq, pF_eq, pF_m1, mF_eq, mT_eq, mT_lt, mF_le, lm1, rd_nI, wr_nI, cl_nI, pk_us, un_ne, pk_uLs, uL_ne, zI_uI, zI_uJ, zI_uA, zI_uB, zI_uR, zI_uN, zJ_uI, zJ_uJ, zJ_uA, zJ_uB, zJ_uR, zJ_uN, zA_uI, zA_uJ, zA_uA, zA_uB, zA_uR, zA_uN, zB_uI, zB_uJ, zB_uA, zB_uB, zB_uR, zB_uN, zR_uI, zR_uJ, zR_uA, zR_uB, zR_uR, zR_uN, zN_uI, zN_uJ, zN_uA, zN_uB, zN_uR, zN_uN, zI_ne, zJ_ne, zA_ne, zB_ne, zR_ne, zN_ne, bi_T, bi_F, nz16, ↓reduceIte, not_true_eq_false, not_false_eq_true, Bool.false_eq_true, reduceCtorEq, h0, h18, hcut, h1, h26]
    · rw [if_neg h3]
      have e : kp = pl.length := by omega
      refine ⟨?_, by rw [e]; exact h26, rfl, rfl⟩
      unfold fX11_back fX7_cutTo fX8_cutTo fX7_number fX8_played
      simp (disch := omega) only [l0, l1, l2, l3, l4, l5, l6, l7, l8, l9, l10, l11, l12, l16, l18, l19, l20, l21, l24, l96, l128, l100, l144, l200, l256, l288, l1536, l1728, l1800, bnd, nI_add, pk_mul, pI_sub, pI_m1, pT_le, pF_le, pT_lt, pF_lt, pT_eq, pF_eq, pF_m1, mF_eq, mT_eq, mT_lt, mF_le, lm1, rd_nI, wr_nI, cl_nI, pk_us, un_ne, pk_uLs, uL_ne, zI_uI, zI_uJ, zI_uA, zI_uB, zI_uR, zI_uN, zJ_uI, zJ_uJ, zJ_uA, zJ_uB, zJ_uR, zJ_uN, zA_uI, zA_uJ, zA_uA, zA_uB, zA_uR, zA_uN, zB_uI, zB_uJ, zB_uA, zB_uB, zB_uR, zB_uN, zR_uI, zR_uJ, zR_uA, zR_uB, zR_uR, zR_uN, zN_uI, zN_uJ, zN_uA, zN_uB, zN_uR, zN_uN, zI_ne, zJ_ne, zA_ne, zB_ne, zR_ne, zN_ne, bi_T, bi_F, nz16, ↓reduceIte, not_true_eq_false, not_false_eq_true, Bool.false_eq_true, reduceCtorEq, h0, h18, hcut, h1, h26]
      rw [e]
  · rw [if_neg h2]
    have er : kr = gN g := by omega
    by_cases h3 : kp < pl.length
    · rw [if_pos h3]
      refine ⟨?_, rfl, by rw [er]; exact h18, by rw [er]; exact h17⟩
      unfold fX11_back fX7_cutTo fX8_cutTo fX7_number fX8_played
      simp (disch := omega) only [l0, l1, l2, l3, l4, l5, l6, l7, l8, l9, l10, l11, l12, l16, l18, l19, l20, l21, l24, l96, l128, l100, l144, l200, l256, l288, l1536, l1728, l1800, bnd, nI_add, pk_mul, pI_sub, pI_m1, pT_le, pF_le, pT_lt, pF_lt, pT_eq, pF_eq, pF_m1, mF_eq, mT_eq, mT_lt, mF_le, lm1, rd_nI, wr_nI, cl_nI, pk_us, un_ne, pk_uLs, uL_ne, zI_uI, zI_uJ, zI_uA, zI_uB, zI_uR, zI_uN, zJ_uI, zJ_uJ, zJ_uA, zJ_uB, zJ_uR, zJ_uN, zA_uI, zA_uJ, zA_uA, zA_uB, zA_uR, zA_uN, zB_uI, zB_uJ, zB_uA, zB_uB, zB_uR, zB_uN, zR_uI, zR_uJ, zR_uA, zR_uB, zR_uR, zR_uN, zN_uI, zN_uJ, zN_uA, zN_uB, zN_uR, zN_uN, zI_ne, zJ_ne, zA_ne, zB_ne, zR_ne, zN_ne, bi_T, bi_F, nz16, ↓reduceIte, not_true_eq_false, not_false_eq_true, Bool.false_eq_true, reduceCtorEq, h0, h18, h1, h26]
      rw [er]
    · rw [if_neg h3]
      have e : kp = pl.length := by omega
      refine ⟨?_, by rw [e]; exact h26, by rw [er]; exact h18, by rw [er]; exact h17⟩
      unfold fX11_back fX7_cutTo fX8_cutTo fX7_number fX8_played
      simp (disch := omega) only [l0, l1, l2, l3, l4, l5, l6, l7, l8, l9, l10, l11, l12, l16, l18, l19, l20, l21, l24, l96, l128, l100, l144, l200, l256, l288, l1536, l1728, l1800, bnd, nI_add, pk_mul, pI_sub, pI_m1, pT_le, pF_le, pT_lt, pF_lt, pT_eq, pF_eq, pF_m1, mF_eq, mT_eq, mT_lt, mF_le, lm1, rd_nI, wr_nI, cl_nI, pk_us, un_ne, pk_uLs, uL_ne, zI_uI, zI_uJ, zI_uA, zI_uB, zI_uR, zI_uN, zJ_uI, zJ_uJ, zJ_uA, zJ_uB, zJ_uR, zJ_uN, zA_uI, zA_uJ, zA_uA, zA_uB, zA_uR, zA_uN, zB_uI, zB_uJ, zB_uA, zB_uB, zB_uR, zB_uN, zR_uI, zR_uJ, zR_uA, zR_uB, zR_uR, zR_uN, zN_uI, zN_uJ, zN_uA, zN_uB, zN_uR, zN_uN, zI_ne, zJ_ne, zA_ne, zB_ne, zR_ne, zN_ne, bi_T, bi_F, nz16, ↓reduceIte, not_true_eq_false, not_false_eq_true, Bool.false_eq_true, reduceCtorEq, h0, h18, h1, h26]
      rw [er, e]
theorem m_backLoop {σ : St} {g : Gh} {pl : List Nat} {kr kp : Nat} (hg : okG g) (hpl : ∀ s, s ∈ pl → s < 128) (h78 : ∀ k, k < pl.length → zA σ 78 k = nI (pl.getD k 0)) (hk : ∀ k, k < kp → pl.getD k 0 / 16 < kr) (hkp : kp ≤ pl.length) (hl : pl.length ≤ 96) (hkr : kr ≤ 8) (h32 : zI σ 32 = nI kr) (h48 : zI σ 48 = nI kp) : fX12_back_P37 σ (nI 0) = some (nI (kr + kp), σ) := by
  have key := it_for (β := Unit) (body := fun (kb : (St × Int32) → Option (Int32 × St)) (t : St × Int32) => fX12_back_L37 (fun σ v1 => kb (σ, v1)) t.1 t.2) kp (by omega) (fun i _ => (σ, nI i)) (fun _ _ => True) (fun i _ z => z = some (nI (kr + kp), σ)) ?_ 0 () (Nat.zero_le _) trivial
  · exact key
  · intro i _ hi _ kb hkb
    show fX12_back_L37 _ σ (nI i) = _
    unfold fX12_back_L37
    by_cases hin : i = kp
    · simp (disch := omega) only [l0, l1, l2, l3, l4, l5, l6, l7, l8, l9, l10, l11, l12, l16, l18, l19, l20, l21, l24, l96, l128, l100, l144, l200, l256, l288, l1536, l1728, l1800, bnd, nI_add, pk_mul, pI_sub, pI_m1, pT_le, pF_le, pT_lt, pF_lt, pT_eq, pF_eq, pF_m1, mF_eq, mT_eq, mT_lt, mF_le, lm1, rd_nI, wr_nI, cl_nI, pk_us, un_ne, pk_uLs, uL_ne, zI_uI, zI_uJ, zI_uA, zI_uB, zI_uR, zI_uN, zJ_uI, zJ_uJ, zJ_uA, zJ_uB, zJ_uR, zJ_uN, zA_uI, zA_uJ, zA_uA, zA_uB, zA_uR, zA_uN, zB_uI, zB_uJ, zB_uA, zB_uB, zB_uR, zB_uN, zR_uI, zR_uJ, zR_uA, zR_uB, zR_uR, zR_uN, zN_uI, zN_uJ, zN_uA, zN_uB, zN_uR, zN_uN, zI_ne, zJ_ne, zA_ne, zB_ne, zR_ne, zN_ne, bi_T, bi_F, nz16, ↓reduceIte, not_true_eq_false, not_false_eq_true, Bool.false_eq_true, reduceCtorEq, h48, hin, h32]
    · have ha := h78 i (by omega)
      have hlt := hk i (by omega)
      have hs := hpl _ (getD_mem (l := pl) (k := i) (d := 0) (by omega))
      have nx := hkb () (by omega) trivial
      simp (disch := omega) only [l0, l1, l2, l3, l4, l5, l6, l7, l8, l9, l10, l11, l12, l16, l18, l19, l20, l21, l24, l96, l128, l100, l144, l200, l256, l288, l1536, l1728, l1800, bnd, nI_add, pk_mul, pI_sub, pI_m1, pT_le, pF_le, pT_lt, pF_lt, pT_eq, pF_eq, pF_m1, mF_eq, mT_eq, mT_lt, mF_le, lm1, rd_nI, wr_nI, cl_nI, pk_us, un_ne, pk_uLs, uL_ne, zI_uI, zI_uJ, zI_uA, zI_uB, zI_uR, zI_uN, zJ_uI, zJ_uJ, zJ_uA, zJ_uB, zJ_uR, zJ_uN, zA_uI, zA_uJ, zA_uA, zA_uB, zA_uR, zA_uN, zB_uI, zB_uJ, zB_uA, zB_uB, zB_uR, zB_uN, zR_uI, zR_uJ, zR_uA, zR_uB, zR_uR, zR_uN, zN_uI, zN_uJ, zN_uA, zN_uB, zN_uR, zN_uN, zI_ne, zJ_ne, zA_ne, zB_ne, zR_ne, zN_ne, bi_T, bi_F, nz16, ↓reduceIte, not_true_eq_false, not_false_eq_true, Bool.false_eq_true, reduceCtorEq, h48, ha, pk_div, h32]
      exact nx
def backM (τ : St) (kr kp : Nat) : St := uI (uI (uI τ 30 (nI 0)) 32 (nI kr)) 48 (nI kp)
theorem m_back {τ : St} {g : Gh} {pl : List Nat} {kr kp : Nat} (hg : okG g) (h32 : zI τ 32 = nI (gN g)) (h48 : zI τ 48 = nI pl.length) (h51 : zI τ 51 = nI kr) (h52 : zI τ 52 = nI kp) (hpl : ∀ s, s ∈ pl → s < 128) (h78 : ∀ k, k < pl.length → zA τ 78 k = nI (pl.getD k 0)) (hk : ∀ k, k < kp → pl.getD k 0 / 16 < kr) (hkr : kr ≤ gN g) (hkp : kp ≤ pl.length) (hl : pl.length ≤ 96) : fX12_back τ = some (nI (kr + kp), backM τ kr kp) := by
  have hN := hg.1
  have hloop := m_backLoop (σ := backM τ kr kp) hg hpl h78 hk hkp hl (by omega) rfl rfl
  unfold fX12_back
  have j1 := jmin (a := gN g) (b := kr) (by omega) (by omega)
  have j2 := jmin (a := pl.length) (b := kp) (by omega) (by omega)
  rw [Nat.min_eq_right hkr] at j1
  rw [Nat.min_eq_right hkp] at j2
  simp (disch := omega) only [l0, l1, l2, l3, l4, l5, l6, l7, l8, l9, l10, l11, l12, l16, l18, l19, l20, l21, l24, l96, l128, l100, l144, l200, l256, l288, l1536, l1728, l1800, bnd, nI_add, pk_mul, pI_sub, pI_m1, pT_le, pF_le, pT_lt, pF_lt, pT_eq, pF_eq, pF_m1, mF_eq, mT_eq, mT_lt, mF_le, lm1, rd_nI, wr_nI, cl_nI, pk_us, un_ne, pk_uLs, uL_ne, zI_uI, zI_uJ, zI_uA, zI_uB, zI_uR, zI_uN, zJ_uI, zJ_uJ, zJ_uA, zJ_uB, zJ_uR, zJ_uN, zA_uI, zA_uJ, zA_uA, zA_uB, zA_uR, zA_uN, zB_uI, zB_uJ, zB_uA, zB_uB, zB_uR, zB_uN, zR_uI, zR_uJ, zR_uA, zR_uB, zR_uR, zR_uN, zN_uI, zN_uJ, zN_uA, zN_uB, zN_uR, zN_uN, zI_ne, zJ_ne, zA_ne, zB_ne, zR_ne, zN_ne, bi_T, bi_F, nz16, ↓reduceIte, not_true_eq_false, not_false_eq_true, Bool.false_eq_true, reduceCtorEq, h32, h51, j1, h48, h52, j2]
  exact hloop
