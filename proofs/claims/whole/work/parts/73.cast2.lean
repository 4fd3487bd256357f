/-! bars, cast, could: the calls -/
theorem c_clash {σ : St} {h : Gp} (k : TI σ h) {p c : Nat} (hp : p < pN h) (hc : c ≤ 3) : ∃ f g, fX4_layClashes σ (nI p) (nI c) = some (uA (uA σ 52 f) 53 g) ∧ ∀ S, S < 1024 → ∀ a, a < 10 → nI S &&& g a = nI (S &&& (nr h p c a ||| (if (pBy h).testBit a = true then 1023 ^^^ pBy h else pBy h))) := by
  obtain ⟨f, e, hf⟩ := c_layNear k hp hc
  have h29 := k.2.2.2.2.2.1
  have hby := k.2.2.2.2.1
  have key := it_for (β := Nat → Int32) (body := fun (kb : (St × Int32) → Option St) (x : St × Int32) => fX4_layClashes_L8 (fun σ v3 => kb (σ, v3)) x.1 x.2) 10 (by omega) (fun i g => (uA (uA σ 52 f) 53 g, nI i)) (fun i g => ∀ S, S < 1024 → ∀ a, a < i → nI S &&& g a = nI (S &&& (nr h p c a ||| (if (pBy h).testBit a = true then 1023 ^^^ pBy h else pBy h)))) (fun i b z => ∃ g, z = some (uA (uA σ 52 f) 53 g) ∧ ∀ S, S < 1024 → ∀ a, a < 10 → nI S &&& g a = nI (S &&& (nr h p c a ||| (if (pBy h).testBit a = true then 1023 ^^^ pBy h else pBy h)))) ?_ 0 (zA (uA σ 52 f) 53) (Nat.zero_le _) (fun S _ a ha => absurd ha (Nat.not_lt_zero _))
  · rw [uA_self] at key
    obtain ⟨g, e2, hg⟩ := key
    refine ⟨f, g, ?_, hg⟩
    unfold fX4_layClashes
    rw [e, bnd]
    exact e2
  · intro i g hi hI kb hkb
    show ∃ g', fX4_layClashes_L8 _ (uA (uA σ 52 f) 53 g) (nI i) = _ ∧ _
    unfold fX4_layClashes_L8
    by_cases hi10 : i = 10
    · refine ⟨g, ?_, fun S hS a ha => hI S hS a (by omega)⟩
      simp (disch := omega) only [l0, l1, l2, l3, l4, l5, l6, l7, l8, l9, l10, l11, l12, l16, l18, l19, l20, l21, l24, l96, l128, l100, l144, l200, l256, l288, l1536, l1728, l1800, bnd, nI_add, pk_mul, pI_sub, pI_m1, pT_le, pF_le, pT_lt, pF_lt, pT_eq, pF_eq, pF_m1, mF_eq, mT_eq, mT_lt, mF_le, lm1, rd_nI, wr_nI, cl_nI, pk_us, un_ne, pk_uLs, uL_ne, zI_uI, zI_uJ, zI_uA, zI_uB, zI_uR, zI_uN, zJ_uI, zJ_uJ, zJ_uA, zJ_uB, zJ_uR, zJ_uN, zA_uI, zA_uJ, zA_uA, zA_uB, zA_uR, zA_uN, zB_uI, zB_uJ, zB_uA, zB_uB, zB_uR, zB_uN, zR_uI, zR_uJ, zR_uA, zR_uB, zR_uR, zR_uN, zN_uI, zN_uJ, zN_uA, zN_uB, zN_uR, zN_uN, zI_ne, zJ_ne, zA_ne, zB_ne, zR_ne, zN_ne, bi_T, bi_F, nz16, ↓reduceIte, not_true_eq_false, not_false_eq_true, Bool.false_eq_true, reduceCtorEq, hi10]
    · have hfi := hf i (by omega)
      have hin := c4_isIn (t := pBy h) (r := i) (by omega) (by omega)
      cases hb : (pBy h).testBit i with
      | true =>
        rw [hb] at hin
        have nx := hkb (upd g i (nI (nr h p c i) ||| (nI (pBy h) ^^^ mI))) (by omega) (fun S hS a ha => by
          by_cases e : a = i
          · rw [e, pk_us, cla_I hS hby, if_pos hb]
          · rw [pk_un e]; exact hI S hS a (by omega))
        simp (disch := omega) only [l0, l1, l2, l3, l4, l5, l6, l7, l8, l9, l10, l11, l12, l16, l18, l19, l20, l21, l24, l96, l128, l100, l144, l200, l256, l288, l1536, l1728, l1800, bnd, nI_add, pk_mul, pI_sub, pI_m1, pT_le, pF_le, pT_lt, pF_lt, pT_eq, pF_eq, pF_m1, mF_eq, mT_eq, mT_lt, mF_le, lm1, rd_nI, wr_nI, cl_nI, pk_us, un_ne, pk_uLs, uL_ne, zI_uI, zI_uJ, zI_uA, zI_uB, zI_uR, zI_uN, zJ_uI, zJ_uJ, zJ_uA, zJ_uB, zJ_uR, zJ_uN, zA_uI, zA_uJ, zA_uA, zA_uB, zA_uR, zA_uN, zB_uI, zB_uJ, zB_uA, zB_uB, zB_uR, zB_uN, zR_uI, zR_uJ, zR_uA, zR_uB, zR_uR, zR_uN, zN_uI, zN_uJ, zN_uA, zN_uB, zN_uR, zN_uN, zI_ne, zJ_ne, zA_ne, zB_ne, zR_ne, zN_ne, bi_T, bi_F, nz16, ↓reduceIte, not_true_eq_false, not_false_eq_true, Bool.false_eq_true, reduceCtorEq, h29, hfi, hin, uA_uA]
        exact nx
      | false =>
        rw [hb] at hin
        have nx := hkb (upd g i (nI (nr h p c i) ||| nI (pBy h))) (by omega) (fun S hS a ha => by
          by_cases e : a = i
          · rw [e, pk_us, fa_or, fa_and, if_neg (by rw [hb]; decide)]
          · rw [pk_un e]; exact hI S hS a (by omega))
        simp (disch := omega) only [l0, l1, l2, l3, l4, l5, l6, l7, l8, l9, l10, l11, l12, l16, l18, l19, l20, l21, l24, l96, l128, l100, l144, l200, l256, l288, l1536, l1728, l1800, bnd, nI_add, pk_mul, pI_sub, pI_m1, pT_le, pF_le, pT_lt, pF_lt, pT_eq, pF_eq, pF_m1, mF_eq, mT_eq, mT_lt, mF_le, lm1, rd_nI, wr_nI, cl_nI, pk_us, un_ne, pk_uLs, uL_ne, zI_uI, zI_uJ, zI_uA, zI_uB, zI_uR, zI_uN, zJ_uI, zJ_uJ, zJ_uA, zJ_uB, zJ_uR, zJ_uN, zA_uI, zA_uJ, zA_uA, zA_uB, zA_uR, zA_uN, zB_uI, zB_uJ, zB_uA, zB_uB, zB_uR, zB_uN, zR_uI, zR_uJ, zR_uA, zR_uB, zR_uR, zR_uN, zN_uI, zN_uJ, zN_uA, zN_uB, zN_uR, zN_uN, zI_ne, zJ_ne, zA_ne, zB_ne, zR_ne, zN_ne, bi_T, bi_F, nz16, ↓reduceIte, not_true_eq_false, not_false_eq_true, Bool.false_eq_true, reduceCtorEq, h29, hfi, hin, uA_uA]
        exact nx
theorem cla_bit {h : Gp} {p c S : Nat} (hS : S < 1024) (hby : pBy h < 1024) : ∀ a, a < 10 → S &&& (nr h p c a ||| (if (pBy h).testBit a = true then 1023 ^^^ pBy h else pBy h)) < 1024 ∧ ∀ q, q < a → (S &&& (nr h p c a ||| (if (pBy h).testBit a = true then 1023 ^^^ pBy h else pBy h))).testBit q = (S.testBit q && KC h p c a q) := by
  intro a ha
  refine ⟨Nat.lt_of_le_of_lt Nat.and_le_left hS, fun q hq => ?_⟩
  have h1023 : ∀ q, q < 10 → (1023 : Nat).testBit q = true := by decide
  unfold KC
  rw [Nat.testBit_and, Nat.testBit_or, nr_bit]
  congr 1
  rw [Bool.or_comm]
  congr 1
  cases h1 : (pBy h).testBit a with
  | true =>
    rw [if_pos rfl, Nat.testBit_xor, h1023 q (by omega)]
    cases (pBy h).testBit q <;> rfl
  | false =>
    rw [if_neg Bool.false_ne_true]
    cases (pBy h).testBit q <;> rfl
/-- how few coats -/
def ndF (S : Nat) (K : Nat → Nat → Bool) (m : Nat) : Option (Nat → Nat) := d2 S m K 10 (fun _ => 0)
/-- the least number of coats is there -/
theorem nd_ex {S : Nat} {K : Nat → Nat → Bool} : ∃ m, m ≤ 10 ∧ (ndF S K m).isSome = true ∧ ∀ j, j < m → (ndF S K j).isSome = false := by
  obtain ⟨m, h1, h2⟩ := pk_least (fun m => (ndF S K m).isSome = true) ⟨10, d2_10 (Nat.le_refl _) _⟩
  refine ⟨m, ?_, h1, fun j hj => ?_⟩
  · by_cases hm : m ≤ 10
    · exact hm
    · exact absurd (d2_10 (Nat.le_refl _) _) (h2 10 (by omega))
  · cases hx : (ndF S K j).isSome with
    | false => rfl
    | true => exact absurd hx (h2 j hj)
theorem c_fewest {σ : St} {h : Gp} {p c S m : Nat} (hS : S < 1024) (hby : pBy h < 1024) (hm : m ≤ 10) (h1 : (ndF S (KC h p c) m).isSome = true) (h2 : ∀ j, j < m → (ndF S (KC h p c) j).isSome = false) (h53 : ∀ S, S < 1024 → ∀ a, a < 10 → nI S &&& zA σ 53 a = nI (S &&& (nr h p c a ||| (if (pBy h).testBit a = true then 1023 ^^^ pBy h else pBy h)))) : ∃ z, fX4_fewestCoats σ (nI S) = some (nI m, uA σ 54 z) ∧ fits2 S z (ndF S (KC h p c) m) := by
  unfold fX4_fewestCoats
  have key := it_for (β := Nat → Int32) (body := fun (kb : (St × Int32) → Option (Int32 × St)) (x : St × Int32) => fX4_fewestCoats_L2 (nI S) (fun σ v2 => kb (σ, v2)) x.1 x.2) m (by omega) (fun i b => (uA σ 54 b, nI i)) (fun _ _ => True) (fun i b y => ∃ z, y = some (nI m, uA σ 54 z) ∧ fits2 S z (ndF S (KC h p c) m)) ?_ 0 (zA σ 54) (Nat.zero_le _) trivial
  · rw [uA_self] at key
    exact key
  · intro i b hi _ kb hkb
    show ∃ z, fX4_fewestCoats_L2 _ _ (uA σ 54 b) (nI i) = _ ∧ _
    unfold fX4_fewestCoats_L2
    obtain ⟨z, z1, z2, z3⟩ := c_dress (K := KC h p c) (m := i) hS (by omega) (fun a => nr h p c a ||| (if (pBy h).testBit a = true then 1023 ^^^ pBy h else pBy h)) (cla_bit hS hby) 10 (Nat.le_refl _) 12 (by omega) (uA σ 54 b) 0 (fun _ => 0) (by omega) (fun a ha _ => h53 S hS a ha) (fun q hq => absurd hq (by omega))
    have e12 : d1 S i (KC h p c) 10 0 (fun _ => 0) = ndF S (KC h p c) i := d12 10 (Nat.le_refl _) 0 _ (Nat.zero_le _) (fun q hq => absurd hq (by omega))
    rw [e12, uA_uA] at z1
    rw [e12] at z3
    rw [show 10 - 10 = 0 from rfl] at z1
    by_cases him : i = m
    · subst him
      rw [h1] at z1
      refine ⟨z, ?_, z3⟩
      simp (disch := omega) only [l0, l1, l2, l3, l4, l5, l6, l7, l8, l9, l10, l11, l12, l16, l18, l19, l20, l21, l24, l96, l128, l100, l144, l200, l256, l288, l1536, l1728, l1800, bnd, nI_add, pk_mul, pI_sub, pI_m1, pT_le, pF_le, pT_lt, pF_lt, pT_eq, pF_eq, pF_m1, mF_eq, mT_eq, mT_lt, mF_le, lm1, rd_nI, wr_nI, cl_nI, pk_us, un_ne, pk_uLs, uL_ne, zI_uI, zI_uJ, zI_uA, zI_uB, zI_uR, zI_uN, zJ_uI, zJ_uJ, zJ_uA, zJ_uB, zJ_uR, zJ_uN, zA_uI, zA_uJ, zA_uA, zA_uB, zA_uR, zA_uN, zB_uI, zB_uJ, zB_uA, zB_uB, zB_uR, zB_uN, zR_uI, zR_uJ, zR_uA, zR_uB, zR_uR, zR_uN, zN_uI, zN_uJ, zN_uA, zN_uB, zN_uR, zN_uN, zI_ne, zJ_ne, zA_ne, zB_ne, zR_ne, zN_ne, bi_T, bi_F, nz16, ↓reduceIte, not_true_eq_false, not_false_eq_true, Bool.false_eq_true, reduceCtorEq, z1]
    · rw [h2 i (by omega)] at z1
      have nx := hkb z (by omega) trivial
      simp (disch := omega) only [l0, l1, l2, l3, l4, l5, l6, l7, l8, l9, l10, l11, l12, l16, l18, l19, l20, l21, l24, l96, l128, l100, l144, l200, l256, l288, l1536, l1728, l1800, bnd, nI_add, pk_mul, pI_sub, pI_m1, pT_le, pF_le, pT_lt, pF_lt, pT_eq, pF_eq, pF_m1, mF_eq, mT_eq, mT_lt, mF_le, lm1, rd_nI, wr_nI, cl_nI, pk_us, un_ne, pk_uLs, uL_ne, zI_uI, zI_uJ, zI_uA, zI_uB, zI_uR, zI_uN, zJ_uI, zJ_uJ, zJ_uA, zJ_uB, zJ_uR, zJ_uN, zA_uI, zA_uJ, zA_uA, zA_uB, zA_uR, zA_uN, zB_uI, zB_uJ, zB_uA, zB_uB, zB_uR, zB_uN, zR_uI, zR_uJ, zR_uA, zR_uB, zR_uR, zR_uN, zN_uI, zN_uJ, zN_uA, zN_uB, zN_uR, zN_uN, zI_ne, zJ_ne, zA_ne, zB_ne, zR_ne, zN_ne, bi_T, bi_F, nz16, ↓reduceIte, not_true_eq_false, not_false_eq_true, Bool.false_eq_true, reduceCtorEq, z1]
      exact nx
theorem m_need {σ : St} {h : Gp} (k : TI σ h) {p c S m : Nat} (hp : p < pN h) (hc : c ≤ 3) (hS : S < 1024) (hm : m ≤ 10) (h1 : (ndF S (KC h p c) m).isSome = true) (h2 : ∀ j, j < m → (ndF S (KC h p c) j).isSome = false) : ∃ z, fX12_need σ (nI p) (nI S) (nI c) = some (nI m, uA σ 82 z) ∧ fits2 S z (ndF S (KC h p c) m) := by
  unfold fX12_need
  have key := it_for (β := Nat → Int32) (body := fun (kb : (St × Int32) → Option (Int32 × St)) (x : St × Int32) => fX12_need_L3 (nI p) (nI S) (nI c) (fun σ v4 => kb (σ, v4)) x.1 x.2) m (by omega) (fun i b => (uA σ 82 b, nI i)) (fun _ _ => True) (fun i b y => ∃ z, y = some (nI m, uA σ 82 z) ∧ fits2 S z (ndF S (KC h p c) m)) ?_ 0 (zA σ 82) (Nat.zero_le _) trivial
  · rw [uA_self] at key
    exact key
  · intro i b hi _ kb hkb
    show ∃ z, fX12_need_L3 _ _ _ _ (uA σ 82 b) (nI i) = _ ∧ _
    unfold fX12_need_L3
    obtain ⟨z, z1, z2, z3⟩ := m_dress (S := S) (m := i) (p := p) (c := c) hS (by omega) hp hc 10 (Nat.le_refl _) 12 (by omega) (uA σ 82 b) (fun _ => 0) (k.se (SE.uA (by decide))) (fun q hq => absurd hq (by omega))
    rw [show 10 - 10 = 0 from rfl, uA_uA] at z1
    have e0 : d2 S i (KC h p c) 10 (fun _ => 0) = ndF S (KC h p c) i := rfl
    rw [e0] at z1 z3
    by_cases him : i = m
    · subst him
      rw [h1] at z1
      refine ⟨z, ?_, z3⟩
      simp (disch := omega) only [l0, l1, l2, l3, l4, l5, l6, l7, l8, l9, l10, l11, l12, l16, l18, l19, l20, l21, l24, l96, l128, l100, l144, l200, l256, l288, l1536, l1728, l1800, bnd, nI_add, pk_mul, pI_sub, pI_m1, pT_le, pF_le, pT_lt, pF_lt, pT_eq, pF_eq, pF_m1, mF_eq, mT_eq, mT_lt, mF_le, lm1, rd_nI, wr_nI, cl_nI, pk_us, un_ne, pk_uLs, uL_ne, zI_uI, zI_uJ, zI_uA, zI_uB, zI_uR, zI_uN, zJ_uI, zJ_uJ, zJ_uA, zJ_uB, zJ_uR, zJ_uN, zA_uI, zA_uJ, zA_uA, zA_uB, zA_uR, zA_uN, zB_uI, zB_uJ, zB_uA, zB_uB, zB_uR, zB_uN, zR_uI, zR_uJ, zR_uA, zR_uB, zR_uR, zR_uN, zN_uI, zN_uJ, zN_uA, zN_uB, zN_uR, zN_uN, zI_ne, zJ_ne, zA_ne, zB_ne, zR_ne, zN_ne, bi_T, bi_F, nz16, ↓reduceIte, not_true_eq_false, not_false_eq_true, Bool.false_eq_true, reduceCtorEq, z1]
    · rw [h2 i (by omega)] at z1
      have nx := hkb z (by omega) trivial
      simp (disch := omega) only [l0, l1, l2, l3, l4, l5, l6, l7, l8, l9, l10, l11, l12, l16, l18, l19, l20, l21, l24, l96, l128, l100, l144, l200, l256, l288, l1536, l1728, l1800, bnd, nI_add, pk_mul, pI_sub, pI_m1, pT_le, pF_le, pT_lt, pF_lt, pT_eq, pF_eq, pF_m1, mF_eq, mT_eq, mT_lt, mF_le, lm1, rd_nI, wr_nI, cl_nI, pk_us, un_ne, pk_uLs, uL_ne, zI_uI, zI_uJ, zI_uA, zI_uB, zI_uR, zI_uN, zJ_uI, zJ_uJ, zJ_uA, zJ_uB, zJ_uR, zJ_uN, zA_uI, zA_uJ, zA_uA, zA_uB, zA_uR, zA_uN, zB_uI, zB_uJ, zB_uA, zB_uB, zB_uR, zB_uN, zR_uI, zR_uJ, zR_uA, zR_uB, zR_uR, zR_uN, zN_uI, zN_uJ, zN_uA, zN_uB, zN_uR, zN_uN, zI_ne, zJ_ne, zA_ne, zB_ne, zR_ne, zN_ne, bi_T, bi_F, nz16, ↓reduceIte, not_true_eq_false, not_false_eq_true, Bool.false_eq_true, reduceCtorEq, z1]
      exact nx
theorem part2 {σ : St} {h : Gp} (k : TI σ h) {p : Nat} (hp : p < pN h) (x : Int32) : (∃ a, a < 10 ∧ (po h p).testBit a = true ∧ x = nI a ∧ ∀ τ, SE σ τ → fX4_hasPart τ (nI p) x = some true ∧ fX12_isPart τ (nI p) x = some true) ∨ ∀ τ, SE σ τ → fX4_hasPart τ (nI p) x = some false ∧ fX12_isPart τ (nI p) x = some false := by
  have h4 := k.1
  have hpl : ∀ τ, SE σ τ → fX12_isPlot τ (nI p) = some true := by
    intro τ se
    have h33 := (k.se se).2.2.1
    unfold fX12_isPlot
    simp (disch := omega) only [l0, l1, l2, l3, l4, l5, l6, l7, l8, l9, l10, l11, l12, l16, l18, l19, l20, l21, l24, l96, l128, l100, l144, l200, l256, l288, l1536, l1728, l1800, bnd, nI_add, pk_mul, pI_sub, pI_m1, pT_le, pF_le, pT_lt, pF_lt, pT_eq, pF_eq, pF_m1, mF_eq, mT_eq, mT_lt, mF_le, lm1, rd_nI, wr_nI, cl_nI, pk_us, un_ne, pk_uLs, uL_ne, zI_uI, zI_uJ, zI_uA, zI_uB, zI_uR, zI_uN, zJ_uI, zJ_uJ, zJ_uA, zJ_uB, zJ_uR, zJ_uN, zA_uI, zA_uJ, zA_uA, zA_uB, zA_uR, zA_uN, zB_uI, zB_uJ, zB_uA, zB_uB, zB_uR, zB_uN, zR_uI, zR_uJ, zR_uA, zR_uB, zR_uR, zR_uN, zN_uI, zN_uJ, zN_uA, zN_uB, zN_uR, zN_uN, zI_ne, zJ_ne, zA_ne, zB_ne, zR_ne, zN_ne, bi_T, bi_F, nz16, ↓reduceIte, not_true_eq_false, not_false_eq_true, Bool.false_eq_true, reduceCtorEq, h33]
  rcases i32_of x with hn | ⟨a, ha, rfl⟩
  · have hn' : (x < nI 0) = True := eq_true hn
    refine Or.inr (fun τ se => ⟨?_, ?_⟩)
    · unfold fX4_hasPart
      simp (disch := omega) only [l0, l1, l2, l3, l4, l5, l6, l7, l8, l9, l10, l11, l12, l16, l18, l19, l20, l21, l24, l96, l128, l100, l144, l200, l256, l288, l1536, l1728, l1800, bnd, nI_add, pk_mul, pI_sub, pI_m1, pT_le, pF_le, pT_lt, pF_lt, pT_eq, pF_eq, pF_m1, mF_eq, mT_eq, mT_lt, mF_le, lm1, rd_nI, wr_nI, cl_nI, pk_us, un_ne, pk_uLs, uL_ne, zI_uI, zI_uJ, zI_uA, zI_uB, zI_uR, zI_uN, zJ_uI, zJ_uJ, zJ_uA, zJ_uB, zJ_uR, zJ_uN, zA_uI, zA_uJ, zA_uA, zA_uB, zA_uR, zA_uN, zB_uI, zB_uJ, zB_uA, zB_uB, zB_uR, zB_uN, zR_uI, zR_uJ, zR_uA, zR_uB, zR_uR, zR_uN, zN_uI, zN_uJ, zN_uA, zN_uB, zN_uR, zN_uN, zI_ne, zJ_ne, zA_ne, zB_ne, zR_ne, zN_ne, bi_T, bi_F, nz16, ↓reduceIte, not_true_eq_false, not_false_eq_true, Bool.false_eq_true, reduceCtorEq, hn']
    · unfold fX12_isPart
      simp (disch := omega) only [l0, l1, l2, l3, l4, l5, l6, l7, l8, l9, l10, l11, l12, l16, l18, l19, l20, l21, l24, l96, l128, l100, l144, l200, l256, l288, l1536, l1728, l1800, bnd, nI_add, pk_mul, pI_sub, pI_m1, pT_le, pF_le, pT_lt, pF_lt, pT_eq, pF_eq, pF_m1, mF_eq, mT_eq, mT_lt, mF_le, lm1, rd_nI, wr_nI, cl_nI, pk_us, un_ne, pk_uLs, uL_ne, zI_uI, zI_uJ, zI_uA, zI_uB, zI_uR, zI_uN, zJ_uI, zJ_uJ, zJ_uA, zJ_uB, zJ_uR, zJ_uN, zA_uI, zA_uJ, zA_uA, zA_uB, zA_uR, zA_uN, zB_uI, zB_uJ, zB_uA, zB_uB, zB_uR, zB_uN, zR_uI, zR_uJ, zR_uA, zR_uB, zR_uR, zR_uN, zN_uI, zN_uJ, zN_uA, zN_uB, zN_uR, zN_uN, zI_ne, zJ_ne, zA_ne, zB_ne, zR_ne, zN_ne, bi_T, bi_F, nz16, ↓reduceIte, not_true_eq_false, not_false_eq_true, Bool.false_eq_true, reduceCtorEq, hpl τ se, m_isInN hn]
  · by_cases h10 : a < 10
    · have hin := m_isIn (a := a) (b := 0) (c := 9) (by omega) (by omega) (by omega)
      rw [decide_eq_true ⟨by omega, by omega⟩] at hin
      have hlt := (c4_partsOf k hp).2.2
      have x1 := c4_isIn (t := po h p) (r := a) (by omega) (by omega)
      have x2 := m_has (t := po h p) (r := a) (by omega) (by omega)
      cases hb : (po h p).testBit a with
      | true =>
        rw [hb] at x1 x2
        refine Or.inl ⟨a, h10, hb, rfl, fun τ se => ⟨?_, ?_⟩⟩
        · unfold fX4_hasPart
          simp (disch := omega) only [l0, l1, l2, l3, l4, l5, l6, l7, l8, l9, l10, l11, l12, l16, l18, l19, l20, l21, l24, l96, l128, l100, l144, l200, l256, l288, l1536, l1728, l1800, bnd, nI_add, pk_mul, pI_sub, pI_m1, pT_le, pF_le, pT_lt, pF_lt, pT_eq, pF_eq, pF_m1, mF_eq, mT_eq, mT_lt, mF_le, lm1, rd_nI, wr_nI, cl_nI, pk_us, un_ne, pk_uLs, uL_ne, zI_uI, zI_uJ, zI_uA, zI_uB, zI_uR, zI_uN, zJ_uI, zJ_uJ, zJ_uA, zJ_uB, zJ_uR, zJ_uN, zA_uI, zA_uJ, zA_uA, zA_uB, zA_uR, zA_uN, zB_uI, zB_uJ, zB_uA, zB_uB, zB_uR, zB_uN, zR_uI, zR_uJ, zR_uA, zR_uB, zR_uR, zR_uN, zN_uI, zN_uJ, zN_uA, zN_uB, zN_uR, zN_uN, zI_ne, zJ_ne, zA_ne, zB_ne, zR_ne, zN_ne, bi_T, bi_F, nz16, ↓reduceIte, not_true_eq_false, not_false_eq_true, Bool.false_eq_true, reduceCtorEq, (c4_partsOf (k.se se) hp).1, x1]
        · unfold fX12_isPart
          simp (disch := omega) only [l0, l1, l2, l3, l4, l5, l6, l7, l8, l9, l10, l11, l12, l16, l18, l19, l20, l21, l24, l96, l128, l100, l144, l200, l256, l288, l1536, l1728, l1800, bnd, nI_add, pk_mul, pI_sub, pI_m1, pT_le, pF_le, pT_lt, pF_lt, pT_eq, pF_eq, pF_m1, mF_eq, mT_eq, mT_lt, mF_le, lm1, rd_nI, wr_nI, cl_nI, pk_us, un_ne, pk_uLs, uL_ne, zI_uI, zI_uJ, zI_uA, zI_uB, zI_uR, zI_uN, zJ_uI, zJ_uJ, zJ_uA, zJ_uB, zJ_uR, zJ_uN, zA_uI, zA_uJ, zA_uA, zA_uB, zA_uR, zA_uN, zB_uI, zB_uJ, zB_uA, zB_uB, zB_uR, zB_uN, zR_uI, zR_uJ, zR_uA, zR_uB, zR_uR, zR_uN, zN_uI, zN_uJ, zN_uA, zN_uB, zN_uR, zN_uN, zI_ne, zJ_ne, zA_ne, zB_ne, zR_ne, zN_ne, bi_T, bi_F, nz16, ↓reduceIte, not_true_eq_false, not_false_eq_true, Bool.false_eq_true, reduceCtorEq, hpl τ se, hin, (c4_partsOf (k.se se) hp).2.1, x2]
      | false =>
        rw [hb] at x1 x2
        refine Or.inr (fun τ se => ⟨?_, ?_⟩)
        · unfold fX4_hasPart
          simp (disch := omega) only [l0, l1, l2, l3, l4, l5, l6, l7, l8, l9, l10, l11, l12, l16, l18, l19, l20, l21, l24, l96, l128, l100, l144, l200, l256, l288, l1536, l1728, l1800, bnd, nI_add, pk_mul, pI_sub, pI_m1, pT_le, pF_le, pT_lt, pF_lt, pT_eq, pF_eq, pF_m1, mF_eq, mT_eq, mT_lt, mF_le, lm1, rd_nI, wr_nI, cl_nI, pk_us, un_ne, pk_uLs, uL_ne, zI_uI, zI_uJ, zI_uA, zI_uB, zI_uR, zI_uN, zJ_uI, zJ_uJ, zJ_uA, zJ_uB, zJ_uR, zJ_uN, zA_uI, zA_uJ, zA_uA, zA_uB, zA_uR, zA_uN, zB_uI, zB_uJ, zB_uA, zB_uB, zB_uR, zB_uN, zR_uI, zR_uJ, zR_uA, zR_uB, zR_uR, zR_uN, zN_uI, zN_uJ, zN_uA, zN_uB, zN_uR, zN_uN, zI_ne, zJ_ne, zA_ne, zB_ne, zR_ne, zN_ne, bi_T, bi_F, nz16, ↓reduceIte, not_true_eq_false, not_false_eq_true, Bool.false_eq_true, reduceCtorEq, (c4_partsOf (k.se se) hp).1, x1]
        · unfold fX12_isPart
          simp (disch := omega) only [l0, l1, l2, l3, l4, l5, l6, l7, l8, l9, l10, l11, l12, l16, l18, l19, l20, l21, l24, l96, l128, l100, l144, l200, l256, l288, l1536, l1728, l1800, bnd, nI_add, pk_mul, pI_sub, pI_m1, pT_le, pF_le, pT_lt, pF_lt, pT_eq, pF_eq, pF_m1, mF_eq, mT_eq, mT_lt, mF_le, lm1, rd_nI, wr_nI, cl_nI, pk_us, un_ne, pk_uLs, uL_ne, zI_uI, zI_uJ, zI_uA, zI_uB, zI_uR, zI_uN, zJ_uI, zJ_uJ, zJ_uA, zJ_uB, zJ_uR, zJ_uN, zA_uI, zA_uJ, zA_uA, zA_uB, zA_uR, zA_uN, zB_uI, zB_uJ, zB_uA, zB_uB, zB_uR, zB_uN, zR_uI, zR_uJ, zR_uA, zR_uB, zR_uR, zR_uN, zN_uI, zN_uJ, zN_uA, zN_uB, zN_uR, zN_uN, zI_ne, zJ_ne, zA_ne, zB_ne, zR_ne, zN_ne, bi_T, bi_F, nz16, ↓reduceIte, not_true_eq_false, not_false_eq_true, Bool.false_eq_true, reduceCtorEq, hpl τ se, hin, (c4_partsOf (k.se se) hp).2.1, x2]
    · have hin := m_isIn (a := a) (b := 0) (c := 9) (by omega) (by omega) (by omega)
      rw [decide_eq_false (fun y => by omega)] at hin
      refine Or.inr (fun τ se => ⟨?_, ?_⟩)
      · unfold fX4_hasPart
        simp (disch := omega) only [l0, l1, l2, l3, l4, l5, l6, l7, l8, l9, l10, l11, l12, l16, l18, l19, l20, l21, l24, l96, l128, l100, l144, l200, l256, l288, l1536, l1728, l1800, bnd, nI_add, pk_mul, pI_sub, pI_m1, pT_le, pF_le, pT_lt, pF_lt, pT_eq, pF_eq, pF_m1, mF_eq, mT_eq, mT_lt, mF_le, lm1, rd_nI, wr_nI, cl_nI, pk_us, un_ne, pk_uLs, uL_ne, zI_uI, zI_uJ, zI_uA, zI_uB, zI_uR, zI_uN, zJ_uI, zJ_uJ, zJ_uA, zJ_uB, zJ_uR, zJ_uN, zA_uI, zA_uJ, zA_uA, zA_uB, zA_uR, zA_uN, zB_uI, zB_uJ, zB_uA, zB_uB, zB_uR, zB_uN, zR_uI, zR_uJ, zR_uA, zR_uB, zR_uR, zR_uN, zN_uI, zN_uJ, zN_uA, zN_uB, zN_uR, zN_uN, zI_ne, zJ_ne, zA_ne, zB_ne, zR_ne, zN_ne, bi_T, bi_F, nz16, ↓reduceIte, not_true_eq_false, not_false_eq_true, Bool.false_eq_true, reduceCtorEq]
      · unfold fX12_isPart
        simp (disch := omega) only [l0, l1, l2, l3, l4, l5, l6, l7, l8, l9, l10, l11, l12, l16, l18, l19, l20, l21, l24, l96, l128, l100, l144, l200, l256, l288, l1536, l1728, l1800, bnd, nI_add, pk_mul, pI_sub, pI_m1, pT_le, pF_le, pT_lt, pF_lt, pT_eq, pF_eq, pF_m1, mF_eq, mT_eq, mT_lt, mF_le, lm1, rd_nI, wr_nI, cl_nI, pk_us, un_ne, pk_uLs, uL_ne, zI_uI, zI_uJ, zI_uA, zI_uB, zI_uR, zI_uN, zJ_uI, zJ_uJ, zJ_uA, zJ_uB, zJ_uR, zJ_uN, zA_uI, zA_uJ, zA_uA, zA_uB, zA_uR, zA_uN, zB_uI, zB_uJ, zB_uA, zB_uB, zB_uR, zB_uN, zR_uI, zR_uJ, zR_uA, zR_uB, zR_uR, zR_uN, zN_uI, zN_uJ, zN_uA, zN_uB, zN_uR, zN_uN, zI_ne, zJ_ne, zA_ne, zB_ne, zR_ne, zN_ne, bi_T, bi_F, nz16, ↓reduceIte, not_true_eq_false, not_false_eq_true, Bool.false_eq_true, reduceCtorEq, hpl τ se, hin]
theorem chg2 (x : Int32) : (∃ c, c ≤ 3 ∧ x = nI c ∧ fX4_isChange x = some true ∧ fX12_isIn x (nI 0) (nI 3) = some true) ∨ (fX4_isChange x = some false ∧ fX12_isIn x (nI 0) (nI 3) = some false) := by
  rcases i32_of x with hn | ⟨c, hc, rfl⟩
  · have hn' : (x < nI 0) = True := eq_true hn
    refine Or.inr ⟨?_, m_isInN hn⟩
    unfold fX4_isChange
    simp (disch := omega) only [l0, l1, l2, l3, l4, l5, l6, l7, l8, l9, l10, l11, l12, l16, l18, l19, l20, l21, l24, l96, l128, l100, l144, l200, l256, l288, l1536, l1728, l1800, bnd, nI_add, pk_mul, pI_sub, pI_m1, pT_le, pF_le, pT_lt, pF_lt, pT_eq, pF_eq, pF_m1, mF_eq, mT_eq, mT_lt, mF_le, lm1, rd_nI, wr_nI, cl_nI, pk_us, un_ne, pk_uLs, uL_ne, zI_uI, zI_uJ, zI_uA, zI_uB, zI_uR, zI_uN, zJ_uI, zJ_uJ, zJ_uA, zJ_uB, zJ_uR, zJ_uN, zA_uI, zA_uJ, zA_uA, zA_uB, zA_uR, zA_uN, zB_uI, zB_uJ, zB_uA, zB_uB, zB_uR, zB_uN, zR_uI, zR_uJ, zR_uA, zR_uB, zR_uR, zR_uN, zN_uI, zN_uJ, zN_uA, zN_uB, zN_uR, zN_uN, zI_ne, zJ_ne, zA_ne, zB_ne, zR_ne, zN_ne, bi_T, bi_F, nz16, ↓reduceIte, not_true_eq_false, not_false_eq_true, Bool.false_eq_true, reduceCtorEq, hn']
  · have hin := m_isIn (a := c) (b := 0) (c := 3) (by omega) (by omega) (by omega)
    by_cases h3 : c ≤ 3
    · rw [decide_eq_true ⟨by omega, h3⟩] at hin
      refine Or.inl ⟨c, h3, rfl, ?_, hin⟩
      unfold fX4_isChange
      simp (disch := omega) only [l0, l1, l2, l3, l4, l5, l6, l7, l8, l9, l10, l11, l12, l16, l18, l19, l20, l21, l24, l96, l128, l100, l144, l200, l256, l288, l1536, l1728, l1800, bnd, nI_add, pk_mul, pI_sub, pI_m1, pT_le, pF_le, pT_lt, pF_lt, pT_eq, pF_eq, pF_m1, mF_eq, mT_eq, mT_lt, mF_le, lm1, rd_nI, wr_nI, cl_nI, pk_us, un_ne, pk_uLs, uL_ne, zI_uI, zI_uJ, zI_uA, zI_uB, zI_uR, zI_uN, zJ_uI, zJ_uJ, zJ_uA, zJ_uB, zJ_uR, zJ_uN, zA_uI, zA_uJ, zA_uA, zA_uB, zA_uR, zA_uN, zB_uI, zB_uJ, zB_uA, zB_uB, zB_uR, zB_uN, zR_uI, zR_uJ, zR_uA, zR_uB, zR_uR, zR_uN, zN_uI, zN_uJ, zN_uA, zN_uB, zN_uR, zN_uN, zI_ne, zJ_ne, zA_ne, zB_ne, zR_ne, zN_ne, bi_T, bi_F, nz16, ↓reduceIte, not_true_eq_false, not_false_eq_true, Bool.false_eq_true, reduceCtorEq]
    · rw [decide_eq_false (fun y => h3 y.2)] at hin
      refine Or.inr ⟨?_, hin⟩
      unfold fX4_isChange
      simp (disch := omega) only [l0, l1, l2, l3, l4, l5, l6, l7, l8, l9, l10, l11, l12, l16, l18, l19, l20, l21, l24, l96, l128, l100, l144, l200, l256, l288, l1536, l1728, l1800, bnd, nI_add, pk_mul, pI_sub, pI_m1, pT_le, pF_le, pT_lt, pF_lt, pT_eq, pF_eq, pF_m1, mF_eq, mT_eq, mT_lt, mF_le, lm1, rd_nI, wr_nI, cl_nI, pk_us, un_ne, pk_uLs, uL_ne, zI_uI, zI_uJ, zI_uA, zI_uB, zI_uR, zI_uN, zJ_uI, zJ_uJ, zJ_uA, zJ_uB, zJ_uR, zJ_uN, zA_uI, zA_uJ, zA_uA, zA_uB, zA_uR, zA_uN, zB_uI, zB_uJ, zB_uA, zB_uB, zB_uR, zB_uN, zR_uI, zR_uJ, zR_uA, zR_uB, zR_uR, zR_uN, zN_uI, zN_uJ, zN_uA, zN_uB, zN_uR, zN_uN, zI_ne, zJ_ne, zA_ne, zB_ne, zR_ne, zN_ne, bi_T, bi_F, nz16, ↓reduceIte, not_true_eq_false, not_false_eq_true, Bool.false_eq_true, reduceCtorEq]
theorem crew2 (x : Int32) : (∃ c, c ≤ 10 ∧ x = nI c ∧ fX4_isCrew x = some true ∧ fX12_isIn x (nI 0) (nI 10) = some true) ∨ (fX4_isCrew x = some false ∧ fX12_isIn x (nI 0) (nI 10) = some false) := by
  rcases i32_of x with hn | ⟨c, hc, rfl⟩
  · have hn' : (x < nI 0) = True := eq_true hn
    refine Or.inr ⟨?_, m_isInN hn⟩
    unfold fX4_isCrew
    simp (disch := omega) only [l0, l1, l2, l3, l4, l5, l6, l7, l8, l9, l10, l11, l12, l16, l18, l19, l20, l21, l24, l96, l128, l100, l144, l200, l256, l288, l1536, l1728, l1800, bnd, nI_add, pk_mul, pI_sub, pI_m1, pT_le, pF_le, pT_lt, pF_lt, pT_eq, pF_eq, pF_m1, mF_eq, mT_eq, mT_lt, mF_le, lm1, rd_nI, wr_nI, cl_nI, pk_us, un_ne, pk_uLs, uL_ne, zI_uI, zI_uJ, zI_uA, zI_uB, zI_uR, zI_uN, zJ_uI, zJ_uJ, zJ_uA, zJ_uB, zJ_uR, zJ_uN, zA_uI, zA_uJ, zA_uA, zA_uB, zA_uR, zA_uN, zB_uI, zB_uJ, zB_uA, zB_uB, zB_uR, zB_uN, zR_uI, zR_uJ, zR_uA, zR_uB, zR_uR, zR_uN, zN_uI, zN_uJ, zN_uA, zN_uB, zN_uR, zN_uN, zI_ne, zJ_ne, zA_ne, zB_ne, zR_ne, zN_ne, bi_T, bi_F, nz16, ↓reduceIte, not_true_eq_false, not_false_eq_true, Bool.false_eq_true, reduceCtorEq, hn']
  · have hin := m_isIn (a := c) (b := 0) (c := 10) (by omega) (by omega) (by omega)
    by_cases h3 : c ≤ 10
    · rw [decide_eq_true ⟨by omega, h3⟩] at hin
      refine Or.inl ⟨c, h3, rfl, ?_, hin⟩
      unfold fX4_isCrew
      simp (disch := omega) only [l0, l1, l2, l3, l4, l5, l6, l7, l8, l9, l10, l11, l12, l16, l18, l19, l20, l21, l24, l96, l128, l100, l144, l200, l256, l288, l1536, l1728, l1800, bnd, nI_add, pk_mul, pI_sub, pI_m1, pT_le, pF_le, pT_lt, pF_lt, pT_eq, pF_eq, pF_m1, mF_eq, mT_eq, mT_lt, mF_le, lm1, rd_nI, wr_nI, cl_nI, pk_us, un_ne, pk_uLs, uL_ne, zI_uI, zI_uJ, zI_uA, zI_uB, zI_uR, zI_uN, zJ_uI, zJ_uJ, zJ_uA, zJ_uB, zJ_uR, zJ_uN, zA_uI, zA_uJ, zA_uA, zA_uB, zA_uR, zA_uN, zB_uI, zB_uJ, zB_uA, zB_uB, zB_uR, zB_uN, zR_uI, zR_uJ, zR_uA, zR_uB, zR_uR, zR_uN, zN_uI, zN_uJ, zN_uA, zN_uB, zN_uR, zN_uN, zI_ne, zJ_ne, zA_ne, zB_ne, zR_ne, zN_ne, bi_T, bi_F, nz16, ↓reduceIte, not_true_eq_false, not_false_eq_true, Bool.false_eq_true, reduceCtorEq]
    · rw [decide_eq_false (fun y => h3 y.2)] at hin
      refine Or.inr ⟨?_, hin⟩
      unfold fX4_isCrew
      simp (disch := omega) only [l0, l1, l2, l3, l4, l5, l6, l7, l8, l9, l10, l11, l12, l16, l18, l19, l20, l21, l24, l96, l128, l100, l144, l200, l256, l288, l1536, l1728, l1800, bnd, nI_add, pk_mul, pI_sub, pI_m1, pT_le, pF_le, pT_lt, pF_lt, pT_eq, pF_eq, pF_m1, mF_eq, mT_eq, mT_lt, mF_le, lm1, rd_nI, wr_nI, cl_nI, pk_us, un_ne, pk_uLs, uL_ne, zI_uI, zI_uJ, zI_uA, zI_uB, zI_uR, zI_uN, zJ_uI, zJ_uJ, zJ_uA, zJ_uB, zJ_uR, zJ_uN, zA_uI, zA_uJ, zA_uA, zA_uB, zA_uR, zA_uN, zB_uI, zB_uJ, zB_uA, zB_uB, zB_uR, zB_uN, zR_uI, zR_uJ, zR_uA, zR_uB, zR_uR, zR_uN, zN_uI, zN_uJ, zN_uA, zN_uB, zN_uR, zN_uN, zI_ne, zJ_ne, zA_ne, zB_ne, zR_ne, zN_ne, bi_T, bi_F, nz16, ↓reduceIte, not_true_eq_false, not_false_eq_true, Bool.false_eq_true, reduceCtorEq]
