/-! who bars whom -/
theorem orf_bit {F : Nat → Nat} {b : Nat} : ∀ (l : List Nat) (a : Nat), (l.foldl (fun a k => a ||| F k) a).testBit b = (a.testBit b || l.any (fun k => (F k).testBit b))
  | [], a => by simp
  | x :: l, a => by
    rw [List.foldl_cons, orf_bit l, List.any_cons, Nat.testBit_or, Bool.or_assoc]
theorem orf_lt {F : Nat → Nat} : ∀ (l : List Nat) (a : Nat), a < 1024 → (∀ x, x ∈ l → F x < 1024) → l.foldl (fun a k => a ||| F k) a < 1024
  | [], _, ha, _ => ha
  | x :: l, a, ha, h => orf_lt l _ (Nat.or_lt_two_pow (n := 10) ha (h x List.mem_cons_self)) (fun y hy => h y (List.mem_cons_of_mem _ hy))
theorem jmxs {a b : Nat} (ha : a < 1000000) (hb : b < 1000000) : fJ9_max_7cf53 (nI 0) (nI a - nI b) = some (nI (a - b)) := by
  by_cases hle : b ≤ a
  · rw [pI_sub hle, jmax (by omega) (by omega), Nat.max_eq_right (Nat.zero_le _)]
  · have hneg := pk_sneg (a := a) (b := b) (by omega) (by omega)
    unfold fJ9_max_7cf53
    rw [show a - b = 0 by omega, if_neg]
    intro x
    exact absurd (Int32.lt_trans x hneg) (by decide)
/-- the parts around a scene -/
def arn (h : Gp) (p c s : Nat) : Nat := (List.range (min (pS h p - 1) (s + c) + 1 - (s - c))).foldl (fun a k => a ||| pC h p (s - c + k)) 0
/-- those near a part -/
def nrS (h : Gp) (p c a : Nat) (x s : Nat) : Nat := if (pC h p s).testBit a = true then x ||| arn h p c s else x
def nr (h : Gp) (p c a : Nat) : Nat := (List.range (pS h p)).foldl (nrS h p c a) 0
def bz (h : Gp) (p c a b : Nat) : Bool := (List.range (pS h p)).any (fun s => (pC h p s).testBit a && (arn h p c s).testBit b)
theorem nr_bit {h : Gp} {p c a b : Nat} : (nr h p c a).testBit b = bz h p c a b := by
  have aux : ∀ (l : List Nat) (x : Nat), (l.foldl (nrS h p c a) x).testBit b = (x.testBit b || l.any (fun s => (pC h p s).testBit a && (arn h p c s).testBit b)) := by
    intro l
    induction l with
    | nil => intro x; simp
    | cons s l ih =>
      intro x
      rw [List.foldl_cons, ih, List.any_cons, ← Bool.or_assoc]
      congr 1
      unfold nrS
      cases (pC h p s).testBit a with
      | true => rw [if_pos rfl, Nat.testBit_or, Bool.true_and]
      | false => rw [if_neg (by decide), Bool.false_and, Bool.or_false]
  unfold nr bz
  rw [aux, Nat.zero_testBit, Bool.false_or]
theorem arn_lt {σ : St} {h : Gp} (k : TI σ h) {p c s : Nat} (hp : p < pN h) (hs : s < pS h p) : arn h p c s < 1024 := by
  refine orf_lt _ 0 (by decide) (fun x hx => ?_)
  rw [List.mem_range] at hx
  exact ((k.2.2.2.1 p hp).2.2.2.2 (s - c + x) (by omega)).2.1
theorem nrf_lt {σ : St} {h : Gp} (k : TI σ h) {p c a : Nat} (hp : p < pN h) : ∀ (l : List Nat) (x : Nat), x < 1024 → (∀ s, s ∈ l → s < pS h p) → l.foldl (nrS h p c a) x < 1024
  | [], _, hx, _ => hx
  | s :: l, x, hx, hl => by
    refine nrf_lt k hp l _ ?_ (fun y hy => hl y (List.mem_cons_of_mem _ hy))
    unfold nrS
    split
    · exact Nat.or_lt_two_pow (n := 10) hx (arn_lt k hp (hl s List.mem_cons_self))
    · exact hx
theorem nr_lt {σ : St} {h : Gp} (k : TI σ h) {p c a : Nat} (hp : p < pN h) : nr h p c a < 1024 := nrf_lt k hp _ 0 (by decide) (fun s hs => List.mem_range.mp hs)
theorem c_zero (σ : St) (v1 v2 : Int32) (k1 : St → Option St) : ∃ f, fX4_layNear_P2 v1 v2 k1 σ (nI 0) = k1 (uA σ 52 f) ∧ ∀ j, j < 10 → f j = nI 0 := by
  have key := it_for (β := Nat → Int32) (body := fun (kb : (St × Int32) → Option St) (x : St × Int32) => fX4_layNear_L2 v1 v2 k1 (fun σ v3 => kb (σ, v3)) x.1 x.2) 10 (by omega) (fun k f => (uA σ 52 f, nI k)) (fun k f => ∀ j, j < k → f j = nI 0) (fun k b z => ∃ f, z = k1 (uA σ 52 f) ∧ ∀ j, j < 10 → f j = nI 0) ?_ 0 (zA σ 52) (Nat.zero_le _) (fun j h => absurd h (Nat.not_lt_zero _))
  · have e1 : uA σ 52 (zA σ 52) = σ := uA_self σ 52
    simp only [e1] at key
    exact key
  · intro k f hk hf kb hkb
    show ∃ f', fX4_layNear_L2 _ _ _ _ (uA σ 52 f) (nI k) = _ ∧ _
    unfold fX4_layNear_L2
    by_cases hk10 : k = 10
    · refine ⟨f, ?_, fun j hj => hf j (by omega)⟩
      simp (disch := omega) only [l0, l1, l2, l3, l4, l5, l6, l7, l8, l9, l10, l11, l12, l16, l18, l19, l20, l21, l24, l96, l128, l100, l144, l200, l256, l288, l1536, l1728, l1800, bnd, nI_add, pk_mul, pI_sub, pI_m1, pT_le, pF_le, pT_lt, pF_lt, pT_eq, pF_eq, pF_m1, mF_eq, mT_eq, mT_lt, mF_le, lm1, rd_nI, wr_nI, cl_nI, pk_us, un_ne, pk_uLs, uL_ne, zI_uI, zI_uJ, zI_uA, zI_uB, zI_uR, zI_uN, zJ_uI, zJ_uJ, zJ_uA, zJ_uB, zJ_uR, zJ_uN, zA_uI, zA_uJ, zA_uA, zA_uB, zA_uR, zA_uN, zB_uI, zB_uJ, zB_uA, zB_uB, zB_uR, zB_uN, zR_uI, zR_uJ, zR_uA, zR_uB, zR_uR, zR_uN, zN_uI, zN_uJ, zN_uA, zN_uB, zN_uR, zN_uN, zI_ne, zJ_ne, zA_ne, zB_ne, zR_ne, zN_ne, bi_T, bi_F, nz16, ↓reduceIte, not_true_eq_false, not_false_eq_true, Bool.false_eq_true, reduceCtorEq, hk10]
    · have nx := hkb (upd f k (nI 0)) (by omega) (fun j hj => by
        by_cases e : j = k
        · rw [e, pk_us]
        · rw [pk_un e]; exact hf j (by omega))
      simp (disch := omega) only [l0, l1, l2, l3, l4, l5, l6, l7, l8, l9, l10, l11, l12, l16, l18, l19, l20, l21, l24, l96, l128, l100, l144, l200, l256, l288, l1536, l1728, l1800, bnd, nI_add, pk_mul, pI_sub, pI_m1, pT_le, pF_le, pT_lt, pF_lt, pT_eq, pF_eq, pF_m1, mF_eq, mT_eq, mT_lt, mF_le, lm1, rd_nI, wr_nI, cl_nI, pk_us, un_ne, pk_uLs, uL_ne, zI_uI, zI_uJ, zI_uA, zI_uB, zI_uR, zI_uN, zJ_uI, zJ_uJ, zJ_uA, zJ_uB, zJ_uR, zJ_uN, zA_uI, zA_uJ, zA_uA, zA_uB, zA_uR, zA_uN, zB_uI, zB_uJ, zB_uA, zB_uB, zB_uR, zB_uN, zR_uI, zR_uJ, zR_uA, zR_uB, zR_uR, zR_uN, zN_uI, zN_uJ, zN_uA, zN_uB, zN_uR, zN_uN, zI_ne, zJ_ne, zA_ne, zB_ne, zR_ne, zN_ne, bi_T, bi_F, nz16, ↓reduceIte, not_true_eq_false, not_false_eq_true, Bool.false_eq_true, reduceCtorEq, uA_uA]
      exact nx
theorem c_around {σ : St} {h : Gp} (k : TI σ h) {p c s : Nat} (hp : p < pN h) (hs : s < pS h p) (v2 v3 v4 : Int32) (k1 : Int32 → Option St) : fX4_layNear_P64 (nI p) v2 v3 v4 (nI (min (pS h p - 1) (s + c))) k1 σ (nI 0) (nI (s - c)) = k1 (nI (arn h p c s)) := by
  have hS := k.2.2.2.1 p hp
  have h20 := hS.2.1
  have key := it_for (β := Nat) (body := fun (kb : (Int32 × Int32) → Option St) (x : Int32 × Int32) => fX4_layNear_L64 (nI p) v2 v3 v4 (nI (min (pS h p - 1) (s + c))) k1 (fun v5 v7 => kb (v5, v7)) σ x.1 x.2) (min (pS h p - 1) (s + c) + 1 - (s - c)) (by omega) (fun i a => (nI a, nI (s - c + i))) (fun _ _ => True) (fun i a z => z = k1 (nI (((List.range (min (pS h p - 1) (s + c) + 1 - (s - c))).drop i).foldl (fun a k => a ||| pC h p (s - c + k)) a))) ?_ 0 0 (Nat.zero_le _) trivial
  · exact key
  · intro i a hi _ kb hkb
    show fX4_layNear_L64 _ _ _ _ _ _ _ _ (nI a) (nI (s - c + i)) = _
    unfold fX4_layNear_L64
    by_cases hin : i = min (pS h p - 1) (s + c) + 1 - (s - c)
    · have e1 : (List.range (min (pS h p - 1) (s + c) + 1 - (s - c))).drop i = [] := List.drop_of_length_le (by rw [List.length_range]; omega)
      rw [e1]
      simp (disch := omega) only [l0, l1, l2, l3, l4, l5, l6, l7, l8, l9, l10, l11, l12, l16, l18, l19, l20, l21, l24, l96, l128, l100, l144, l200, l256, l288, l1536, l1728, l1800, bnd, nI_add, pk_mul, pI_sub, pI_m1, pT_le, pF_le, pT_lt, pF_lt, pT_eq, pF_eq, pF_m1, mF_eq, mT_eq, mT_lt, mF_le, lm1, rd_nI, wr_nI, cl_nI, pk_us, un_ne, pk_uLs, uL_ne, zI_uI, zI_uJ, zI_uA, zI_uB, zI_uR, zI_uN, zJ_uI, zJ_uJ, zJ_uA, zJ_uB, zJ_uR, zJ_uN, zA_uI, zA_uJ, zA_uA, zA_uB, zA_uR, zA_uN, zB_uI, zB_uJ, zB_uA, zB_uB, zB_uR, zB_uN, zR_uI, zR_uJ, zR_uA, zR_uB, zR_uR, zR_uN, zN_uI, zN_uJ, zN_uA, zN_uB, zN_uR, zN_uN, zI_ne, zJ_ne, zA_ne, zB_ne, zR_ne, zN_ne, bi_T, bi_F, nz16, ↓reduceIte, not_true_eq_false, not_false_eq_true, Bool.false_eq_true, reduceCtorEq]
      rfl
    · rw [rng_drop (by omega), List.foldl_cons]
      have hpi := c4_partsIn k hp (s := s - c + i) (by omega)
      have nx := hkb (a ||| pC h p (s - c + i)) (by omega) trivial
      rw [show s - c + (i + 1) = s - c + i + 1 by omega] at nx
      simp (disch := omega) only [l0, l1, l2, l3, l4, l5, l6, l7, l8, l9, l10, l11, l12, l16, l18, l19, l20, l21, l24, l96, l128, l100, l144, l200, l256, l288, l1536, l1728, l1800, bnd, nI_add, pk_mul, pI_sub, pI_m1, pT_le, pF_le, pT_lt, pF_lt, pT_eq, pF_eq, pF_m1, mF_eq, mT_eq, mT_lt, mF_le, lm1, rd_nI, wr_nI, cl_nI, pk_us, un_ne, pk_uLs, uL_ne, zI_uI, zI_uJ, zI_uA, zI_uB, zI_uR, zI_uN, zJ_uI, zJ_uJ, zJ_uA, zJ_uB, zJ_uR, zJ_uN, zA_uI, zA_uJ, zA_uA, zA_uB, zA_uR, zA_uN, zB_uI, zB_uJ, zB_uA, zB_uB, zB_uR, zB_uN, zR_uI, zR_uJ, zR_uA, zR_uB, zR_uR, zR_uN, zN_uI, zN_uJ, zN_uA, zN_uB, zN_uR, zN_uN, zI_ne, zJ_ne, zA_ne, zB_ne, zR_ne, zN_ne, bi_T, bi_F, nz16, ↓reduceIte, not_true_eq_false, not_false_eq_true, Bool.false_eq_true, reduceCtorEq, hpi, fa_or]
      exact nx
theorem c_parts {σ : St} {h : Gp} (k : TI σ h) {p c s : Nat} (hp : p < pN h) (hs : s < pS h p) (v1 v2 v3 v4 : Int32) (k1 : St → Option St) (f : Nat → Int32) (X : Nat → Nat) (hf : ∀ j, j < 10 → f j = nI (X j)) : ∃ f', fX4_layNear_P101 v1 v2 v3 v4 (nI (arn h p c s)) (nI (pC h p s)) k1 (uA σ 52 f) (nI 0) = k1 (uA σ 52 f') ∧ ∀ j, j < 10 → f' j = nI (nrS h p c j (X j) s) := by
  have hps := ((k.2.2.2.1 p hp).2.2.2.2 s hs).2.1
  have har := arn_lt (c := c) k hp hs
  have key := it_for (β := Nat → Int32) (body := fun (kb : (St × Int32) → Option St) (x : St × Int32) => fX4_layNear_L101 v1 v2 v3 v4 (nI (arn h p c s)) (nI (pC h p s)) k1 (fun σ v8 => kb (σ, v8)) x.1 x.2) 10 (by omega) (fun i f => (uA σ 52 f, nI i)) (fun i f => (∀ j, j < i → f j = nI (nrS h p c j (X j) s)) ∧ ∀ j, i ≤ j → j < 10 → f j = nI (X j)) (fun i b z => ∃ f', z = k1 (uA σ 52 f') ∧ ∀ j, j < 10 → f' j = nI (nrS h p c j (X j) s)) ?_ 0 f (Nat.zero_le _) ⟨fun j h => absurd h (Nat.not_lt_zero _), fun j _ hj => hf j hj⟩
  · exact key
  · intro i f hi hI kb hkb
    show ∃ f', fX4_layNear_L101 _ _ _ _ _ _ _ _ (uA σ 52 f) (nI i) = _ ∧ _
    unfold fX4_layNear_L101
    by_cases hi10 : i = 10
    · refine ⟨f, ?_, fun j hj => hI.1 j (by omega)⟩
      simp (disch := omega) only [l0, l1, l2, l3, l4, l5, l6, l7, l8, l9, l10, l11, l12, l16, l18, l19, l20, l21, l24, l96, l128, l100, l144, l200, l256, l288, l1536, l1728, l1800, bnd, nI_add, pk_mul, pI_sub, pI_m1, pT_le, pF_le, pT_lt, pF_lt, pT_eq, pF_eq, pF_m1, mF_eq, mT_eq, mT_lt, mF_le, lm1, rd_nI, wr_nI, cl_nI, pk_us, un_ne, pk_uLs, uL_ne, zI_uI, zI_uJ, zI_uA, zI_uB, zI_uR, zI_uN, zJ_uI, zJ_uJ, zJ_uA, zJ_uB, zJ_uR, zJ_uN, zA_uI, zA_uJ, zA_uA, zA_uB, zA_uR, zA_uN, zB_uI, zB_uJ, zB_uA, zB_uB, zB_uR, zB_uN, zR_uI, zR_uJ, zR_uA, zR_uB, zR_uR, zR_uN, zN_uI, zN_uJ, zN_uA, zN_uB, zN_uR, zN_uN, zI_ne, zJ_ne, zA_ne, zB_ne, zR_ne, zN_ne, bi_T, bi_F, nz16, ↓reduceIte, not_true_eq_false, not_false_eq_true, Bool.false_eq_true, reduceCtorEq, hi10]
    · have hfi := hI.2 i (Nat.le_refl _) (by omega)
      have hin := c4_isIn (t := pC h p s) (r := i) (by omega) (by omega)
      have nx := fun v (hv : v = nrS h p c i (X i) s) => hkb (upd f i (nI v)) (by omega) ⟨fun j hj => by
        by_cases e : j = i
        · rw [e, pk_us, hv]
        · rw [pk_un e]; exact hI.1 j (by omega), fun j h1 h2 => by rw [pk_un (by omega)]; exact hI.2 j (by omega) h2⟩
      cases hb : (pC h p s).testBit i with
      | true =>
        rw [hb] at hin
        have n1' := nx (X i ||| arn h p c s) (by unfold nrS; rw [if_pos hb])
        simp (disch := omega) only [l0, l1, l2, l3, l4, l5, l6, l7, l8, l9, l10, l11, l12, l16, l18, l19, l20, l21, l24, l96, l128, l100, l144, l200, l256, l288, l1536, l1728, l1800, bnd, nI_add, pk_mul, pI_sub, pI_m1, pT_le, pF_le, pT_lt, pF_lt, pT_eq, pF_eq, pF_m1, mF_eq, mT_eq, mT_lt, mF_le, lm1, rd_nI, wr_nI, cl_nI, pk_us, un_ne, pk_uLs, uL_ne, zI_uI, zI_uJ, zI_uA, zI_uB, zI_uR, zI_uN, zJ_uI, zJ_uJ, zJ_uA, zJ_uB, zJ_uR, zJ_uN, zA_uI, zA_uJ, zA_uA, zA_uB, zA_uR, zA_uN, zB_uI, zB_uJ, zB_uA, zB_uB, zB_uR, zB_uN, zR_uI, zR_uJ, zR_uA, zR_uB, zR_uR, zR_uN, zN_uI, zN_uJ, zN_uA, zN_uB, zN_uR, zN_uN, zI_ne, zJ_ne, zA_ne, zB_ne, zR_ne, zN_ne, bi_T, bi_F, nz16, ↓reduceIte, not_true_eq_false, not_false_eq_true, Bool.false_eq_true, reduceCtorEq, hfi, hin, fa_or, uA_uA]
        exact n1'
      | false =>
        rw [hb] at hin
        have n1' := nx (X i ||| 0) (by unfold nrS; rw [if_neg (by rw [hb]; decide), Nat.or_zero])
        simp (disch := omega) only [l0, l1, l2, l3, l4, l5, l6, l7, l8, l9, l10, l11, l12, l16, l18, l19, l20, l21, l24, l96, l128, l100, l144, l200, l256, l288, l1536, l1728, l1800, bnd, nI_add, pk_mul, pI_sub, pI_m1, pT_le, pF_le, pT_lt, pF_lt, pT_eq, pF_eq, pF_m1, mF_eq, mT_eq, mT_lt, mF_le, lm1, rd_nI, wr_nI, cl_nI, pk_us, un_ne, pk_uLs, uL_ne, zI_uI, zI_uJ, zI_uA, zI_uB, zI_uR, zI_uN, zJ_uI, zJ_uJ, zJ_uA, zJ_uB, zJ_uR, zJ_uN, zA_uI, zA_uJ, zA_uA, zA_uB, zA_uR, zA_uN, zB_uI, zB_uJ, zB_uA, zB_uB, zB_uR, zB_uN, zR_uI, zR_uJ, zR_uA, zR_uB, zR_uR, zR_uN, zN_uI, zN_uJ, zN_uA, zN_uB, zN_uR, zN_uN, zI_ne, zJ_ne, zA_ne, zB_ne, zR_ne, zN_ne, bi_T, bi_F, nz16, ↓reduceIte, not_true_eq_false, not_false_eq_true, Bool.false_eq_true, reduceCtorEq, hfi, hin, fa_or, uA_uA]
        exact n1'
theorem c_layNear {σ : St} {h : Gp} (k : TI σ h) {p c : Nat} (hp : p < pN h) (hc : c ≤ 3) : ∃ f, fX4_layNear σ (nI p) (nI c) = some (uA σ 52 f) ∧ ∀ j, j < 10 → f j = nI (nr h p c j) := by
  have hS := k.2.2.2.1 p hp
  have h20 := hS.2.1
  have h1 := hS.1
  obtain ⟨f, e, hf⟩ := c_zero σ (nI p) (nI c) (fun s2 => (fX4_sizeOf s2 (nI p)).bind fun x3 => fX4_layNear_P35 (nI p) (nI c) (x3 - nI 1) s2 (nI 0))
  have k2 : TI (uA σ 52 f) h := k.se (SE.uA (by decide))
  have key := it_for (β := Nat → Int32) (body := fun (kb : (St × Int32) → Option St) (x : St × Int32) => fX4_layNear_L35 (nI p) (nI c) (nI (pS h p - 1)) (fun σ v4 => kb (σ, v4)) x.1 x.2) (pS h p) (by omega) (fun i f => (uA σ 52 f, nI i)) (fun i f => ∃ X : Nat → Nat, (∀ j, j < 10 → f j = nI (X j)) ∧ ∀ j, j < 10 → ((List.range (pS h p)).drop i).foldl (nrS h p c j) (X j) = nr h p c j) (fun i b z => ∃ f', z = some (uA σ 52 f') ∧ ∀ j, j < 10 → f' j = nI (nr h p c j)) ?_ 0 f (Nat.zero_le _) ⟨fun _ => 0, hf, fun j _ => rfl⟩
  · obtain ⟨f2, e2, hf2⟩ := key
    refine ⟨f2, ?_, hf2⟩
    unfold fX4_layNear
    simp (disch := omega) only [l0, l1, l2, l3, l4, l5, l6, l7, l8, l9, l10, l11, l12, l16, l18, l19, l20, l21, l24, l96, l128, l100, l144, l200, l256, l288, l1536, l1728, l1800, bnd, nI_add, pk_mul, pI_sub, pI_m1, pT_le, pF_le, pT_lt, pF_lt, pT_eq, pF_eq, pF_m1, mF_eq, mT_eq, mT_lt, mF_le, lm1, rd_nI, wr_nI, cl_nI, pk_us, un_ne, pk_uLs, uL_ne, zI_uI, zI_uJ, zI_uA, zI_uB, zI_uR, zI_uN, zJ_uI, zJ_uJ, zJ_uA, zJ_uB, zJ_uR, zJ_uN, zA_uI, zA_uJ, zA_uA, zA_uB, zA_uR, zA_uN, zB_uI, zB_uJ, zB_uA, zB_uB, zB_uR, zB_uN, zR_uI, zR_uJ, zR_uA, zR_uB, zR_uR, zR_uN, zN_uI, zN_uJ, zN_uA, zN_uB, zN_uR, zN_uN, zI_ne, zJ_ne, zA_ne, zB_ne, zR_ne, zN_ne, bi_T, bi_F, nz16, ↓reduceIte, not_true_eq_false, not_false_eq_true, Bool.false_eq_true, reduceCtorEq]
    rw [e, c4_sizeOf k2 hp, bnd, pI_sub h1]
    exact e2
  · rintro i f hi ⟨X, hX, hR⟩ kb hkb
    show ∃ f', fX4_layNear_L35 _ _ _ _ (uA σ 52 f) (nI i) = _ ∧ _
    unfold fX4_layNear_L35
    by_cases hin : i = pS h p
    · have e1 : (List.range (pS h p)).drop i = [] := List.drop_of_length_le (by rw [List.length_range]; omega)
      refine ⟨f, ?_, fun j hj => by rw [hX j hj, ← hR j hj, e1]; rfl⟩
      simp (disch := omega) only [l0, l1, l2, l3, l4, l5, l6, l7, l8, l9, l10, l11, l12, l16, l18, l19, l20, l21, l24, l96, l128, l100, l144, l200, l256, l288, l1536, l1728, l1800, bnd, nI_add, pk_mul, pI_sub, pI_m1, pT_le, pF_le, pT_lt, pF_lt, pT_eq, pF_eq, pF_m1, mF_eq, mT_eq, mT_lt, mF_le, lm1, rd_nI, wr_nI, cl_nI, pk_us, un_ne, pk_uLs, uL_ne, zI_uI, zI_uJ, zI_uA, zI_uB, zI_uR, zI_uN, zJ_uI, zJ_uJ, zJ_uA, zJ_uB, zJ_uR, zJ_uN, zA_uI, zA_uJ, zA_uA, zA_uB, zA_uR, zA_uN, zB_uI, zB_uJ, zB_uA, zB_uB, zB_uR, zB_uN, zR_uI, zR_uJ, zR_uA, zR_uB, zR_uR, zR_uN, zN_uI, zN_uJ, zN_uA, zN_uB, zN_uR, zN_uN, zI_ne, zJ_ne, zA_ne, zB_ne, zR_ne, zN_ne, bi_T, bi_F, nz16, ↓reduceIte, not_true_eq_false, not_false_eq_true, Bool.false_eq_true, reduceCtorEq]
    · have k3 : TI (uA σ 52 f) h := k.se (SE.uA (by decide))
      have hmx := jmxs (a := i) (b := c) (by omega) (by omega)
      have hmn := jmin (a := pS h p - 1) (b := i + c) (by omega) (by omega)
      obtain ⟨f3, e3, hf3⟩ := c_parts k (c := c) (s := i) hp (by omega) (nI p) (nI c) (nI (pS h p - 1)) (nI i) (fun s15 => kb (s15, nI (i + 1))) f X hX
      have nx := hkb f3 (by omega) ⟨fun j => nrS h p c j (X j) i, hf3, fun j hj => by
        have := hR j hj
        rw [rng_drop (by omega), List.foldl_cons] at this
        exact this⟩
      have hpi := c4_partsIn k3 hp (s := i) (by omega)
      simp (disch := omega) only [l0, l1, l2, l3, l4, l5, l6, l7, l8, l9, l10, l11, l12, l16, l18, l19, l20, l21, l24, l96, l128, l100, l144, l200, l256, l288, l1536, l1728, l1800, bnd, nI_add, pk_mul, pI_sub, pI_m1, pT_le, pF_le, pT_lt, pF_lt, pT_eq, pF_eq, pF_m1, mF_eq, mT_eq, mT_lt, mF_le, lm1, rd_nI, wr_nI, cl_nI, pk_us, un_ne, pk_uLs, uL_ne, zI_uI, zI_uJ, zI_uA, zI_uB, zI_uR, zI_uN, zJ_uI, zJ_uJ, zJ_uA, zJ_uB, zJ_uR, zJ_uN, zA_uI, zA_uJ, zA_uA, zA_uB, zA_uR, zA_uN, zB_uI, zB_uJ, zB_uA, zB_uB, zB_uR, zB_uN, zR_uI, zR_uJ, zR_uA, zR_uB, zR_uR, zR_uN, zN_uI, zN_uJ, zN_uA, zN_uB, zN_uR, zN_uN, zI_ne, zJ_ne, zA_ne, zB_ne, zR_ne, zN_ne, bi_T, bi_F, nz16, ↓reduceIte, not_true_eq_false, not_false_eq_true, Bool.false_eq_true, reduceCtorEq, hmn, hmx, c_around k3 hp (show i < pS h p by omega), hpi]
      rw [e3]
      exact nx
/-! the model's bars -/
theorem m_abs {a b : Nat} (ha : a < 1000) (hb : b < 1000) : fJ9_abs_0f7a4 (nI a - nI b) = some (nI (if a < b then b - a else a - b)) := by
  unfold fJ9_abs_0f7a4
  by_cases h : a < b
  · have hneg := pk_sneg (a := a) (b := b) (by omega) (by omega)
    have h0 : ¬ (0 : Int32) ≤ nI a - nI b := fun x => absurd (Int32.lt_of_le_of_lt x hneg) (by decide)
    rw [if_neg h0, if_pos h, ← pI_sub (by omega)]
    congr 1
    rw [← Int32.toInt_inj]
    have e1 := pk_sub_toInt (a := a) (b := b) (by omega) (by omega)
    have e2 := pk_sub_toInt (a := b) (b := a) (by omega) (by omega)
    rw [Int32.toInt_neg, e1, e2]
    rw [fb_bmod (by omega) (by omega)]
    omega
  · rw [if_neg h, pI_sub (by omega), if_pos (nI_pos' (by omega))]
theorem bz_any {σ : St} {h : Gp} (k : TI σ h) {p c a b : Nat} (hp : p < pN h) : bz h p c a b = (List.range (pS h p)).any (fun i => (List.range (pS h p)).any (fun j => decide ((if i < j then j - i else i - j) ≤ c) && ((pC h p i).testBit a && (pC h p j).testBit b))) := by
  unfold bz
  rw [Bool.eq_iff_iff, List.any_eq_true, List.any_eq_true]
  constructor
  · rintro ⟨i, hi, hx⟩
    rw [Bool.and_eq_true] at hx
    unfold arn at hx
    rw [orf_bit, Nat.zero_testBit, Bool.false_or, List.any_eq_true] at hx
    obtain ⟨h1, x, hx1, hx2⟩ := hx
    rw [List.mem_range] at hx1 hi
    refine ⟨i, List.mem_range.mpr hi, ?_⟩
    rw [List.any_eq_true]
    refine ⟨i - c + x, List.mem_range.mpr (by omega), ?_⟩
    rw [h1, hx2, Bool.and_true, Bool.and_true]
    apply decide_eq_true
    split <;> omega
  · rintro ⟨i, hi, hx⟩
    rw [List.any_eq_true] at hx
    obtain ⟨j, hj, hx⟩ := hx
    rw [List.mem_range] at hi hj
    rw [Bool.and_eq_true, Bool.and_eq_true] at hx
    have hd := of_decide_eq_true hx.1
    refine ⟨i, List.mem_range.mpr hi, ?_⟩
    rw [hx.2.1, Bool.true_and]
    unfold arn
    rw [orf_bit, Nat.zero_testBit, Bool.false_or, List.any_eq_true]
    have hd2 : j ≤ i + c ∧ i ≤ j + c := by
      split at hd <;> omega
    refine ⟨j - (i - c), List.mem_range.mpr (by omega), ?_⟩
    rw [show i - c + (j - (i - c)) = j by omega]
    exact hx.2.2
theorem m_barsIt {σ : St} {h : Gp} (k : TI σ h) {p c a b : Nat} (hp : p < pN h) (hc : c ≤ 3) (ha : a < 10) (hb : b < 10) : fX12_barsIt σ (nI p) (nI a) (nI b) (nI c) = some (decide ((pBy h).testBit a = (pBy h).testBit b) && bz h p c a b) := by
  have hS := k.2.2.2.1 p hp
  have h4 := k.1
  have h20 := hS.2.1
  have h67 := hS.2.2.2.1
  have h50 := k.2.2.2.2.2.2
  have hby := k.2.2.2.2.1
  have x1 := m_has (t := pBy h) (r := a) (by omega) (by omega)
  have x2 := m_has (t := pBy h) (r := b) (by omega) (by omega)
  unfold fX12_barsIt
  by_cases he : (pBy h).testBit a = (pBy h).testBit b
  · rw [decide_eq_true he, Bool.true_and, bz_any k hp]
    have e2 : (bi ((pBy h).testBit a) = bi ((pBy h).testBit b)) = True := eq_true (by rw [he])
    have key := it_for (β := Unit) (body := fun (kb : Int32 → Option Bool) (x : Int32) => fX12_barsIt_L24 (nI p) (nI a) (nI b) (nI c) (fun v5 => kb v5) σ x) (pS h p) (by omega) (fun i _ => nI i) (fun _ _ => True) (fun i _ z => z = some (((List.range (pS h p)).drop i).any (fun i => (List.range (pS h p)).any (fun j => decide ((if i < j then j - i else i - j) ≤ c) && ((pC h p i).testBit a && (pC h p j).testBit b))))) ?_ 0 () (Nat.zero_le _) trivial
    · simp (disch := omega) only [l0, l1, l2, l3, l4, l5, l6, l7, l8, l9, l10, l11, l12, l16, l18, l19, l20, l21, l24, l96, l128, l100, l144, l200, l256, l288, l1536, l1728, l1800, bnd, nI_add, pk_mul, pI_sub, pI_m1, pT_le, pF_le, pT_lt, pF_lt, pT_eq, pF_eq, pF_m1, mF_eq, mT_eq, mT_lt, mF_le, lm1, rd_nI, wr_nI, cl_nI, pk_us, un_ne, pk_uLs, uL_ne, zI_uI, zI_uJ, zI_uA, zI_uB, zI_uR, zI_uN, zJ_uI, zJ_uJ, zJ_uA, zJ_uB, zJ_uR, zJ_uN, zA_uI, zA_uJ, zA_uA, zA_uB, zA_uR, zA_uN, zB_uI, zB_uJ, zB_uA, zB_uB, zB_uR, zB_uN, zR_uI, zR_uJ, zR_uA, zR_uB, zR_uR, zR_uN, zN_uI, zN_uJ, zN_uA, zN_uB, zN_uR, zN_uN, zI_ne, zJ_ne, zA_ne, zB_ne, zR_ne, zN_ne, bi_T, bi_F, nz16, ↓reduceIte, not_true_eq_false, not_false_eq_true, Bool.false_eq_true, reduceCtorEq, h50, x1, x2, e2]
      exact key
    · intro i _ hi _ kb hkb
      show fX12_barsIt_L24 _ _ _ _ _ _ (nI i) = _
      unfold fX12_barsIt_L24
      by_cases hin : i = pS h p
      · have e1 : (List.range (pS h p)).drop i = [] := List.drop_of_length_le (by rw [List.length_range]; omega)
        rw [e1]
        simp (disch := omega) only [l0, l1, l2, l3, l4, l5, l6, l7, l8, l9, l10, l11, l12, l16, l18, l19, l20, l21, l24, l96, l128, l100, l144, l200, l256, l288, l1536, l1728, l1800, bnd, nI_add, pk_mul, pI_sub, pI_m1, pT_le, pF_le, pT_lt, pF_lt, pT_eq, pF_eq, pF_m1, mF_eq, mT_eq, mT_lt, mF_le, lm1, rd_nI, wr_nI, cl_nI, pk_us, un_ne, pk_uLs, uL_ne, zI_uI, zI_uJ, zI_uA, zI_uB, zI_uR, zI_uN, zJ_uI, zJ_uJ, zJ_uA, zJ_uB, zJ_uR, zJ_uN, zA_uI, zA_uJ, zA_uA, zA_uB, zA_uR, zA_uN, zB_uI, zB_uJ, zB_uA, zB_uB, zB_uR, zB_uN, zR_uI, zR_uJ, zR_uA, zR_uB, zR_uR, zR_uN, zN_uI, zN_uJ, zN_uA, zN_uB, zN_uR, zN_uN, zI_ne, zJ_ne, zA_ne, zB_ne, zR_ne, zN_ne, bi_T, bi_F, nz16, ↓reduceIte, not_true_eq_false, not_false_eq_true, Bool.false_eq_true, reduceCtorEq, h67]
        rfl
      · have nx := hkb () (by omega) trivial
        have hci := hS.2.2.2.2 i (by omega)
        have h68 := hci.2.2.2
        have hlt := hci.2.1
        have y1 := m_has (t := pC h p i) (r := a) (by omega) (by omega)
        have inner := it_for (β := Unit) (body := fun (kb' : Int32 → Option Bool) (x : Int32) => fX12_barsIt_L38 (nI p) (nI a) (nI b) (nI c) (nI i) (fun _u => kb (nI (i + 1))) (fun v6 => kb' v6) σ x) (pS h p) (by omega) (fun j _ => nI j) (fun _ _ => True) (fun j _ z => z = if ((List.range (pS h p)).drop j).any (fun j => decide ((if i < j then j - i else i - j) ≤ c) && ((pC h p i).testBit a && (pC h p j).testBit b)) = true then some true else kb (nI (i + 1))) ?_ 0 () (Nat.zero_le _) trivial
        · rw [rng_drop (by omega), List.any_cons]
          simp (disch := omega) only [l0, l1, l2, l3, l4, l5, l6, l7, l8, l9, l10, l11, l12, l16, l18, l19, l20, l21, l24, l96, l128, l100, l144, l200, l256, l288, l1536, l1728, l1800, bnd, nI_add, pk_mul, pI_sub, pI_m1, pT_le, pF_le, pT_lt, pF_lt, pT_eq, pF_eq, pF_m1, mF_eq, mT_eq, mT_lt, mF_le, lm1, rd_nI, wr_nI, cl_nI, pk_us, un_ne, pk_uLs, uL_ne, zI_uI, zI_uJ, zI_uA, zI_uB, zI_uR, zI_uN, zJ_uI, zJ_uJ, zJ_uA, zJ_uB, zJ_uR, zJ_uN, zA_uI, zA_uJ, zA_uA, zA_uB, zA_uR, zA_uN, zB_uI, zB_uJ, zB_uA, zB_uB, zB_uR, zB_uN, zR_uI, zR_uJ, zR_uA, zR_uB, zR_uR, zR_uN, zN_uI, zN_uJ, zN_uA, zN_uB, zN_uR, zN_uN, zI_ne, zJ_ne, zA_ne, zB_ne, zR_ne, zN_ne, bi_T, bi_F, nz16, ↓reduceIte, not_true_eq_false, not_false_eq_true, Bool.false_eq_true, reduceCtorEq, h67]
          refine (show fX12_barsIt_P38 (nI p) (nI a) (nI b) (nI c) (nI i) (fun _u => kb (nI (i + 1))) σ (nI 0) = _ from inner).trans ?_
          rw [List.drop_zero]
          cases hx : (List.range (pS h p)).any (fun j => decide ((if i < j then j - i else i - j) ≤ c) && ((pC h p i).testBit a && (pC h p j).testBit b)) with
          | true => rw [if_pos rfl, Bool.true_or]
          | false => rw [if_neg (by decide), Bool.false_or]; exact nx
        · intro j _ hj _ kb' hkb'
          show fX12_barsIt_L38 _ _ _ _ _ _ _ _ (nI j) = _
          unfold fX12_barsIt_L38
          by_cases hjn : j = pS h p
          · have e1 : (List.range (pS h p)).drop j = [] := List.drop_of_length_le (by rw [List.length_range]; omega)
            rw [e1, List.any_nil, if_neg (by decide)]
            simp (disch := omega) only [l0, l1, l2, l3, l4, l5, l6, l7, l8, l9, l10, l11, l12, l16, l18, l19, l20, l21, l24, l96, l128, l100, l144, l200, l256, l288, l1536, l1728, l1800, bnd, nI_add, pk_mul, pI_sub, pI_m1, pT_le, pF_le, pT_lt, pF_lt, pT_eq, pF_eq, pF_m1, mF_eq, mT_eq, mT_lt, mF_le, lm1, rd_nI, wr_nI, cl_nI, pk_us, un_ne, pk_uLs, uL_ne, zI_uI, zI_uJ, zI_uA, zI_uB, zI_uR, zI_uN, zJ_uI, zJ_uJ, zJ_uA, zJ_uB, zJ_uR, zJ_uN, zA_uI, zA_uJ, zA_uA, zA_uB, zA_uR, zA_uN, zB_uI, zB_uJ, zB_uA, zB_uB, zB_uR, zB_uN, zR_uI, zR_uJ, zR_uA, zR_uB, zR_uR, zR_uN, zN_uI, zN_uJ, zN_uA, zN_uB, zN_uR, zN_uN, zI_ne, zJ_ne, zA_ne, zB_ne, zR_ne, zN_ne, bi_T, bi_F, nz16, ↓reduceIte, not_true_eq_false, not_false_eq_true, Bool.false_eq_true, reduceCtorEq, h67]
          · have nx' := hkb' () (by omega) trivial
            have hcj := hS.2.2.2.2 j (by omega)
            have h68j := hcj.2.2.2
            have hltj := hcj.2.1
            have y2 := m_has (t := pC h p j) (r := b) (by omega) (by omega)
            have hab := m_abs (a := i) (b := j) (by omega) (by omega)
            have habl : (if i < j then j - i else i - j) < 1000 := by split <;> omega
            rw [rng_drop (by omega), List.any_cons]
            generalize (if i < j then j - i else i - j) = dd at *
            by_cases hd : dd ≤ c
            · rw [decide_eq_true hd, Bool.true_and]
              cases z1 : (pC h p i).testBit a with
              | false =>
                rw [z1] at y1 nx'
                rw [Bool.false_and, Bool.false_or]
                simp (disch := omega) only [l0, l1, l2, l3, l4, l5, l6, l7, l8, l9, l10, l11, l12, l16, l18, l19, l20, l21, l24, l96, l128, l100, l144, l200, l256, l288, l1536, l1728, l1800, bnd, nI_add, pk_mul, pI_sub, pI_m1, pT_le, pF_le, pT_lt, pF_lt, pT_eq, pF_eq, pF_m1, mF_eq, mT_eq, mT_lt, mF_le, lm1, rd_nI, wr_nI, cl_nI, pk_us, un_ne, pk_uLs, uL_ne, zI_uI, zI_uJ, zI_uA, zI_uB, zI_uR, zI_uN, zJ_uI, zJ_uJ, zJ_uA, zJ_uB, zJ_uR, zJ_uN, zA_uI, zA_uJ, zA_uA, zA_uB, zA_uR, zA_uN, zB_uI, zB_uJ, zB_uA, zB_uB, zB_uR, zB_uN, zR_uI, zR_uJ, zR_uA, zR_uB, zR_uR, zR_uN, zN_uI, zN_uJ, zN_uA, zN_uB, zN_uR, zN_uN, zI_ne, zJ_ne, zA_ne, zB_ne, zR_ne, zN_ne, bi_T, bi_F, nz16, ↓reduceIte, not_true_eq_false, not_false_eq_true, Bool.false_eq_true, reduceCtorEq, h67, hab, h68, y1]
                exact nx'
              | true =>
                rw [z1] at y1 nx'
                rw [Bool.true_and]
                cases z2 : (pC h p j).testBit b with
                | false =>
                  rw [z2] at y2
                  rw [Bool.false_or]
                  simp (disch := omega) only [l0, l1, l2, l3, l4, l5, l6, l7, l8, l9, l10, l11, l12, l16, l18, l19, l20, l21, l24, l96, l128, l100, l144, l200, l256, l288, l1536, l1728, l1800, bnd, nI_add, pk_mul, pI_sub, pI_m1, pT_le, pF_le, pT_lt, pF_lt, pT_eq, pF_eq, pF_m1, mF_eq, mT_eq, mT_lt, mF_le, lm1, rd_nI, wr_nI, cl_nI, pk_us, un_ne, pk_uLs, uL_ne, zI_uI, zI_uJ, zI_uA, zI_uB, zI_uR, zI_uN, zJ_uI, zJ_uJ, zJ_uA, zJ_uB, zJ_uR, zJ_uN, zA_uI, zA_uJ, zA_uA, zA_uB, zA_uR, zA_uN, zB_uI, zB_uJ, zB_uA, zB_uB, zB_uR, zB_uN, zR_uI, zR_uJ, zR_uA, zR_uB, zR_uR, zR_uN, zN_uI, zN_uJ, zN_uA, zN_uB, zN_uR, zN_uN, zI_ne, zJ_ne, zA_ne, zB_ne, zR_ne, zN_ne, bi_T, bi_F, nz16, ↓reduceIte, not_true_eq_false, not_false_eq_true, Bool.false_eq_true, reduceCtorEq, h67, hab, h68, y1, h68j, y2]
                  exact nx'
                | true =>
                  rw [z2] at y2
                  rw [Bool.true_or, if_pos rfl]
                  simp (disch := omega) only [l0, l1, l2, l3, l4, l5, l6, l7, l8, l9, l10, l11, l12, l16, l18, l19, l20, l21, l24, l96, l128, l100, l144, l200, l256, l288, l1536, l1728, l1800, bnd, nI_add, pk_mul, pI_sub, pI_m1, pT_le, pF_le, pT_lt, pF_lt, pT_eq, pF_eq, pF_m1, mF_eq, mT_eq, mT_lt, mF_le, lm1, rd_nI, wr_nI, cl_nI, pk_us, un_ne, pk_uLs, uL_ne, zI_uI, zI_uJ, zI_uA, zI_uB, zI_uR, zI_uN, zJ_uI, zJ_uJ, zJ_uA, zJ_uB, zJ_uR, zJ_uN, zA_uI, zA_uJ, zA_uA, zA_uB, zA_uR, zA_uN, zB_uI, zB_uJ, zB_uA, zB_uB, zB_uR, zB_uN, zR_uI, zR_uJ, zR_uA, zR_uB, zR_uR, zR_uN, zN_uI, zN_uJ, zN_uA, zN_uB, zN_uR, zN_uN, zI_ne, zJ_ne, zA_ne, zB_ne, zR_ne, zN_ne, bi_T, bi_F, nz16, ↓reduceIte, not_true_eq_false, not_false_eq_true, Bool.false_eq_true, reduceCtorEq, h67, hab, h68, y1, h68j, y2]
            · rw [decide_eq_false hd, Bool.false_and, Bool.false_or]
              simp (disch := omega) only [l0, l1, l2, l3, l4, l5, l6, l7, l8, l9, l10, l11, l12, l16, l18, l19, l20, l21, l24, l96, l128, l100, l144, l200, l256, l288, l1536, l1728, l1800, bnd, nI_add, pk_mul, pI_sub, pI_m1, pT_le, pF_le, pT_lt, pF_lt, pT_eq, pF_eq, pF_m1, mF_eq, mT_eq, mT_lt, mF_le, lm1, rd_nI, wr_nI, cl_nI, pk_us, un_ne, pk_uLs, uL_ne, zI_uI, zI_uJ, zI_uA, zI_uB, zI_uR, zI_uN, zJ_uI, zJ_uJ, zJ_uA, zJ_uB, zJ_uR, zJ_uN, zA_uI, zA_uJ, zA_uA, zA_uB, zA_uR, zA_uN, zB_uI, zB_uJ, zB_uA, zB_uB, zB_uR, zB_uN, zR_uI, zR_uJ, zR_uA, zR_uB, zR_uR, zR_uN, zN_uI, zN_uJ, zN_uA, zN_uB, zN_uR, zN_uN, zI_ne, zJ_ne, zA_ne, zB_ne, zR_ne, zN_ne, bi_T, bi_F, nz16, ↓reduceIte, not_true_eq_false, not_false_eq_true, Bool.false_eq_true, reduceCtorEq, h67, hab]
              exact nx'
  · rw [decide_eq_false he, Bool.false_and]
    have e2 : (bi ((pBy h).testBit a) = bi ((pBy h).testBit b)) = False := eq_false (fun x => he (by
      cases h1 : (pBy h).testBit a <;> cases h2 : (pBy h).testBit b <;> rw [h1, h2] at x <;> first | rfl | exact absurd x (by decide)))
    simp (disch := omega) only [l0, l1, l2, l3, l4, l5, l6, l7, l8, l9, l10, l11, l12, l16, l18, l19, l20, l21, l24, l96, l128, l100, l144, l200, l256, l288, l1536, l1728, l1800, bnd, nI_add, pk_mul, pI_sub, pI_m1, pT_le, pF_le, pT_lt, pF_lt, pT_eq, pF_eq, pF_m1, mF_eq, mT_eq, mT_lt, mF_le, lm1, rd_nI, wr_nI, cl_nI, pk_us, un_ne, pk_uLs, uL_ne, zI_uI, zI_uJ, zI_uA, zI_uB, zI_uR, zI_uN, zJ_uI, zJ_uJ, zJ_uA, zJ_uB, zJ_uR, zJ_uN, zA_uI, zA_uJ, zA_uA, zA_uB, zA_uR, zA_uN, zB_uI, zB_uJ, zB_uA, zB_uB, zB_uR, zB_uN, zR_uI, zR_uJ, zR_uA, zR_uB, zR_uR, zR_uN, zN_uI, zN_uJ, zN_uA, zN_uB, zN_uR, zN_uN, zI_ne, zJ_ne, zA_ne, zB_ne, zR_ne, zN_ne, bi_T, bi_F, nz16, ↓reduceIte, not_true_eq_false, not_false_eq_true, Bool.false_eq_true, reduceCtorEq, h50, x1, x2, e2]
