/-! coats: both stores; bars, cast, could -/
def KC (h : Gp) (p c a b : Nat) : Bool := decide ((pBy h).testBit a ≠ (pBy h).testBit b) || bz h p c a b
theorem bz_sym {σ : St} {h : Gp} (k : TI σ h) {p c a b : Nat} (hp : p < pN h) : bz h p c a b = bz h p c b a := by
  rw [bz_any k hp, bz_any k hp, Bool.eq_iff_iff, List.any_eq_true, List.any_eq_true]
  have half : ∀ x y : Nat, (∃ i, i ∈ List.range (pS h p) ∧ (List.range (pS h p)).any (fun j => decide ((if i < j then j - i else i - j) ≤ c) && ((pC h p i).testBit x && (pC h p j).testBit y)) = true) → ∃ i, i ∈ List.range (pS h p) ∧ (List.range (pS h p)).any (fun j => decide ((if i < j then j - i else i - j) ≤ c) && ((pC h p i).testBit y && (pC h p j).testBit x)) = true := by
    rintro x y ⟨i, hi, hx⟩
    rw [List.any_eq_true] at hx
    obtain ⟨j, hj, hx⟩ := hx
    refine ⟨j, hj, ?_⟩
    rw [List.any_eq_true]
    refine ⟨i, hi, ?_⟩
    rw [Bool.and_eq_true, Bool.and_eq_true] at hx ⊢
    refine ⟨?_, hx.2.2, hx.2.1⟩
    have hd := of_decide_eq_true hx.1
    apply decide_eq_true
    split at hd <;> split <;> omega
  exact ⟨half a b, half b a⟩
/-- a set under 'those that may not have its coat' -/
theorem cla_I {S n B : Nat} (hS : S < 1024) (hB : B < 1024) : nI S &&& (nI n ||| (nI B ^^^ mI)) = nI (S &&& (n ||| (1023 ^^^ B))) := by
  have h1 : ∀ B, B < 1024 → (nI B ^^^ mI) &&& nI 1023 = nI (1023 ^^^ B) := by decide +kernel
  have h2 : nI S = nI S &&& nI 1023 := by
    rw [show (1023 : Nat) = 2 ^ 10 - 1 from rfl, fa_mask, Nat.mod_eq_of_lt hS]
  have h3 : ∀ x y z : Int32, x &&& (y ||| z) = (x &&& y) ||| (x &&& z) := by
    intro x y z
    apply b_ext
    intro i _
    rw [b_and, b_or, b_or, b_and, b_and]
    cases bt x i <;> cases bt y i <;> cases bt z i <;> rfl
  have h4 : nI S &&& (nI B ^^^ mI) = nI (S &&& (1023 ^^^ B)) := by
    conv => lhs; rw [h2]
    rw [Int32.and_assoc, Int32.and_comm (nI 1023), h1 B hB, fa_and]
  rw [h3, h4, fa_and, fa_or, Nat.and_or_distrib_left]
theorem c_isFree {σ : St} {S M p c : Nat} {K : Nat → Nat → Bool} {f : Nat → Nat} (hM : M < 1024) (hp : p < 10) (hc : c < 100) (hK : ∀ q, q < p → M.testBit q = (S.testBit q && K p q)) (hf : ∀ q, q < p → S.testBit q = true → zA σ 54 q = nI (f q) ∧ f q < 100) : fX4_isFree_54 σ (nI M) (nI p) (nI c) = some (fr S K f p c) := by
  unfold fX4_isFree_54 fr
  have key := it_for (β := Unit) (body := fun (kb : Int32 → Option Bool) (x : Int32) => fX4_isFree_54_L3 (nI M) (nI p) (nI c) (fun v4 => kb v4) σ x) p (by omega) (fun i _ => nI i) (fun _ _ => True) (fun i _ z => z = some (((List.range p).drop i).all (fun q => !(S.testBit q && (K p q && decide (f q = c)))))) ?_ 0 () (Nat.zero_le _) trivial
  · exact key
  · intro i _ hi _ kb hkb
    show fX4_isFree_54_L3 _ _ _ _ _ (nI i) = _
    unfold fX4_isFree_54_L3
    by_cases hin : i = p
    · have e1 : (List.range p).drop i = [] := List.drop_of_length_le (by rw [List.length_range]; omega)
      rw [e1, hin]
      simp (disch := omega) only [l0, l1, l2, l3, l4, l5, l6, l7, l8, l9, l10, l11, l12, l16, l18, l19, l20, l21, l24, l96, l128, l100, l144, l200, l256, l288, l1536, l1728, l1800, bnd, nI_add, pk_mul, pI_sub, pI_m1, pT_le, pF_le, pT_lt, pF_lt, pT_eq, pF_eq, pF_m1, mF_eq, mT_eq, mT_lt, mF_le, lm1, rd_nI, wr_nI, cl_nI, pk_us, un_ne, pk_uLs, uL_ne, zI_uI, zI_uJ, zI_uA, zI_uB, zI_uR, zI_uN, zJ_uI, zJ_uJ, zJ_uA, zJ_uB, zJ_uR, zJ_uN, zA_uI, zA_uJ, zA_uA, zA_uB, zA_uR, zA_uN, zB_uI, zB_uJ, zB_uA, zB_uB, zB_uR, zB_uN, zR_uI, zR_uJ, zR_uA, zR_uB, zR_uR, zR_uN, zN_uI, zN_uJ, zN_uA, zN_uB, zN_uR, zN_uN, zI_ne, zJ_ne, zA_ne, zB_ne, zR_ne, zN_ne, bi_T, bi_F, nz16, ↓reduceIte, not_true_eq_false, not_false_eq_true, Bool.false_eq_true, reduceCtorEq]
      rfl
    · have nx := hkb () (by omega) trivial
      have hin2 := c4_isIn (t := M) (r := i) (by omega) (by omega)
      rw [hK i (by omega)] at hin2
      rw [rng_drop (by omega), List.all_cons]
      cases h1 : S.testBit i with
      | false =>
        rw [h1, Bool.false_and] at hin2
        rw [Bool.false_and, Bool.not_false, Bool.true_and]
        simp (disch := omega) only [l0, l1, l2, l3, l4, l5, l6, l7, l8, l9, l10, l11, l12, l16, l18, l19, l20, l21, l24, l96, l128, l100, l144, l200, l256, l288, l1536, l1728, l1800, bnd, nI_add, pk_mul, pI_sub, pI_m1, pT_le, pF_le, pT_lt, pF_lt, pT_eq, pF_eq, pF_m1, mF_eq, mT_eq, mT_lt, mF_le, lm1, rd_nI, wr_nI, cl_nI, pk_us, un_ne, pk_uLs, uL_ne, zI_uI, zI_uJ, zI_uA, zI_uB, zI_uR, zI_uN, zJ_uI, zJ_uJ, zJ_uA, zJ_uB, zJ_uR, zJ_uN, zA_uI, zA_uJ, zA_uA, zA_uB, zA_uR, zA_uN, zB_uI, zB_uJ, zB_uA, zB_uB, zB_uR, zB_uN, zR_uI, zR_uJ, zR_uA, zR_uB, zR_uR, zR_uN, zN_uI, zN_uJ, zN_uA, zN_uB, zN_uR, zN_uN, zI_ne, zJ_ne, zA_ne, zB_ne, zR_ne, zN_ne, bi_T, bi_F, nz16, ↓reduceIte, not_true_eq_false, not_false_eq_true, Bool.false_eq_true, reduceCtorEq, hin2]
        exact nx
      | true =>
        rw [h1, Bool.true_and] at hin2
        rw [Bool.true_and]
        cases h2 : K p i with
        | false =>
          rw [h2] at hin2
          rw [Bool.false_and, Bool.not_false, Bool.true_and]
          simp (disch := omega) only [l0, l1, l2, l3, l4, l5, l6, l7, l8, l9, l10, l11, l12, l16, l18, l19, l20, l21, l24, l96, l128, l100, l144, l200, l256, l288, l1536, l1728, l1800, bnd, nI_add, pk_mul, pI_sub, pI_m1, pT_le, pF_le, pT_lt, pF_lt, pT_eq, pF_eq, pF_m1, mF_eq, mT_eq, mT_lt, mF_le, lm1, rd_nI, wr_nI, cl_nI, pk_us, un_ne, pk_uLs, uL_ne, zI_uI, zI_uJ, zI_uA, zI_uB, zI_uR, zI_uN, zJ_uI, zJ_uJ, zJ_uA, zJ_uB, zJ_uR, zJ_uN, zA_uI, zA_uJ, zA_uA, zA_uB, zA_uR, zA_uN, zB_uI, zB_uJ, zB_uA, zB_uB, zB_uR, zB_uN, zR_uI, zR_uJ, zR_uA, zR_uB, zR_uR, zR_uN, zN_uI, zN_uJ, zN_uA, zN_uB, zN_uR, zN_uN, zI_ne, zJ_ne, zA_ne, zB_ne, zR_ne, zN_ne, bi_T, bi_F, nz16, ↓reduceIte, not_true_eq_false, not_false_eq_true, Bool.false_eq_true, reduceCtorEq, hin2]
          exact nx
        | true =>
          rw [h2] at hin2
          rw [Bool.true_and]
          have hfi := hf i (by omega) h1
          have hfl := hfi.2
          by_cases h3 : f i = c
          · rw [decide_eq_true h3, Bool.not_true, Bool.false_and]
            have e3 : (nI (f i) = nI c) = True := eq_true (by rw [h3])
            simp (disch := omega) only [l0, l1, l2, l3, l4, l5, l6, l7, l8, l9, l10, l11, l12, l16, l18, l19, l20, l21, l24, l96, l128, l100, l144, l200, l256, l288, l1536, l1728, l1800, bnd, nI_add, pk_mul, pI_sub, pI_m1, pT_le, pF_le, pT_lt, pF_lt, pT_eq, pF_eq, pF_m1, mF_eq, mT_eq, mT_lt, mF_le, lm1, rd_nI, wr_nI, cl_nI, pk_us, un_ne, pk_uLs, uL_ne, zI_uI, zI_uJ, zI_uA, zI_uB, zI_uR, zI_uN, zJ_uI, zJ_uJ, zJ_uA, zJ_uB, zJ_uR, zJ_uN, zA_uI, zA_uJ, zA_uA, zA_uB, zA_uR, zA_uN, zB_uI, zB_uJ, zB_uA, zB_uB, zB_uR, zB_uN, zR_uI, zR_uJ, zR_uA, zR_uB, zR_uR, zR_uN, zN_uI, zN_uJ, zN_uA, zN_uB, zN_uR, zN_uN, zI_ne, zJ_ne, zA_ne, zB_ne, zR_ne, zN_ne, bi_T, bi_F, nz16, ↓reduceIte, not_true_eq_false, not_false_eq_true, Bool.false_eq_true, reduceCtorEq, hin2, hfi.1, e3]
          · rw [decide_eq_false h3, Bool.not_false, Bool.true_and]
            have e3 : (nI (f i) = nI c) = False := pF_eq h3 (by omega) (by omega)
            simp (disch := omega) only [l0, l1, l2, l3, l4, l5, l6, l7, l8, l9, l10, l11, l12, l16, l18, l19, l20, l21, l24, l96, l128, l100, l144, l200, l256, l288, l1536, l1728, l1800, bnd, nI_add, pk_mul, pI_sub, pI_m1, pT_le, pF_le, pT_lt, pF_lt, pT_eq, pF_eq, pF_m1, mF_eq, mT_eq, mT_lt, mF_le, lm1, rd_nI, wr_nI, cl_nI, pk_us, un_ne, pk_uLs, uL_ne, zI_uI, zI_uJ, zI_uA, zI_uB, zI_uR, zI_uN, zJ_uI, zJ_uJ, zJ_uA, zJ_uB, zJ_uR, zJ_uN, zA_uI, zA_uJ, zA_uA, zA_uB, zA_uR, zA_uN, zB_uI, zB_uJ, zB_uA, zB_uB, zB_uR, zB_uN, zR_uI, zR_uJ, zR_uA, zR_uB, zR_uR, zR_uN, zN_uI, zN_uJ, zN_uA, zN_uB, zN_uR, zN_uN, zI_ne, zJ_ne, zA_ne, zB_ne, zR_ne, zN_ne, bi_T, bi_F, nz16, ↓reduceIte, not_true_eq_false, not_false_eq_true, Bool.false_eq_true, reduceCtorEq, hin2, hfi.1, e3]
            exact nx
/-- what a search leaves in a row of coats -/
def fits2 (S : Nat) (z : Nat → Int32) (r : Option (Nat → Nat)) : Prop := ∀ g, r = some g → ∀ q, q < 10 → S.testBit q = true → z q = nI (g q) ∧ g q < 100
theorem c_dress {S m : Nat} {K : Nat → Nat → Bool} (hS : S < 1024) (hm : m ≤ 10) (cl : Nat → Nat) (hcl : ∀ a, a < 10 → S &&& cl a < 1024 ∧ ∀ q, q < a → (S &&& cl a).testBit q = (S.testBit q && K a q)) : ∀ n, n ≤ 10 → ∀ d, n < d → ∀ (σ : St) (w : Nat) (f : Nat → Nat), w ≤ 10 → (∀ a, a < 10 → S.testBit a = true → nI S &&& zA σ 53 a = nI (S &&& cl a)) → (∀ q, q < 10 - n → S.testBit q = true → zA σ 54 q = nI (f q) ∧ f q < 100) → ∃ z, fX4_dress_53_54 d σ (nI S) (nI (10 - n)) (nI w) (nI m) = some ((d1 S m K n w f).isSome, uA σ 54 z) ∧ (∀ q, q < 10 - n → z q = zA σ 54 q) ∧ fits2 S z (d1 S m K n w f) := by
  intro n
  induction n with
  | zero =>
    intro _ d hd σ w f _ _ hf
    obtain ⟨e, rfl⟩ : ∃ e, d = e + 1 := ⟨d - 1, by omega⟩
    refine ⟨zA σ 54, ?_, fun _ _ => rfl, fun g hg q hq hq2 => ?_⟩
    · rw [uA_self]
      show fX4_dress_53_54_B (fX4_dress_53_54 e) σ _ _ _ _ = _
      unfold fX4_dress_53_54_B
      simp (disch := omega) only [l0, l1, l2, l3, l4, l5, l6, l7, l8, l9, l10, l11, l12, l16, l18, l19, l20, l21, l24, l96, l128, l100, l144, l200, l256, l288, l1536, l1728, l1800, bnd, nI_add, pk_mul, pI_sub, pI_m1, pT_le, pF_le, pT_lt, pF_lt, pT_eq, pF_eq, pF_m1, mF_eq, mT_eq, mT_lt, mF_le, lm1, rd_nI, wr_nI, cl_nI, pk_us, un_ne, pk_uLs, uL_ne, zI_uI, zI_uJ, zI_uA, zI_uB, zI_uR, zI_uN, zJ_uI, zJ_uJ, zJ_uA, zJ_uB, zJ_uR, zJ_uN, zA_uI, zA_uJ, zA_uA, zA_uB, zA_uR, zA_uN, zB_uI, zB_uJ, zB_uA, zB_uB, zB_uR, zB_uN, zR_uI, zR_uJ, zR_uA, zR_uB, zR_uR, zR_uN, zN_uI, zN_uJ, zN_uA, zN_uB, zN_uR, zN_uN, zI_ne, zJ_ne, zA_ne, zB_ne, zR_ne, zN_ne, bi_T, bi_F, nz16, ↓reduceIte, not_true_eq_false, not_false_eq_true, Bool.false_eq_true, reduceCtorEq]
      rfl
    · cases hg
      exact hf q (by omega) hq2
  | succ n ih =>
    intro hn d hd σ w f hw h53 hf
    obtain ⟨e, rfl⟩ : ∃ e, d = e + 1 := ⟨d - 1, by omega⟩
    have ih := ih (by omega) e (by omega)
    have e9 : 10 - (n + 1) = 9 - n := by omega
    have e10 : 10 - n = 9 - n + 1 := by omega
    rw [e9] at hf ⊢
    rw [e10] at ih
    rw [d1]
    have hp10 : 9 - n < 10 := by omega
    generalize hp : 9 - n = p at *
    show ∃ z, fX4_dress_53_54_B (fX4_dress_53_54 e) σ _ _ _ _ = _ ∧ _
    unfold fX4_dress_53_54_B
    have hin := c4_isIn (t := S) (r := p) (by omega) (by omega)
    cases hb : S.testBit p with
    | false =>
      rw [hb] at hin
      rw [if_neg Bool.false_ne_true]
      obtain ⟨z, z1, z2, z3⟩ := ih σ w f hw h53 (fun q hq hq2 => by
        by_cases e : q = p
        · rw [e, hb] at hq2; cases hq2
        · exact hf q (by omega) hq2)
      refine ⟨z, ?_, fun q hq => z2 q (by omega), z3⟩
      simp (disch := omega) only [l0, l1, l2, l3, l4, l5, l6, l7, l8, l9, l10, l11, l12, l16, l18, l19, l20, l21, l24, l96, l128, l100, l144, l200, l256, l288, l1536, l1728, l1800, bnd, nI_add, pk_mul, pI_sub, pI_m1, pT_le, pF_le, pT_lt, pF_lt, pT_eq, pF_eq, pF_m1, mF_eq, mT_eq, mT_lt, mF_le, lm1, rd_nI, wr_nI, cl_nI, pk_us, un_ne, pk_uLs, uL_ne, zI_uI, zI_uJ, zI_uA, zI_uB, zI_uR, zI_uN, zJ_uI, zJ_uJ, zJ_uA, zJ_uB, zJ_uR, zJ_uN, zA_uI, zA_uJ, zA_uA, zA_uB, zA_uR, zA_uN, zB_uI, zB_uJ, zB_uA, zB_uB, zB_uR, zB_uN, zR_uI, zR_uJ, zR_uA, zR_uB, zR_uR, zR_uN, zN_uI, zN_uJ, zN_uA, zN_uB, zN_uR, zN_uN, zI_ne, zJ_ne, zA_ne, zB_ne, zR_ne, zN_ne, bi_T, bi_F, nz16, ↓reduceIte, not_true_eq_false, not_false_eq_true, Bool.false_eq_true, reduceCtorEq, hin, z1]
    | true =>
      rw [hb] at hin
      rw [if_pos rfl]
      have hcp := hcl p hp10
      have h53p := h53 p hp10 hb
      obtain ⟨F, hF⟩ : ∃ F : Nat → Option (Nat → Nat), F = fun c => if fr S K f p c = true then d1 S m K n (max w (c + 1)) (up f p c) else none := ⟨_, rfl⟩
      rw [← hF]
      have key := it_for (β := Nat → Int32) (body := fun (kb : (St × Int32) → Option (Bool × St)) (x : St × Int32) => fX4_dress_53_54_L39 (fX4_dress_53_54 e) (nI S) (nI p) (nI w) (nI m) (fun σ v6 => kb (σ, v6)) x.1 x.2) (min (w + 1) m) (by omega) (fun i b => (uA σ 54 b, nI i)) (fun _ b => ∀ q, q < p → b q = zA σ 54 q) (fun i b y => ∃ z, y = some ((((List.range (min (w + 1) m)).drop i).findSome? F).isSome, uA σ 54 z) ∧ (∀ q, q < p → z q = zA σ 54 q) ∧ fits2 S z (((List.range (min (w + 1) m)).drop i).findSome? F)) ?_ 0 (zA σ 54) (Nat.zero_le _) (fun _ _ => rfl)
      · rw [List.drop_zero, uA_self] at key
        obtain ⟨z, z1, z2, z3⟩ := key
        refine ⟨z, ?_, z2, z3⟩
        simp (disch := omega) only [l0, l1, l2, l3, l4, l5, l6, l7, l8, l9, l10, l11, l12, l16, l18, l19, l20, l21, l24, l96, l128, l100, l144, l200, l256, l288, l1536, l1728, l1800, bnd, nI_add, pk_mul, pI_sub, pI_m1, pT_le, pF_le, pT_lt, pF_lt, pT_eq, pF_eq, pF_m1, mF_eq, mT_eq, mT_lt, mF_le, lm1, rd_nI, wr_nI, cl_nI, pk_us, un_ne, pk_uLs, uL_ne, zI_uI, zI_uJ, zI_uA, zI_uB, zI_uR, zI_uN, zJ_uI, zJ_uJ, zJ_uA, zJ_uB, zJ_uR, zJ_uN, zA_uI, zA_uJ, zA_uA, zA_uB, zA_uR, zA_uN, zB_uI, zB_uJ, zB_uA, zB_uB, zB_uR, zB_uN, zR_uI, zR_uJ, zR_uA, zR_uB, zR_uR, zR_uN, zN_uI, zN_uJ, zN_uA, zN_uB, zN_uR, zN_uN, zI_ne, zJ_ne, zA_ne, zB_ne, zR_ne, zN_ne, bi_T, bi_F, nz16, ↓reduceIte, not_true_eq_false, not_false_eq_true, Bool.false_eq_true, reduceCtorEq, hin]
        exact z1
      · intro i b hi hI kb hkb
        show ∃ z, fX4_dress_53_54_L39 _ _ _ _ _ _ (uA σ 54 b) (nI i) = _ ∧ _
        unfold fX4_dress_53_54_L39
        by_cases hin2 : i = min (w + 1) m
        · have e1 : (List.range (min (w + 1) m)).drop i = [] := List.drop_of_length_le (by rw [List.length_range]; omega)
          rw [e1]
          refine ⟨b, ?_, hI, fun g hg => by cases hg⟩
          by_cases hwi : w < i
          · simp (disch := omega) only [l0, l1, l2, l3, l4, l5, l6, l7, l8, l9, l10, l11, l12, l16, l18, l19, l20, l21, l24, l96, l128, l100, l144, l200, l256, l288, l1536, l1728, l1800, bnd, nI_add, pk_mul, pI_sub, pI_m1, pT_le, pF_le, pT_lt, pF_lt, pT_eq, pF_eq, pF_m1, mF_eq, mT_eq, mT_lt, mF_le, lm1, rd_nI, wr_nI, cl_nI, pk_us, un_ne, pk_uLs, uL_ne, zI_uI, zI_uJ, zI_uA, zI_uB, zI_uR, zI_uN, zJ_uI, zJ_uJ, zJ_uA, zJ_uB, zJ_uR, zJ_uN, zA_uI, zA_uJ, zA_uA, zA_uB, zA_uR, zA_uN, zB_uI, zB_uJ, zB_uA, zB_uB, zB_uR, zB_uN, zR_uI, zR_uJ, zR_uA, zR_uB, zR_uR, zR_uN, zN_uI, zN_uJ, zN_uA, zN_uB, zN_uR, zN_uN, zI_ne, zJ_ne, zA_ne, zB_ne, zR_ne, zN_ne, bi_T, bi_F, nz16, ↓reduceIte, not_true_eq_false, not_false_eq_true, Bool.false_eq_true, reduceCtorEq]
            rfl
          · have hmi : m ≤ i := by omega
            simp (disch := omega) only [l0, l1, l2, l3, l4, l5, l6, l7, l8, l9, l10, l11, l12, l16, l18, l19, l20, l21, l24, l96, l128, l100, l144, l200, l256, l288, l1536, l1728, l1800, bnd, nI_add, pk_mul, pI_sub, pI_m1, pT_le, pF_le, pT_lt, pF_lt, pT_eq, pF_eq, pF_m1, mF_eq, mT_eq, mT_lt, mF_le, lm1, rd_nI, wr_nI, cl_nI, pk_us, un_ne, pk_uLs, uL_ne, zI_uI, zI_uJ, zI_uA, zI_uB, zI_uR, zI_uN, zJ_uI, zJ_uJ, zJ_uA, zJ_uB, zJ_uR, zJ_uN, zA_uI, zA_uJ, zA_uA, zA_uB, zA_uR, zA_uN, zB_uI, zB_uJ, zB_uA, zB_uB, zB_uR, zB_uN, zR_uI, zR_uJ, zR_uA, zR_uB, zR_uR, zR_uN, zN_uI, zN_uJ, zN_uA, zN_uB, zN_uR, zN_uN, zI_ne, zJ_ne, zA_ne, zB_ne, zR_ne, zN_ne, bi_T, bi_F, nz16, ↓reduceIte, not_true_eq_false, not_false_eq_true, Bool.false_eq_true, reduceCtorEq]
            rfl
        · have hfree := c_isFree (σ := uA σ 54 b) (c := i) (K := K) (f := f) hcp.1 hp10 (by omega) hcp.2 (fun q hq hq2 => by rw [zA_uA, hI q hq]; exact hf q hq hq2)
          rw [rng_drop (by omega), List.findSome?_cons]
          have hFi : F i = if fr S K f p i = true then d1 S m K n (max w (i + 1)) (up f p i) else none := by rw [hF]
          cases hfr : fr S K f p i with
          | false =>
            rw [hfr] at hfree hFi
            rw [if_neg (by decide)] at hFi
            rw [hFi]
            obtain ⟨z, z1, z2, z3⟩ := hkb b (by omega) hI
            refine ⟨z, ?_, z2, z3⟩
            simp (disch := omega) only [l0, l1, l2, l3, l4, l5, l6, l7, l8, l9, l10, l11, l12, l16, l18, l19, l20, l21, l24, l96, l128, l100, l144, l200, l256, l288, l1536, l1728, l1800, bnd, nI_add, pk_mul, pI_sub, pI_m1, pT_le, pF_le, pT_lt, pF_lt, pT_eq, pF_eq, pF_m1, mF_eq, mT_eq, mT_lt, mF_le, lm1, rd_nI, wr_nI, cl_nI, pk_us, un_ne, pk_uLs, uL_ne, zI_uI, zI_uJ, zI_uA, zI_uB, zI_uR, zI_uN, zJ_uI, zJ_uJ, zJ_uA, zJ_uB, zJ_uR, zJ_uN, zA_uI, zA_uJ, zA_uA, zA_uB, zA_uR, zA_uN, zB_uI, zB_uJ, zB_uA, zB_uB, zB_uR, zB_uN, zR_uI, zR_uJ, zR_uA, zR_uB, zR_uR, zR_uN, zN_uI, zN_uJ, zN_uA, zN_uB, zN_uR, zN_uN, zI_ne, zJ_ne, zA_ne, zB_ne, zR_ne, zN_ne, bi_T, bi_F, nz16, ↓reduceIte, not_true_eq_false, not_false_eq_true, Bool.false_eq_true, reduceCtorEq, h53p, hfree]
            exact z1
          | true =>
            rw [hfr] at hfree hFi
            rw [if_pos rfl] at hFi
            have hwi : i ≤ w := by omega
            obtain ⟨z, z1, z2, z3⟩ := ih (uA σ 54 (upd b p (nI i))) (max w (i + 1)) (up f p i) (by omega) h53 (fun q hq hq2 => by
              rw [zA_uA]
              by_cases e : q = p
              · rw [e, pk_us, up_self]; exact ⟨rfl, by omega⟩
              · rw [pk_un e, up_ne _ e, hI q (by omega)]; exact hf q (by omega) hq2)
            rw [uA_uA] at z1
            rw [← hFi] at z1 z3
            have jm := jmax (a := w) (b := i + 1) (by omega) (by omega)
            have hz2 : ∀ q, q < p → z q = zA σ 54 q := fun q hq => by rw [z2 q (by omega), zA_uA, pk_un (by omega), hI q hq]
            cases hx : F i with
            | some g =>
              rw [hx] at z1 z3
              rw [Option.isSome_some] at z1
              refine ⟨z, ?_, hz2, fun g' hg' => z3 g' hg'⟩
              simp (disch := omega) only [l0, l1, l2, l3, l4, l5, l6, l7, l8, l9, l10, l11, l12, l16, l18, l19, l20, l21, l24, l96, l128, l100, l144, l200, l256, l288, l1536, l1728, l1800, bnd, nI_add, pk_mul, pI_sub, pI_m1, pT_le, pF_le, pT_lt, pF_lt, pT_eq, pF_eq, pF_m1, mF_eq, mT_eq, mT_lt, mF_le, lm1, rd_nI, wr_nI, cl_nI, pk_us, un_ne, pk_uLs, uL_ne, zI_uI, zI_uJ, zI_uA, zI_uB, zI_uR, zI_uN, zJ_uI, zJ_uJ, zJ_uA, zJ_uB, zJ_uR, zJ_uN, zA_uI, zA_uJ, zA_uA, zA_uB, zA_uR, zA_uN, zB_uI, zB_uJ, zB_uA, zB_uB, zB_uR, zB_uN, zR_uI, zR_uJ, zR_uA, zR_uB, zR_uR, zR_uN, zN_uI, zN_uJ, zN_uA, zN_uB, zN_uR, zN_uN, zI_ne, zJ_ne, zA_ne, zB_ne, zR_ne, zN_ne, bi_T, bi_F, nz16, ↓reduceIte, not_true_eq_false, not_false_eq_true, Bool.false_eq_true, reduceCtorEq, h53p, hfree, uA_uA, jm, z1, Option.isSome_some]
            | none =>
              rw [hx] at z1
              rw [Option.isSome_none] at z1
              obtain ⟨z', y1, y2, y3⟩ := hkb z (by omega) hz2
              refine ⟨z', ?_, y2, y3⟩
              simp (disch := omega) only [l0, l1, l2, l3, l4, l5, l6, l7, l8, l9, l10, l11, l12, l16, l18, l19, l20, l21, l24, l96, l128, l100, l144, l200, l256, l288, l1536, l1728, l1800, bnd, nI_add, pk_mul, pI_sub, pI_m1, pT_le, pF_le, pT_lt, pF_lt, pT_eq, pF_eq, pF_m1, mF_eq, mT_eq, mT_lt, mF_le, lm1, rd_nI, wr_nI, cl_nI, pk_us, un_ne, pk_uLs, uL_ne, zI_uI, zI_uJ, zI_uA, zI_uB, zI_uR, zI_uN, zJ_uI, zJ_uJ, zJ_uA, zJ_uB, zJ_uR, zJ_uN, zA_uI, zA_uJ, zA_uA, zA_uB, zA_uR, zA_uN, zB_uI, zB_uJ, zB_uA, zB_uB, zB_uR, zB_uN, zR_uI, zR_uJ, zR_uA, zR_uB, zR_uR, zR_uN, zN_uI, zN_uJ, zN_uA, zN_uB, zN_uR, zN_uN, zI_ne, zJ_ne, zA_ne, zB_ne, zR_ne, zN_ne, bi_T, bi_F, nz16, ↓reduceIte, not_true_eq_false, not_false_eq_true, Bool.false_eq_true, reduceCtorEq, h53p, hfree, uA_uA, jm, z1]
              exact y1
theorem m_free {σ : St} {h : Gp} (k : TI σ h) {p c S a co : Nat} {f : Nat → Nat} (hp : p < pN h) (hc : c ≤ 3) (ha : a < 10) (hS : S < 1024) (hco : co < 100) (hf : ∀ q, q < a → S.testBit q = true → zA σ 82 q = nI (f q) ∧ f q < 100) (rec : St → Int32 → Int32 → Int32 → Int32 → Int32 → Option (Bool × St)) (v4 : Int32) (k1 : Int32 → Option (Bool × St)) : fX12_dress_P46 rec (nI p) (nI S) (nI a) v4 (nI c) (nI co) k1 σ (nI 1) (nI 0) = k1 (bi (fr S (KC h p c) f a co)) := by
  have h50 := k.2.2.2.2.2.2
  have hby := k.2.2.2.2.1
  have key := it_for (β := Bool) (body := fun (kb : (Int32 × Int32) → Option (Bool × St)) (x : Int32 × Int32) => fX12_dress_L46 rec (nI p) (nI S) (nI a) v4 (nI c) (nI co) k1 (fun v7 v8 => kb (v7, v8)) σ x.1 x.2) a (by omega) (fun i b => (bi b, nI i)) (fun i b => (b && ((List.range a).drop i).all (fun q => !(S.testBit q && (KC h p c a q && decide (f q = co))))) = fr S (KC h p c) f a co) (fun i b z => z = k1 (bi (fr S (KC h p c) f a co))) ?_ 0 true (Nat.zero_le _) rfl
  · exact key
  · intro i b hi hI kb hkb
    show fX12_dress_L46 _ _ _ _ _ _ _ _ _ _ (bi b) (nI i) = _
    unfold fX12_dress_L46
    by_cases hin : i = a
    · have e1 : (List.range a).drop i = [] := List.drop_of_length_le (by rw [List.length_range]; omega)
      rw [e1, List.all_nil, Bool.and_true] at hI
      rw [hI]
      simp (disch := omega) only [l0, l1, l2, l3, l4, l5, l6, l7, l8, l9, l10, l11, l12, l16, l18, l19, l20, l21, l24, l96, l128, l100, l144, l200, l256, l288, l1536, l1728, l1800, bnd, nI_add, pk_mul, pI_sub, pI_m1, pT_le, pF_le, pT_lt, pF_lt, pT_eq, pF_eq, pF_m1, mF_eq, mT_eq, mT_lt, mF_le, lm1, rd_nI, wr_nI, cl_nI, pk_us, un_ne, pk_uLs, uL_ne, zI_uI, zI_uJ, zI_uA, zI_uB, zI_uR, zI_uN, zJ_uI, zJ_uJ, zJ_uA, zJ_uB, zJ_uR, zJ_uN, zA_uI, zA_uJ, zA_uA, zA_uB, zA_uR, zA_uN, zB_uI, zB_uJ, zB_uA, zB_uB, zB_uR, zB_uN, zR_uI, zR_uJ, zR_uA, zR_uB, zR_uR, zR_uN, zN_uI, zN_uJ, zN_uA, zN_uB, zN_uR, zN_uN, zI_ne, zJ_ne, zA_ne, zB_ne, zR_ne, zN_ne, bi_T, bi_F, nz16, ↓reduceIte, not_true_eq_false, not_false_eq_true, Bool.false_eq_true, reduceCtorEq]
    · rw [rng_drop (by omega), List.all_cons, ← Bool.and_assoc] at hI
      cases b with
      | false =>
        rw [Bool.false_and] at hI
        have nx := hkb false (by omega) hI
        simp (disch := omega) only [l0, l1, l2, l3, l4, l5, l6, l7, l8, l9, l10, l11, l12, l16, l18, l19, l20, l21, l24, l96, l128, l100, l144, l200, l256, l288, l1536, l1728, l1800, bnd, nI_add, pk_mul, pI_sub, pI_m1, pT_le, pF_le, pT_lt, pF_lt, pT_eq, pF_eq, pF_m1, mF_eq, mT_eq, mT_lt, mF_le, lm1, rd_nI, wr_nI, cl_nI, pk_us, un_ne, pk_uLs, uL_ne, zI_uI, zI_uJ, zI_uA, zI_uB, zI_uR, zI_uN, zJ_uI, zJ_uJ, zJ_uA, zJ_uB, zJ_uR, zJ_uN, zA_uI, zA_uJ, zA_uA, zA_uB, zA_uR, zA_uN, zB_uI, zB_uJ, zB_uA, zB_uB, zB_uR, zB_uN, zR_uI, zR_uJ, zR_uA, zR_uB, zR_uR, zR_uN, zN_uI, zN_uJ, zN_uA, zN_uB, zN_uR, zN_uN, zI_ne, zJ_ne, zA_ne, zB_ne, zR_ne, zN_ne, bi_T, bi_F, nz16, ↓reduceIte, not_true_eq_false, not_false_eq_true, Bool.false_eq_true, reduceCtorEq]
        exact nx
      | true =>
        rw [Bool.true_and] at hI
        have x0 := m_has (t := S) (r := i) (by omega) (by omega)
        cases h1 : S.testBit i with
        | false =>
          rw [h1] at x0 hI
          have nx := hkb true (by omega) hI
          simp (disch := omega) only [l0, l1, l2, l3, l4, l5, l6, l7, l8, l9, l10, l11, l12, l16, l18, l19, l20, l21, l24, l96, l128, l100, l144, l200, l256, l288, l1536, l1728, l1800, bnd, nI_add, pk_mul, pI_sub, pI_m1, pT_le, pF_le, pT_lt, pF_lt, pT_eq, pF_eq, pF_m1, mF_eq, mT_eq, mT_lt, mF_le, lm1, rd_nI, wr_nI, cl_nI, pk_us, un_ne, pk_uLs, uL_ne, zI_uI, zI_uJ, zI_uA, zI_uB, zI_uR, zI_uN, zJ_uI, zJ_uJ, zJ_uA, zJ_uB, zJ_uR, zJ_uN, zA_uI, zA_uJ, zA_uA, zA_uB, zA_uR, zA_uN, zB_uI, zB_uJ, zB_uA, zB_uB, zB_uR, zB_uN, zR_uI, zR_uJ, zR_uA, zR_uB, zR_uR, zR_uN, zN_uI, zN_uJ, zN_uA, zN_uB, zN_uR, zN_uN, zI_ne, zJ_ne, zA_ne, zB_ne, zR_ne, zN_ne, bi_T, bi_F, nz16, ↓reduceIte, not_true_eq_false, not_false_eq_true, Bool.false_eq_true, reduceCtorEq, x0]
          exact nx
        | true =>
          rw [h1, Bool.true_and] at hI
          rw [h1] at x0
          have hfi := hf i (by omega) h1
          have hfl := hfi.2
          by_cases h2 : f i = co
          · rw [decide_eq_true h2, Bool.and_true] at hI
            have e2 : (nI (f i) = nI co) = True := eq_true (by rw [h2])
            have x1 := m_has (t := pBy h) (r := i) (by omega) (by omega)
            have x2 := m_has (t := pBy h) (r := a) (by omega) (by omega)
            have hb := m_barsIt k (a := i) (b := a) hp hc (by omega) ha
            unfold KC at hI
            by_cases he : (pBy h).testBit a = (pBy h).testBit i
            · rw [decide_eq_false (fun x => x he), Bool.false_or, bz_sym k hp] at hI
              rw [decide_eq_true he.symm, Bool.true_and] at hb
              have e3 : (bi ((pBy h).testBit i) = bi ((pBy h).testBit a)) = True := eq_true (by rw [he])
              cases hz : bz h p c i a with
              | true =>
                rw [hz] at hb hI
                have nx := hkb false (by omega) hI
                simp (disch := omega) only [l0, l1, l2, l3, l4, l5, l6, l7, l8, l9, l10, l11, l12, l16, l18, l19, l20, l21, l24, l96, l128, l100, l144, l200, l256, l288, l1536, l1728, l1800, bnd, nI_add, pk_mul, pI_sub, pI_m1, pT_le, pF_le, pT_lt, pF_lt, pT_eq, pF_eq, pF_m1, mF_eq, mT_eq, mT_lt, mF_le, lm1, rd_nI, wr_nI, cl_nI, pk_us, un_ne, pk_uLs, uL_ne, zI_uI, zI_uJ, zI_uA, zI_uB, zI_uR, zI_uN, zJ_uI, zJ_uJ, zJ_uA, zJ_uB, zJ_uR, zJ_uN, zA_uI, zA_uJ, zA_uA, zA_uB, zA_uR, zA_uN, zB_uI, zB_uJ, zB_uA, zB_uB, zB_uR, zB_uN, zR_uI, zR_uJ, zR_uA, zR_uB, zR_uR, zR_uN, zN_uI, zN_uJ, zN_uA, zN_uB, zN_uR, zN_uN, zI_ne, zJ_ne, zA_ne, zB_ne, zR_ne, zN_ne, bi_T, bi_F, nz16, ↓reduceIte, not_true_eq_false, not_false_eq_true, Bool.false_eq_true, reduceCtorEq, x0, hfi.1, e2, h50, x1, x2, e3, hb]
                exact nx
              | false =>
                rw [hz] at hb hI
                have nx := hkb true (by omega) hI
                simp (disch := omega) only [l0, l1, l2, l3, l4, l5, l6, l7, l8, l9, l10, l11, l12, l16, l18, l19, l20, l21, l24, l96, l128, l100, l144, l200, l256, l288, l1536, l1728, l1800, bnd, nI_add, pk_mul, pI_sub, pI_m1, pT_le, pF_le, pT_lt, pF_lt, pT_eq, pF_eq, pF_m1, mF_eq, mT_eq, mT_lt, mF_le, lm1, rd_nI, wr_nI, cl_nI, pk_us, un_ne, pk_uLs, uL_ne, zI_uI, zI_uJ, zI_uA, zI_uB, zI_uR, zI_uN, zJ_uI, zJ_uJ, zJ_uA, zJ_uB, zJ_uR, zJ_uN, zA_uI, zA_uJ, zA_uA, zA_uB, zA_uR, zA_uN, zB_uI, zB_uJ, zB_uA, zB_uB, zB_uR, zB_uN, zR_uI, zR_uJ, zR_uA, zR_uB, zR_uR, zR_uN, zN_uI, zN_uJ, zN_uA, zN_uB, zN_uR, zN_uN, zI_ne, zJ_ne, zA_ne, zB_ne, zR_ne, zN_ne, bi_T, bi_F, nz16, ↓reduceIte, not_true_eq_false, not_false_eq_true, Bool.false_eq_true, reduceCtorEq, x0, hfi.1, e2, h50, x1, x2, e3, hb]
                exact nx
            · rw [decide_eq_true he, Bool.true_or] at hI
              have e3 : (bi ((pBy h).testBit i) = bi ((pBy h).testBit a)) = False := eq_false (fun x => he (by
                cases h1 : (pBy h).testBit i <;> cases h2 : (pBy h).testBit a <;> rw [h1, h2] at x <;> first | rfl | exact absurd x (by decide)))
              have nx := hkb false (by omega) hI
              simp (disch := omega) only [l0, l1, l2, l3, l4, l5, l6, l7, l8, l9, l10, l11, l12, l16, l18, l19, l20, l21, l24, l96, l128, l100, l144, l200, l256, l288, l1536, l1728, l1800, bnd, nI_add, pk_mul, pI_sub, pI_m1, pT_le, pF_le, pT_lt, pF_lt, pT_eq, pF_eq, pF_m1, mF_eq, mT_eq, mT_lt, mF_le, lm1, rd_nI, wr_nI, cl_nI, pk_us, un_ne, pk_uLs, uL_ne, zI_uI, zI_uJ, zI_uA, zI_uB, zI_uR, zI_uN, zJ_uI, zJ_uJ, zJ_uA, zJ_uB, zJ_uR, zJ_uN, zA_uI, zA_uJ, zA_uA, zA_uB, zA_uR, zA_uN, zB_uI, zB_uJ, zB_uA, zB_uB, zB_uR, zB_uN, zR_uI, zR_uJ, zR_uA, zR_uB, zR_uR, zR_uN, zN_uI, zN_uJ, zN_uA, zN_uB, zN_uR, zN_uN, zI_ne, zJ_ne, zA_ne, zB_ne, zR_ne, zN_ne, bi_T, bi_F, nz16, ↓reduceIte, not_true_eq_false, not_false_eq_true, Bool.false_eq_true, reduceCtorEq, x0, hfi.1, e2, h50, x1, x2, e3]
              exact nx
          · rw [decide_eq_false h2, Bool.and_false] at hI
            have e2 : (nI (f i) = nI co) = False := pF_eq h2 (by omega) (by omega)
            have nx := hkb true (by omega) hI
            simp (disch := omega) only [l0, l1, l2, l3, l4, l5, l6, l7, l8, l9, l10, l11, l12, l16, l18, l19, l20, l21, l24, l96, l128, l100, l144, l200, l256, l288, l1536, l1728, l1800, bnd, nI_add, pk_mul, pI_sub, pI_m1, pT_le, pF_le, pT_lt, pF_lt, pT_eq, pF_eq, pF_m1, mF_eq, mT_eq, mT_lt, mF_le, lm1, rd_nI, wr_nI, cl_nI, pk_us, un_ne, pk_uLs, uL_ne, zI_uI, zI_uJ, zI_uA, zI_uB, zI_uR, zI_uN, zJ_uI, zJ_uJ, zJ_uA, zJ_uB, zJ_uR, zJ_uN, zA_uI, zA_uJ, zA_uA, zA_uB, zA_uR, zA_uN, zB_uI, zB_uJ, zB_uA, zB_uB, zB_uR, zB_uN, zR_uI, zR_uJ, zR_uA, zR_uB, zR_uR, zR_uN, zN_uI, zN_uJ, zN_uA, zN_uB, zN_uR, zN_uN, zI_ne, zJ_ne, zA_ne, zB_ne, zR_ne, zN_ne, bi_T, bi_F, nz16, ↓reduceIte, not_true_eq_false, not_false_eq_true, Bool.false_eq_true, reduceCtorEq, x0, hfi.1, e2]
            exact nx
theorem m_dress {S m : Nat} {h : Gp} {p c : Nat} (hS : S < 1024) (hm : m ≤ 10) (hp : p < pN h) (hc : c ≤ 3) : ∀ n, n ≤ 10 → ∀ d, n < d → ∀ (σ : St) (f : Nat → Nat), TI σ h → (∀ q, q < 10 - n → S.testBit q = true → zA σ 82 q = nI (f q) ∧ f q < 100) → ∃ z, fX12_dress d σ (nI p) (nI S) (nI (10 - n)) (nI m) (nI c) = some ((d2 S m (KC h p c) n f).isSome, uA σ 82 z) ∧ (∀ q, q < 10 - n → z q = zA σ 82 q) ∧ fits2 S z (d2 S m (KC h p c) n f) := by
  intro n
  induction n with
  | zero =>
    intro _ d hd σ f _ hf
    obtain ⟨e, rfl⟩ : ∃ e, d = e + 1 := ⟨d - 1, by omega⟩
    refine ⟨zA σ 82, ?_, fun _ _ => rfl, fun g hg q hq hq2 => ?_⟩
    · rw [uA_self]
      show fX12_dress_B (fX12_dress e) σ _ _ _ _ _ = _
      unfold fX12_dress_B
      simp (disch := omega) only [l0, l1, l2, l3, l4, l5, l6, l7, l8, l9, l10, l11, l12, l16, l18, l19, l20, l21, l24, l96, l128, l100, l144, l200, l256, l288, l1536, l1728, l1800, bnd, nI_add, pk_mul, pI_sub, pI_m1, pT_le, pF_le, pT_lt, pF_lt, pT_eq, pF_eq, pF_m1, mF_eq, mT_eq, mT_lt, mF_le, lm1, rd_nI, wr_nI, cl_nI, pk_us, un_ne, pk_uLs, uL_ne, zI_uI, zI_uJ, zI_uA, zI_uB, zI_uR, zI_uN, zJ_uI, zJ_uJ, zJ_uA, zJ_uB, zJ_uR, zJ_uN, zA_uI, zA_uJ, zA_uA, zA_uB, zA_uR, zA_uN, zB_uI, zB_uJ, zB_uA, zB_uB, zB_uR, zB_uN, zR_uI, zR_uJ, zR_uA, zR_uB, zR_uR, zR_uN, zN_uI, zN_uJ, zN_uA, zN_uB, zN_uR, zN_uN, zI_ne, zJ_ne, zA_ne, zB_ne, zR_ne, zN_ne, bi_T, bi_F, nz16, ↓reduceIte, not_true_eq_false, not_false_eq_true, Bool.false_eq_true, reduceCtorEq]
      rfl
    · cases hg
      exact hf q (by omega) hq2
  | succ n ih =>
    intro hn d hd σ f k hf
    obtain ⟨e, rfl⟩ : ∃ e, d = e + 1 := ⟨d - 1, by omega⟩
    have ih := ih (by omega) e (by omega)
    have e9 : 10 - (n + 1) = 9 - n := by omega
    have e10 : 10 - n = 9 - n + 1 := by omega
    rw [e9] at hf ⊢
    rw [e10] at ih
    rw [d2]
    have hp10 : 9 - n < 10 := by omega
    generalize hpq : 9 - n = a at *
    show ∃ z, fX12_dress_B (fX12_dress e) σ _ _ _ _ _ = _ ∧ _
    unfold fX12_dress_B
    have hin := m_has (t := S) (r := a) (by omega) (by omega)
    cases hb : S.testBit a with
    | false =>
      rw [hb] at hin
      rw [if_neg Bool.false_ne_true]
      obtain ⟨z, z1, z2, z3⟩ := ih σ f k (fun q hq hq2 => by
        by_cases e : q = a
        · rw [e, hb] at hq2; cases hq2
        · exact hf q (by omega) hq2)
      refine ⟨z, ?_, fun q hq => z2 q (by omega), z3⟩
      simp (disch := omega) only [l0, l1, l2, l3, l4, l5, l6, l7, l8, l9, l10, l11, l12, l16, l18, l19, l20, l21, l24, l96, l128, l100, l144, l200, l256, l288, l1536, l1728, l1800, bnd, nI_add, pk_mul, pI_sub, pI_m1, pT_le, pF_le, pT_lt, pF_lt, pT_eq, pF_eq, pF_m1, mF_eq, mT_eq, mT_lt, mF_le, lm1, rd_nI, wr_nI, cl_nI, pk_us, un_ne, pk_uLs, uL_ne, zI_uI, zI_uJ, zI_uA, zI_uB, zI_uR, zI_uN, zJ_uI, zJ_uJ, zJ_uA, zJ_uB, zJ_uR, zJ_uN, zA_uI, zA_uJ, zA_uA, zA_uB, zA_uR, zA_uN, zB_uI, zB_uJ, zB_uA, zB_uB, zB_uR, zB_uN, zR_uI, zR_uJ, zR_uA, zR_uB, zR_uR, zR_uN, zN_uI, zN_uJ, zN_uA, zN_uB, zN_uR, zN_uN, zI_ne, zJ_ne, zA_ne, zB_ne, zR_ne, zN_ne, bi_T, bi_F, nz16, ↓reduceIte, not_true_eq_false, not_false_eq_true, Bool.false_eq_true, reduceCtorEq, hin, z1]
    | true =>
      rw [hb] at hin
      rw [if_pos rfl]
      obtain ⟨F, hF⟩ : ∃ F : Nat → Option (Nat → Nat), F = fun co => if fr S (KC h p c) f a co = true then d2 S m (KC h p c) n (up f a co) else none := ⟨_, rfl⟩
      rw [← hF]
      have key := it_for (β := Nat → Int32) (body := fun (kb : (St × Int32) → Option (Bool × St)) (x : St × Int32) => fX12_dress_L33 (fX12_dress e) (nI p) (nI S) (nI a) (nI m) (nI c) (fun σ v6 => kb (σ, v6)) x.1 x.2) m (by omega) (fun i b => (uA σ 82 b, nI i)) (fun _ b => ∀ q, q < a → b q = zA σ 82 q) (fun i b y => ∃ z, y = some ((((List.range m).drop i).findSome? F).isSome, uA σ 82 z) ∧ (∀ q, q < a → z q = zA σ 82 q) ∧ fits2 S z (((List.range m).drop i).findSome? F)) ?_ 0 (zA σ 82) (Nat.zero_le _) (fun _ _ => rfl)
      · rw [List.drop_zero, uA_self] at key
        obtain ⟨z, z1, z2, z3⟩ := key
        refine ⟨z, ?_, z2, z3⟩
        simp (disch := omega) only [l0, l1, l2, l3, l4, l5, l6, l7, l8, l9, l10, l11, l12, l16, l18, l19, l20, l21, l24, l96, l128, l100, l144, l200, l256, l288, l1536, l1728, l1800, bnd, nI_add, pk_mul, pI_sub, pI_m1, pT_le, pF_le, pT_lt, pF_lt, pT_eq, pF_eq, pF_m1, mF_eq, mT_eq, mT_lt, mF_le, lm1, rd_nI, wr_nI, cl_nI, pk_us, un_ne, pk_uLs, uL_ne, zI_uI, zI_uJ, zI_uA, zI_uB, zI_uR, zI_uN, zJ_uI, zJ_uJ, zJ_uA, zJ_uB, zJ_uR, zJ_uN, zA_uI, zA_uJ, zA_uA, zA_uB, zA_uR, zA_uN, zB_uI, zB_uJ, zB_uA, zB_uB, zB_uR, zB_uN, zR_uI, zR_uJ, zR_uA, zR_uB, zR_uR, zR_uN, zN_uI, zN_uJ, zN_uA, zN_uB, zN_uR, zN_uN, zI_ne, zJ_ne, zA_ne, zB_ne, zR_ne, zN_ne, bi_T, bi_F, nz16, ↓reduceIte, not_true_eq_false, not_false_eq_true, Bool.false_eq_true, reduceCtorEq, hin]
        exact z1
      · intro i b hi hI kb hkb
        show ∃ z, fX12_dress_L33 _ _ _ _ _ _ _ (uA σ 82 b) (nI i) = _ ∧ _
        unfold fX12_dress_L33
        by_cases hin2 : i = m
        · have e1 : (List.range m).drop i = [] := List.drop_of_length_le (by rw [List.length_range]; omega)
          rw [e1]
          refine ⟨b, ?_, hI, fun g hg => by cases hg⟩
          simp (disch := omega) only [l0, l1, l2, l3, l4, l5, l6, l7, l8, l9, l10, l11, l12, l16, l18, l19, l20, l21, l24, l96, l128, l100, l144, l200, l256, l288, l1536, l1728, l1800, bnd, nI_add, pk_mul, pI_sub, pI_m1, pT_le, pF_le, pT_lt, pF_lt, pT_eq, pF_eq, pF_m1, mF_eq, mT_eq, mT_lt, mF_le, lm1, rd_nI, wr_nI, cl_nI, pk_us, un_ne, pk_uLs, uL_ne, zI_uI, zI_uJ, zI_uA, zI_uB, zI_uR, zI_uN, zJ_uI, zJ_uJ, zJ_uA, zJ_uB, zJ_uR, zJ_uN, zA_uI, zA_uJ, zA_uA, zA_uB, zA_uR, zA_uN, zB_uI, zB_uJ, zB_uA, zB_uB, zB_uR, zB_uN, zR_uI, zR_uJ, zR_uA, zR_uB, zR_uR, zR_uN, zN_uI, zN_uJ, zN_uA, zN_uB, zN_uR, zN_uN, zI_ne, zJ_ne, zA_ne, zB_ne, zR_ne, zN_ne, bi_T, bi_F, nz16, ↓reduceIte, not_true_eq_false, not_false_eq_true, Bool.false_eq_true, reduceCtorEq]
          rfl
        · have k2 : TI (uA σ 82 b) h := k.se (SE.uA (by decide))
          have hfree := fun k1 => m_free (σ := uA σ 82 b) (c := c) (p := p) (co := i) (f := f) k2 hp hc hp10 hS (by omega) (fun q hq hq2 => by rw [zA_uA, hI q hq]; exact hf q hq hq2) (fX12_dress e) (nI m) k1
          rw [rng_drop (by omega), List.findSome?_cons]
          have hFi : F i = if fr S (KC h p c) f a i = true then d2 S m (KC h p c) n (up f a i) else none := by rw [hF]
          cases hfr : fr S (KC h p c) f a i with
          | false =>
            rw [hfr] at hfree hFi
            rw [if_neg (by decide)] at hFi
            rw [hFi]
            obtain ⟨z, z1, z2, z3⟩ := hkb b (by omega) hI
            refine ⟨z, ?_, z2, z3⟩
            simp (disch := omega) only [l0, l1, l2, l3, l4, l5, l6, l7, l8, l9, l10, l11, l12, l16, l18, l19, l20, l21, l24, l96, l128, l100, l144, l200, l256, l288, l1536, l1728, l1800, bnd, nI_add, pk_mul, pI_sub, pI_m1, pT_le, pF_le, pT_lt, pF_lt, pT_eq, pF_eq, pF_m1, mF_eq, mT_eq, mT_lt, mF_le, lm1, rd_nI, wr_nI, cl_nI, pk_us, un_ne, pk_uLs, uL_ne, zI_uI, zI_uJ, zI_uA, zI_uB, zI_uR, zI_uN, zJ_uI, zJ_uJ, zJ_uA, zJ_uB, zJ_uR, zJ_uN, zA_uI, zA_uJ, zA_uA, zA_uB, zA_uR, zA_uN, zB_uI, zB_uJ, zB_uA, zB_uB, zB_uR, zB_uN, zR_uI, zR_uJ, zR_uA, zR_uB, zR_uR, zR_uN, zN_uI, zN_uJ, zN_uA, zN_uB, zN_uR, zN_uN, zI_ne, zJ_ne, zA_ne, zB_ne, zR_ne, zN_ne, bi_T, bi_F, nz16, ↓reduceIte, not_true_eq_false, not_false_eq_true, Bool.false_eq_true, reduceCtorEq, hfree]
            exact z1
          | true =>
            rw [hfr] at hfree hFi
            rw [if_pos rfl] at hFi
            obtain ⟨z, z1, z2, z3⟩ := ih (uA σ 82 (upd b a (nI i))) (up f a i) (k.se (SE.uA (by decide))) (fun q hq hq2 => by
              rw [zA_uA]
              by_cases e : q = a
              · rw [e, pk_us, up_self]; exact ⟨rfl, by omega⟩
              · rw [pk_un e, up_ne _ e, hI q (by omega)]; exact hf q (by omega) hq2)
            rw [uA_uA] at z1
            rw [← hFi] at z1 z3
            have hz2 : ∀ q, q < a → z q = zA σ 82 q := fun q hq => by rw [z2 q (by omega), zA_uA, pk_un (by omega), hI q hq]
            cases hx : F i with
            | some g =>
              rw [hx] at z1 z3
              rw [Option.isSome_some] at z1
              refine ⟨z, ?_, hz2, fun g' hg' => z3 g' hg'⟩
              simp (disch := omega) only [l0, l1, l2, l3, l4, l5, l6, l7, l8, l9, l10, l11, l12, l16, l18, l19, l20, l21, l24, l96, l128, l100, l144, l200, l256, l288, l1536, l1728, l1800, bnd, nI_add, pk_mul, pI_sub, pI_m1, pT_le, pF_le, pT_lt, pF_lt, pT_eq, pF_eq, pF_m1, mF_eq, mT_eq, mT_lt, mF_le, lm1, rd_nI, wr_nI, cl_nI, pk_us, un_ne, pk_uLs, uL_ne, zI_uI, zI_uJ, zI_uA, zI_uB, zI_uR, zI_uN, zJ_uI, zJ_uJ, zJ_uA, zJ_uB, zJ_uR, zJ_uN, zA_uI, zA_uJ, zA_uA, zA_uB, zA_uR, zA_uN, zB_uI, zB_uJ, zB_uA, zB_uB, zB_uR, zB_uN, zR_uI, zR_uJ, zR_uA, zR_uB, zR_uR, zR_uN, zN_uI, zN_uJ, zN_uA, zN_uB, zN_uR, zN_uN, zI_ne, zJ_ne, zA_ne, zB_ne, zR_ne, zN_ne, bi_T, bi_F, nz16, ↓reduceIte, not_true_eq_false, not_false_eq_true, Bool.false_eq_true, reduceCtorEq, hfree, uA_uA, z1, Option.isSome_some]
            | none =>
              rw [hx] at z1
              rw [Option.isSome_none] at z1
              obtain ⟨z', y1, y2, y3⟩ := hkb z (by omega) hz2
              refine ⟨z', ?_, y2, y3⟩
              simp (disch := omega) only [l0, l1, l2, l3, l4, l5, l6, l7, l8, l9, l10, l11, l12, l16, l18, l19, l20, l21, l24, l96, l128, l100, l144, l200, l256, l288, l1536, l1728, l1800, bnd, nI_add, pk_mul, pI_sub, pI_m1, pT_le, pF_le, pT_lt, pF_lt, pT_eq, pF_eq, pF_m1, mF_eq, mT_eq, mT_lt, mF_le, lm1, rd_nI, wr_nI, cl_nI, pk_us, un_ne, pk_uLs, uL_ne, zI_uI, zI_uJ, zI_uA, zI_uB, zI_uR, zI_uN, zJ_uI, zJ_uJ, zJ_uA, zJ_uB, zJ_uR, zJ_uN, zA_uI, zA_uJ, zA_uA, zA_uB, zA_uR, zA_uN, zB_uI, zB_uJ, zB_uA, zB_uB, zB_uR, zB_uN, zR_uI, zR_uJ, zR_uA, zR_uB, zR_uR, zR_uN, zN_uI, zN_uJ, zN_uA, zN_uB, zN_uR, zN_uN, zI_ne, zJ_ne, zA_ne, zB_ne, zR_ne, zN_ne, bi_T, bi_F, nz16, ↓reduceIte, not_true_eq_false, not_false_eq_true, Bool.false_eq_true, reduceCtorEq, hfree, uA_uA, z1]
              exact y1
