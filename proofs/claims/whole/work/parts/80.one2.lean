/-! one, both stores -/
/-- the first speech of another roll that a cue ends -/
def lmO (g : Gh) (s : Nat) : Option Nat := (sp g).find? (fun o => decide (o / 16 ≠ s / 16) && eg g s o)
def tA (g : Gh) : Nat := 2 ^ gN g - 1
theorem tA_bit (g : Gh) (r : Nat) : (tA g).testBit r = decide (r < gN g) := Nat.testBit_two_pow_sub_one (gN g) r
theorem tA_al {g : Gh} (h : 1 ≤ gN g) : al g (tA g) = true := by
  have : 2 ^ 1 ≤ 2 ^ gN g := Nat.pow_le_pow_right (by decide) h
  exact decide_eq_true ⟨by unfold tA; omega, by unfold tA; omega⟩
theorem tA_ot {g : Gh} {s o : Nat} (h : vd g o = true) : ot (tA g) s o = decide (o / 16 ≠ s / 16) := by
  unfold ot
  rw [tA_bit, decide_eq_true (vd_iff.mp h).1, Bool.true_and]
theorem lm_some {g : Gh} {s : Nat} (h : mb g (tA g) s = 1) : ∃ o, lmO g s = some o ∧ vd g o = true ∧ o / 16 ≠ s / 16 := by
  have hp : 0 < mb g (tA g) s := by omega
  unfold mb at hp
  rw [List.countP_pos_iff] at hp
  obtain ⟨o, ho, hx⟩ := hp
  rw [tA_ot (sp_mem.mp ho).2] at hx
  have hs : (lmO g s).isSome = true := by
    unfold lmO
    rw [List.find?_isSome]
    exact ⟨o, ho, hx⟩
  cases hl : lmO g s with
  | none => rw [hl] at hs; cases hs
  | some q =>
    refine ⟨q, rfl, (sp_mem.mp (List.mem_of_find?_eq_some hl)).2, ?_⟩
    have := List.find?_some hl
    rw [Bool.and_eq_true] at this
    exact of_decide_eq_true this.1
/-- the joins: roll and roll -/
def edS (g : Gh) (s : Nat) : Option (Nat × Nat) := if mb g (tA g) s = 1 then (lmO g s).map (fun o => (s / 16, o / 16)) else none
def eds (g : Gh) : List (Nat × Nat) := (sp g).filterMap (edS g)
theorem edS_ok {g : Gh} {s : Nat} (hs : vd g s = true) {e : Nat × Nat} (h : edS g s = some e) : e.1 < gN g ∧ e.2 < gN g ∧ e.1 ≠ e.2 := by
  unfold edS at h
  split at h
  · rename_i hm
    obtain ⟨o, h1, h2, h3⟩ := lm_some hm
    rw [h1] at h
    cases h
    exact ⟨(vd_iff.mp hs).1, (vd_iff.mp h2).1, fun x => h3 x.symm⟩
  · cases h
theorem eds_ok {g : Gh} {e : Nat × Nat} (h : e ∈ eds g) : e.1 < gN g ∧ e.2 < gN g ∧ e.1 ≠ e.2 := by
  unfold eds at h
  rw [List.mem_filterMap] at h
  obtain ⟨s, hs, he⟩ := h
  exact edS_ok (sp_mem.mp hs).2 he
theorem c_lowMet {σ : St} {g : Gh} (hg : okG g) (hj : JC σ g) {s o : Nat} (h : vd g s = true) (hl : lmO g s = some o) : fX0_lowestMet σ (nI s) = some (nI o) := by
  have hs := vd_lt hg h
  have hsl := sp_len hg
  unfold fX0_lowestMet
  have key := it_for (β := Unit) (body := fun (kb : Int32 → Option Int32) (x : Int32) => fX0_lowestMet_L2 (nI s) (fun v2 => kb v2) σ x) (sp g).length (by omega) (fun k _ => nI k) (fun k _ => ((sp g).drop k).find? (fun o => decide (o / 16 ≠ s / 16) && eg g s o) = some o) (fun k _ z => z = some (nI o)) ?_ 0 () (Nat.zero_le _) hl
  · exact key
  · intro k _ hk hI kb hkb
    show fX0_lowestMet_L2 _ _ _ (nI k) = _
    unfold fX0_lowestMet_L2
    by_cases hkn : k = (sp g).length
    · rw [hkn, List.drop_length] at hI
      cases hI
    · have hv := sp_at (g := g) (i := k) (by omega)
      have hvl := vd_lt hg hv
      have hat := c_speechAt hg hj (i := k) (by omega)
      have hcl := c_closes hg hj h hv
      rw [drop_get (by omega)] at hI
      generalize (sp g).getD k 0 = q at *
      by_cases hr : q / 16 = s / 16
      · rw [List.find?_cons_of_neg (by rw [decide_eq_false (fun x => x hr), Bool.false_and]; decide)] at hI
        have e2 : (nI (q / 16) = nI (s / 16)) = True := eq_true (by rw [hr])
        simp (disch := omega) only [l0, l1, l2, l3, l4, l5, l6, l7, l8, l9, l10, l11, l12, l16, l18, l19, l20, l21, l24, l96, l128, l100, l144, l200, l256, l288, l1536, l1728, l1800, bnd, nI_add, pk_mul, pI_sub, pI_m1, pT_le, pF_le, pT_lt, pF_lt, pT_eq, pF_eq, pF_m1, mF_eq, mT_eq, mT_lt, mF_le, lm1, rd_nI, wr_nI, cl_nI, pk_us, un_ne, pk_uLs, uL_ne, zI_uI, zI_uJ, zI_uA, zI_uB, zI_uR, zI_uN, zJ_uI, zJ_uJ, zJ_uA, zJ_uB, zJ_uR, zJ_uN, zA_uI, zA_uJ, zA_uA, zA_uB, zA_uR, zA_uN, zB_uI, zB_uJ, zB_uA, zB_uB, zB_uR, zB_uN, zR_uI, zR_uJ, zR_uA, zR_uB, zR_uR, zR_uN, zN_uI, zN_uJ, zN_uA, zN_uB, zN_uR, zN_uN, zI_ne, zJ_ne, zA_ne, zB_ne, zR_ne, zN_ne, bi_T, bi_F, nz16, ↓reduceIte, not_true_eq_false, not_false_eq_true, Bool.false_eq_true, reduceCtorEq, c_speeches hj, hat, c_rollOf, e2]
        exact hkb () (by omega) hI
      · have e2 : (nI (q / 16) = nI (s / 16)) = False := pF_eq hr (by omega) (by omega)
        cases he : eg g s q with
        | true =>
          rw [List.find?_cons_of_pos (by rw [decide_eq_true hr, he]; rfl)] at hI
          cases hI
          rw [he] at hcl
          simp (disch := omega) only [l0, l1, l2, l3, l4, l5, l6, l7, l8, l9, l10, l11, l12, l16, l18, l19, l20, l21, l24, l96, l128, l100, l144, l200, l256, l288, l1536, l1728, l1800, bnd, nI_add, pk_mul, pI_sub, pI_m1, pT_le, pF_le, pT_lt, pF_lt, pT_eq, pF_eq, pF_m1, mF_eq, mT_eq, mT_lt, mF_le, lm1, rd_nI, wr_nI, cl_nI, pk_us, un_ne, pk_uLs, uL_ne, zI_uI, zI_uJ, zI_uA, zI_uB, zI_uR, zI_uN, zJ_uI, zJ_uJ, zJ_uA, zJ_uB, zJ_uR, zJ_uN, zA_uI, zA_uJ, zA_uA, zA_uB, zA_uR, zA_uN, zB_uI, zB_uJ, zB_uA, zB_uB, zB_uR, zB_uN, zR_uI, zR_uJ, zR_uA, zR_uB, zR_uR, zR_uN, zN_uI, zN_uJ, zN_uA, zN_uB, zN_uR, zN_uN, zI_ne, zJ_ne, zA_ne, zB_ne, zR_ne, zN_ne, bi_T, bi_F, nz16, ↓reduceIte, not_true_eq_false, not_false_eq_true, Bool.false_eq_true, reduceCtorEq, c_speeches hj, hat, c_rollOf, e2, hcl]
        | false =>
          rw [List.find?_cons_of_neg (by rw [he, Bool.and_false]; decide)] at hI
          rw [he] at hcl
          simp (disch := omega) only [l0, l1, l2, l3, l4, l5, l6, l7, l8, l9, l10, l11, l12, l16, l18, l19, l20, l21, l24, l96, l128, l100, l144, l200, l256, l288, l1536, l1728, l1800, bnd, nI_add, pk_mul, pI_sub, pI_m1, pT_le, pF_le, pT_lt, pF_lt, pT_eq, pF_eq, pF_m1, mF_eq, mT_eq, mT_lt, mF_le, lm1, rd_nI, wr_nI, cl_nI, pk_us, un_ne, pk_uLs, uL_ne, zI_uI, zI_uJ, zI_uA, zI_uB, zI_uR, zI_uN, zJ_uI, zJ_uJ, zJ_uA, zJ_uB, zJ_uR, zJ_uN, zA_uI, zA_uJ, zA_uA, zA_uB, zA_uR, zA_uN, zB_uI, zB_uJ, zB_uA, zB_uB, zB_uR, zB_uN, zR_uI, zR_uJ, zR_uA, zR_uB, zR_uR, zR_uN, zN_uI, zN_uJ, zN_uA, zN_uB, zN_uR, zN_uN, zI_ne, zJ_ne, zA_ne, zB_ne, zR_ne, zN_ne, bi_T, bi_F, nz16, ↓reduceIte, not_true_eq_false, not_false_eq_true, Bool.false_eq_true, reduceCtorEq, c_speeches hj, hat, c_rollOf, e2, hcl]
          exact hkb () (by omega) hI
/-- neighbours, join by join -/
def jn (nb : Nat → Nat) (e : Nat × Nat) : Nat → Nat := up (up nb e.1 (nb e.1 ||| 2 ^ e.2)) e.2 (up nb e.1 (nb e.1 ||| 2 ^ e.2) e.2 ||| 2 ^ e.1)
theorem jn_bit {nb : Nat → Nat} {e : Nat × Nat} (hne : e.1 ≠ e.2) (a b : Nat) : (jn nb e a).testBit b = true ↔ (nb a).testBit b = true ∨ (e.1 = a ∧ e.2 = b) ∨ (e.2 = a ∧ e.1 = b) := by
  unfold jn
  by_cases h2 : a = e.2
  · subst h2
    rw [up_self, up_ne _ (fun x => hne x.symm), or_bit, Bool.or_eq_true, decide_eq_true_eq]
    constructor
    · rintro (h | h)
      · exact Or.inl h
      · exact Or.inr (Or.inr ⟨rfl, h.symm⟩)
    · rintro (h | ⟨h, _⟩ | ⟨_, h⟩)
      · exact Or.inl h
      · exact absurd h hne
      · exact Or.inr h.symm
  · rw [up_ne _ h2]
    by_cases h1 : a = e.1
    · subst h1
      rw [up_self, or_bit, Bool.or_eq_true, decide_eq_true_eq]
      constructor
      · rintro (h | h)
        · exact Or.inl h
        · exact Or.inr (Or.inl ⟨rfl, h.symm⟩)
      · rintro (h | ⟨_, h⟩ | ⟨h, _⟩)
        · exact Or.inl h
        · exact Or.inr h.symm
        · exact absurd h.symm hne
    · rw [up_ne _ h1]
      constructor
      · exact Or.inl
      · rintro (h | ⟨h, _⟩ | ⟨h, _⟩)
        · exact h
        · exact absurd h.symm h1
        · exact absurd h.symm h2
theorem jns_bit : ∀ (l : List (Nat × Nat)) (nb : Nat → Nat), (∀ e, e ∈ l → e.1 ≠ e.2) → ∀ a b, (l.foldl jn nb a).testBit b = true ↔ (nb a).testBit b = true ∨ ∃ e, e ∈ l ∧ ((e.1 = a ∧ e.2 = b) ∨ (e.2 = a ∧ e.1 = b))
  | [], nb, _, a, b => by simp
  | e :: l, nb, h, a, b => by
    rw [List.foldl_cons, jns_bit l (jn nb e) (fun x hx => h x (List.mem_cons_of_mem _ hx)), jn_bit (h e List.mem_cons_self)]
    constructor
    · rintro ((h1 | h1) | ⟨q, hq, h2⟩)
      · exact Or.inl h1
      · exact Or.inr ⟨e, List.mem_cons_self, h1⟩
      · exact Or.inr ⟨q, List.mem_cons_of_mem _ hq, h2⟩
    · rintro (h1 | ⟨q, hq, h2⟩)
      · exact Or.inl (Or.inl h1)
      · rw [List.mem_cons] at hq
        rcases hq with hq | hq
        · subst hq; exact Or.inl (Or.inr h2)
        · exact Or.inr ⟨q, hq, h2⟩
theorem jn_lt {nb : Nat → Nat} {e : Nat × Nat} (h : ∀ a, a < 8 → nb a < 256) (h1 : e.1 < 8) (h2 : e.2 < 8) : ∀ a, a < 8 → jn nb e a < 256 := by
  intro a ha
  unfold jn
  have step : ∀ a, a < 8 → up nb e.1 (nb e.1 ||| 2 ^ e.2) a < 256 := by
    intro a ha
    by_cases e1 : a = e.1
    · rw [e1, up_self]; exact or_lt (h e.1 h1) h2
    · rw [up_ne _ e1]; exact h a ha
  by_cases e2 : a = e.2
  · rw [e2, up_self]; exact or_lt (step e.2 h2) h1
  · rw [up_ne _ e2]; exact step a ha
theorem c_join {σ : St} {a b : Nat} {nb : Nat → Nat} (ha : a < 8) (hb : b < 8) (hne : a ≠ b) (h34 : ∀ j, j < 8 → zA σ 34 j = nI (nb j)) : ∃ f, fX0_join σ (nI a) (nI b) = some (uA σ 34 f) ∧ ∀ j, j < 8 → f j = nI (jn nb (a, b) j) := by
  refine ⟨upd (upd (zA σ 34) a (nI (nb a ||| 2 ^ b))) b (nI (nb b ||| 2 ^ a)), ?_, fun j hj => ?_⟩
  · have h1 := h34 a ha
    have h2 := h34 b hb
    unfold fX0_join
    simp (disch := omega) only [l0, l1, l2, l3, l4, l5, l6, l7, l8, l9, l10, l11, l12, l16, l18, l19, l20, l21, l24, l96, l128, l100, l144, l200, l256, l288, l1536, l1728, l1800, bnd, nI_add, pk_mul, pI_sub, pI_m1, pT_le, pF_le, pT_lt, pF_lt, pT_eq, pF_eq, pF_m1, mF_eq, mT_eq, mT_lt, mF_le, lm1, rd_nI, wr_nI, cl_nI, pk_us, un_ne, pk_uLs, uL_ne, zI_uI, zI_uJ, zI_uA, zI_uB, zI_uR, zI_uN, zJ_uI, zJ_uJ, zJ_uA, zJ_uB, zJ_uR, zJ_uN, zA_uI, zA_uJ, zA_uA, zA_uB, zA_uR, zA_uN, zB_uI, zB_uJ, zB_uA, zB_uB, zB_uR, zB_uN, zR_uI, zR_uJ, zR_uA, zR_uB, zR_uR, zR_uN, zN_uI, zN_uJ, zN_uA, zN_uB, zN_uR, zN_uN, zI_ne, zJ_ne, zA_ne, zB_ne, zR_ne, zN_ne, bi_T, bi_F, nz16, ↓reduceIte, not_true_eq_false, not_false_eq_true, Bool.false_eq_true, reduceCtorEq, h1, h2, or_I, uA_uA]
  · unfold jn
    by_cases e2 : j = b
    · rw [e2, pk_us, up_self, up_ne _ (fun x => hne x.symm)]
    · rw [pk_un e2, up_ne _ e2]
      by_cases e1 : j = a
      · rw [e1, pk_us, up_self]
      · rw [pk_un e1, up_ne _ e1, h34 j hj]
