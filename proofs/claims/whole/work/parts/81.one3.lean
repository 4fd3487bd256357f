/-! one: the calls -/
def nbs (g : Gh) : Nat → Nat := (eds g).foldl jn (fun _ => 0)
theorem c_nbs {σ : St} {g : Gh} (hg : okG g) (hj : JC σ g) (hN1 : 1 ≤ gN g) (v1 : Int32) (k1 : St → Option (Int32 × St)) {R : Option (Int32 × St) → Prop} (hR : ∀ f, (∀ j, j < 8 → f j = nI (nbs g j)) → R (k1 (uA σ 34 f))) (f0 : Nat → Int32) (hf0 : ∀ j, j < 8 → f0 j = nI 0) : R (fX0_joined_P35 v1 (nI (tA g)) k1 (uA σ 34 f0) (nI 0)) := by
  have hl := sp_len hg
  have hal := tA_al hN1
  have ht := al_lt hg hal
  have key := it_for (β := (Nat → Int32) × (Nat → Nat)) (body := fun (kb : (St × Int32) → Option (Int32 × St)) (t : St × Int32) => fX0_joined_L35 v1 (nI (tA g)) k1 (fun σ v3 => kb (σ, v3)) t.1 t.2) (sp g).length (by omega) (fun i b => (uA σ 34 b.1, nI i)) (fun i b => (∀ j, j < 8 → b.1 j = nI (b.2 j)) ∧ (((sp g).drop i).filterMap (edS g)).foldl jn b.2 = nbs g) (fun i b z => R z) ?_ 0 (f0, fun _ => 0) (Nat.zero_le _) ⟨hf0, rfl⟩
  · exact key
  · rintro i ⟨f, nb⟩ hi ⟨hf, hn⟩ kb hkb
    have hf : ∀ j, j < 8 → f j = nI (nb j) := hf
    have hn : (((sp g).drop i).filterMap (edS g)).foldl jn nb = nbs g := hn
    show R (fX0_joined_L35 _ _ _ _ (uA σ 34 f) (nI i))
    unfold fX0_joined_L35
    have hj2 : JC (uA σ 34 f) g := hj.se (SE.uA (by decide))
    by_cases hin : i = (sp g).length
    · rw [hin, List.drop_length] at hn
      have hn' : nb = nbs g := hn
      have := hR f (fun j hj => by rw [← hn']; exact hf j hj)
      simp (disch := omega) only [l0, l1, l2, l3, l4, l5, l6, l7, l8, l9, l10, l11, l12, l16, l18, l19, l20, l21, l24, l96, l128, l100, l144, l200, l256, l288, l1536, l1728, l1800, bnd, nI_add, pk_mul, pI_sub, pI_m1, pT_le, pF_le, pT_lt, pF_lt, pT_eq, pF_eq, pF_m1, mF_eq, mT_eq, mT_lt, mF_le, lm1, rd_nI, wr_nI, cl_nI, pk_us, un_ne, pk_uLs, uL_ne, zI_uI, zI_uJ, zI_uA, zI_uB, zI_uR, zI_uN, zJ_uI, zJ_uJ, zJ_uA, zJ_uB, zJ_uR, zJ_uN, zA_uI, zA_uJ, zA_uA, zA_uB, zA_uR, zA_uN, zB_uI, zB_uJ, zB_uA, zB_uB, zB_uR, zB_uN, zR_uI, zR_uJ, zR_uA, zR_uB, zR_uR, zR_uN, zN_uI, zN_uJ, zN_uA, zN_uB, zN_uR, zN_uN, zI_ne, zJ_ne, zA_ne, zB_ne, zR_ne, zN_ne, bi_T, bi_F, nz16, ↓reduceIte, not_true_eq_false, not_false_eq_true, Bool.false_eq_true, reduceCtorEq, c_speeches hj2]
      exact this
    · have hv := sp_at (g := g) (i := i) (by omega)
      have hvl := vd_lt hg hv
      have hat := c_speechAt hg hj2 (i := i) (by omega)
      have hmt := c_metBy hg hj2 hv ht
      have hml := mb_le hg (tA g) ((sp g).getD i 0)
      rw [drop_get (by omega), List.filterMap_cons] at hn
      generalize (sp g).getD i 0 = s at *
      by_cases hm : mb g (tA g) s = 1
      · obtain ⟨o, h1, h2, h3⟩ := lm_some hm
        have hol := vd_lt hg h2
        have hlm := c_lowMet hg hj2 hv h1
        have he : edS g s = some (s / 16, o / 16) := by unfold edS; rw [if_pos hm, h1]; rfl
        rw [he] at hn
        obtain ⟨f2, c1, c2⟩ := c_join (σ := uA σ 34 f) (a := s / 16) (b := o / 16) (nb := nb) (by omega) (by omega) (fun x => h3 x.symm) (by rw [zA_uA]; exact hf)
        rw [uA_uA] at c1
        have nx := hkb (f2, jn nb (s / 16, o / 16)) (by omega) ⟨c2, hn⟩
        rw [hm] at hmt
        simp (disch := omega) only [l0, l1, l2, l3, l4, l5, l6, l7, l8, l9, l10, l11, l12, l16, l18, l19, l20, l21, l24, l96, l128, l100, l144, l200, l256, l288, l1536, l1728, l1800, bnd, nI_add, pk_mul, pI_sub, pI_m1, pT_le, pF_le, pT_lt, pF_lt, pT_eq, pF_eq, pF_m1, mF_eq, mT_eq, mT_lt, mF_le, lm1, rd_nI, wr_nI, cl_nI, pk_us, un_ne, pk_uLs, uL_ne, zI_uI, zI_uJ, zI_uA, zI_uB, zI_uR, zI_uN, zJ_uI, zJ_uJ, zJ_uA, zJ_uB, zJ_uR, zJ_uN, zA_uI, zA_uJ, zA_uA, zA_uB, zA_uR, zA_uN, zB_uI, zB_uJ, zB_uA, zB_uB, zB_uR, zB_uN, zR_uI, zR_uJ, zR_uA, zR_uB, zR_uR, zR_uN, zN_uI, zN_uJ, zN_uA, zN_uB, zN_uR, zN_uN, zI_ne, zJ_ne, zA_ne, zB_ne, zR_ne, zN_ne, bi_T, bi_F, nz16, ↓reduceIte, not_true_eq_false, not_false_eq_true, Bool.false_eq_true, reduceCtorEq, c_speeches hj2, hat, hmt, c_rollOf, hlm, c1]
        exact nx
      · have he : edS g s = none := by unfold edS; rw [if_neg hm]
        rw [he] at hn
        have nx := hkb (f, nb) (by omega) ⟨hf, hn⟩
        simp (disch := omega) only [l0, l1, l2, l3, l4, l5, l6, l7, l8, l9, l10, l11, l12, l16, l18, l19, l20, l21, l24, l96, l128, l100, l144, l200, l256, l288, l1536, l1728, l1800, bnd, nI_add, pk_mul, pI_sub, pI_m1, pT_le, pF_le, pT_lt, pF_lt, pT_eq, pF_eq, pF_m1, mF_eq, mT_eq, mT_lt, mF_le, lm1, rd_nI, wr_nI, cl_nI, pk_us, un_ne, pk_uLs, uL_ne, zI_uI, zI_uJ, zI_uA, zI_uB, zI_uR, zI_uN, zJ_uI, zJ_uJ, zJ_uA, zJ_uB, zJ_uR, zJ_uN, zA_uI, zA_uJ, zA_uA, zA_uB, zA_uR, zA_uN, zB_uI, zB_uJ, zB_uA, zB_uB, zB_uR, zB_uN, zR_uI, zR_uJ, zR_uA, zR_uB, zR_uR, zR_uN, zN_uI, zN_uJ, zN_uA, zN_uB, zN_uR, zN_uN, zI_ne, zJ_ne, zA_ne, zB_ne, zR_ne, zN_ne, bi_T, bi_F, nz16, ↓reduceIte, not_true_eq_false, not_false_eq_true, Bool.false_eq_true, reduceCtorEq, c_speeches hj2, hat, hmt]
        exact nx
theorem c_rounds {σ : St} {g : Gh} {X : Nat} (hX : X < 256) (hnl : ∀ a, a < 8 → nbs g a < 256) (h34 : ∀ j, j < 8 → zA σ 34 j = nI (nbs g j)) : fX0_joined_P98 σ (nI X) (nI 0) = some (nI (itr (rnC (nbs g)) 8 X), σ) := by
  have ltC : ∀ X, X < 256 → rnC (nbs g) X < 256 := fun X hX => foldC_lt hnl _ X (fun e he => List.mem_range.mp he) hX
  have key := it_for (β := Nat) (body := fun (kb : (Int32 × Int32) → Option (Int32 × St)) (t : Int32 × Int32) => fX0_joined_L98 (fun v3 v4 => kb (v3, v4)) σ t.1 t.2) 8 (by omega) (fun i Y => (nI Y, nI i)) (fun i Y => Y < 256 ∧ itr (rnC (nbs g)) (8 - i) Y = itr (rnC (nbs g)) 8 X) (fun i Y z => z = some (nI (itr (rnC (nbs g)) 8 X), σ)) ?_ 0 X (Nat.zero_le _) ⟨hX, rfl⟩
  · exact key
  · intro i Y hi hI kb hkb
    show fX0_joined_L98 _ _ (nI Y) (nI i) = _
    unfold fX0_joined_L98
    by_cases hi8 : i = 8
    · have e : itr (rnC (nbs g)) (8 - i) Y = Y := by rw [hi8]; rfl
      rw [← hI.2, e]
      simp (disch := omega) only [l0, l1, l2, l3, l4, l5, l6, l7, l8, l9, l10, l11, l12, l16, l18, l19, l20, l21, l24, l96, l128, l100, l144, l200, l256, l288, l1536, l1728, l1800, bnd, nI_add, pk_mul, pI_sub, pI_m1, pT_le, pF_le, pT_lt, pF_lt, pT_eq, pF_eq, pF_m1, mF_eq, mT_eq, mT_lt, mF_le, lm1, rd_nI, wr_nI, cl_nI, pk_us, un_ne, pk_uLs, uL_ne, zI_uI, zI_uJ, zI_uA, zI_uB, zI_uR, zI_uN, zJ_uI, zJ_uJ, zJ_uA, zJ_uB, zJ_uR, zJ_uN, zA_uI, zA_uJ, zA_uA, zA_uB, zA_uR, zA_uN, zB_uI, zB_uJ, zB_uA, zB_uB, zB_uR, zB_uN, zR_uI, zR_uJ, zR_uA, zR_uB, zR_uR, zR_uN, zN_uI, zN_uJ, zN_uA, zN_uB, zN_uR, zN_uN, zI_ne, zJ_ne, zA_ne, zB_ne, zR_ne, zN_ne, bi_T, bi_F, nz16, ↓reduceIte, not_true_eq_false, not_false_eq_true, Bool.false_eq_true, reduceCtorEq, hi8]
    · have hnx := hI.2
      rw [show 8 - i = (8 - (i + 1)) + 1 by omega] at hnx
      have nx := hkb (rnC (nbs g) Y) (by omega) ⟨ltC Y hI.1, hnx⟩
      have inner := it_for (β := Nat) (body := fun (kb' : (Int32 × Int32) → Option (Int32 × St)) (t : Int32 × Int32) => fX0_joined_L108 (nI i) (fun x18 => kb (x18, nI (i + 1))) (fun v3 v5 => kb' (v3, v5)) σ t.1 t.2) 8 (by omega) (fun j Z => (nI Z, nI j)) (fun j Z => Z < 256 ∧ ((List.range 8).drop j).foldl (fun x e => if x.testBit e = true then x ||| nbs g e else x) Z = rnC (nbs g) Y) (fun j Z z => z = some (nI (itr (rnC (nbs g)) 8 X), σ)) ?_ 0 Y (Nat.zero_le _) ⟨hI.1, rfl⟩
      · simp (disch := omega) only [l0, l1, l2, l3, l4, l5, l6, l7, l8, l9, l10, l11, l12, l16, l18, l19, l20, l21, l24, l96, l128, l100, l144, l200, l256, l288, l1536, l1728, l1800, bnd, nI_add, pk_mul, pI_sub, pI_m1, pT_le, pF_le, pT_lt, pF_lt, pT_eq, pF_eq, pF_m1, mF_eq, mT_eq, mT_lt, mF_le, lm1, rd_nI, wr_nI, cl_nI, pk_us, un_ne, pk_uLs, uL_ne, zI_uI, zI_uJ, zI_uA, zI_uB, zI_uR, zI_uN, zJ_uI, zJ_uJ, zJ_uA, zJ_uB, zJ_uR, zJ_uN, zA_uI, zA_uJ, zA_uA, zA_uB, zA_uR, zA_uN, zB_uI, zB_uJ, zB_uA, zB_uB, zB_uR, zB_uN, zR_uI, zR_uJ, zR_uA, zR_uB, zR_uR, zR_uN, zN_uI, zN_uJ, zN_uA, zN_uB, zN_uR, zN_uN, zI_ne, zJ_ne, zA_ne, zB_ne, zR_ne, zN_ne, bi_T, bi_F, nz16, ↓reduceIte, not_true_eq_false, not_false_eq_true, Bool.false_eq_true, reduceCtorEq]
        exact inner
      · intro j Z hj hJ kb' hkb'
        show fX0_joined_L108 _ _ _ _ (nI Z) (nI j) = _
        unfold fX0_joined_L108
        have hZ := hJ.1
        have hF := hJ.2
        by_cases hj8 : j = 8
        · have e1 : (List.range 8).drop j = [] := List.drop_of_length_le (by rw [List.length_range]; omega)
          rw [e1] at hF
          have hF' : Z = rnC (nbs g) Y := hF
          rw [hF']
          simp (disch := omega) only [l0, l1, l2, l3, l4, l5, l6, l7, l8, l9, l10, l11, l12, l16, l18, l19, l20, l21, l24, l96, l128, l100, l144, l200, l256, l288, l1536, l1728, l1800, bnd, nI_add, pk_mul, pI_sub, pI_m1, pT_le, pF_le, pT_lt, pF_lt, pT_eq, pF_eq, pF_m1, mF_eq, mT_eq, mT_lt, mF_le, lm1, rd_nI, wr_nI, cl_nI, pk_us, un_ne, pk_uLs, uL_ne, zI_uI, zI_uJ, zI_uA, zI_uB, zI_uR, zI_uN, zJ_uI, zJ_uJ, zJ_uA, zJ_uB, zJ_uR, zJ_uN, zA_uI, zA_uJ, zA_uA, zA_uB, zA_uR, zA_uN, zB_uI, zB_uJ, zB_uA, zB_uB, zB_uR, zB_uN, zR_uI, zR_uJ, zR_uA, zR_uB, zR_uR, zR_uN, zN_uI, zN_uJ, zN_uA, zN_uB, zN_uR, zN_uN, zI_ne, zJ_ne, zA_ne, zB_ne, zR_ne, zN_ne, bi_T, bi_F, nz16, ↓reduceIte, not_true_eq_false, not_false_eq_true, Bool.false_eq_true, reduceCtorEq, hj8]
          exact nx
        · rw [rng_drop (by omega), List.foldl_cons] at hF
          have hin := c_isIn (t := Z) (r := j) (by omega) (by omega)
          rw [decide_eq_true (show j < 8 by omega), Bool.true_and] at hin
          have h34j := h34 j (by omega)
          cases hb : Z.testBit j with
          | true =>
            rw [hb] at hin
            rw [if_pos hb] at hF
            have nx' := hkb' (Z ||| nbs g j) (by omega) ⟨Nat.or_lt_two_pow (n := 8) hZ (hnl j (by omega)), hF⟩
            simp (disch := omega) only [l0, l1, l2, l3, l4, l5, l6, l7, l8, l9, l10, l11, l12, l16, l18, l19, l20, l21, l24, l96, l128, l100, l144, l200, l256, l288, l1536, l1728, l1800, bnd, nI_add, pk_mul, pI_sub, pI_m1, pT_le, pF_le, pT_lt, pF_lt, pT_eq, pF_eq, pF_m1, mF_eq, mT_eq, mT_lt, mF_le, lm1, rd_nI, wr_nI, cl_nI, pk_us, un_ne, pk_uLs, uL_ne, zI_uI, zI_uJ, zI_uA, zI_uB, zI_uR, zI_uN, zJ_uI, zJ_uJ, zJ_uA, zJ_uB, zJ_uR, zJ_uN, zA_uI, zA_uJ, zA_uA, zA_uB, zA_uR, zA_uN, zB_uI, zB_uJ, zB_uA, zB_uB, zB_uR, zB_uN, zR_uI, zR_uJ, zR_uA, zR_uB, zR_uR, zR_uN, zN_uI, zN_uJ, zN_uA, zN_uB, zN_uR, zN_uN, zI_ne, zJ_ne, zA_ne, zB_ne, zR_ne, zN_ne, bi_T, bi_F, nz16, ↓reduceIte, not_true_eq_false, not_false_eq_true, Bool.false_eq_true, reduceCtorEq, hin, h34j, fa_or]
            exact nx'
          | false =>
            rw [hb] at hin
            rw [if_neg (by rw [hb]; decide)] at hF
            have nx' := hkb' Z (by omega) ⟨hZ, hF⟩
            simp (disch := omega) only [l0, l1, l2, l3, l4, l5, l6, l7, l8, l9, l10, l11, l12, l16, l18, l19, l20, l21, l24, l96, l128, l100, l144, l200, l256, l288, l1536, l1728, l1800, bnd, nI_add, pk_mul, pI_sub, pI_m1, pT_le, pF_le, pT_lt, pF_lt, pT_eq, pF_eq, pF_m1, mF_eq, mT_eq, mT_lt, mF_le, lm1, rd_nI, wr_nI, cl_nI, pk_us, un_ne, pk_uLs, uL_ne, zI_uI, zI_uJ, zI_uA, zI_uB, zI_uR, zI_uN, zJ_uI, zJ_uJ, zJ_uA, zJ_uB, zJ_uR, zJ_uN, zA_uI, zA_uJ, zA_uA, zA_uB, zA_uR, zA_uN, zB_uI, zB_uJ, zB_uA, zB_uB, zB_uR, zB_uN, zR_uI, zR_uJ, zR_uA, zR_uB, zR_uR, zR_uN, zN_uI, zN_uJ, zN_uA, zN_uB, zN_uR, zN_uN, zI_ne, zJ_ne, zA_ne, zB_ne, zR_ne, zN_ne, bi_T, bi_F, nz16, ↓reduceIte, not_true_eq_false, not_false_eq_true, Bool.false_eq_true, reduceCtorEq, hin, fa_or, Nat.or_zero]
            exact nx'
theorem nbs_ok (g : Gh) (hg : okG g) : (∀ a, a < 8 → nbs g a < 256) ∧ ∀ a b, (nbs g a).testBit b = true ↔ ∃ e, e ∈ eds g ∧ ((e.1 = a ∧ e.2 = b) ∨ (e.2 = a ∧ e.1 = b)) := by
  have hN := hg.1
  constructor
  · have aux : ∀ (l : List (Nat × Nat)) (nb : Nat → Nat), (∀ e, e ∈ l → e ∈ eds g) → (∀ a, a < 8 → nb a < 256) → ∀ a, a < 8 → l.foldl jn nb a < 256 := by
      intro l
      induction l with
      | nil => intro nb _ h; exact h
      | cons e l ih =>
        intro nb hl h
        have he := eds_ok (hl e List.mem_cons_self)
        exact ih _ (fun x hx => hl x (List.mem_cons_of_mem _ hx)) (jn_lt h (by omega) (by omega))
    exact aux (eds g) _ (fun _ h => h) (fun _ _ => by decide)
  · intro a b
    have := jns_bit (eds g) (fun _ => 0) (fun e he => (eds_ok he).2.2) a b
    rw [Nat.zero_testBit] at this
    unfold nbs
    rw [this]
    simp
theorem c_one {σ : St} {g : Gh} (hg : okG g) (hj : JC σ g) {r : Nat} (hr : r < gN g) : ∃ τ, fX0_joined σ (nI r) = some (nI (itr (rnC (nbs g)) 8 (2 ^ r)), τ) ∧ SE σ τ := by
  have h18 := hj.1
  have hN := hg.1
  have hnb := nbs_ok g hg
  have p256 : 2 ^ r < 256 := p2lt (by omega)
  have pN : 1 ≤ 2 ^ gN g := Nat.one_le_two_pow
  have zero := it_for (β := Nat → Int32) (body := fun (kb : (St × Int32) → Option (Int32 × St)) (t : St × Int32) => fX0_joined_L14 (nI r) (nI (tA g)) (fun s4 => fX0_joined_P35 (nI r) (nI (tA g)) (fun s12 => fX0_joined_P98 s12 (nI (2 ^ r)) (nI 0)) s4 (nI 0)) (fun σ v3 => kb (σ, v3)) t.1 t.2) 8 (by omega) (fun i f => (uA σ 34 f, nI i)) (fun i f => ∀ j, j < i → f j = nI 0) (fun i f z => ∃ τ, z = some (nI (itr (rnC (nbs g)) 8 (2 ^ r)), τ) ∧ SE σ τ) ?_ 0 (zA σ 34) (Nat.zero_le _) (fun j h => absurd h (Nat.not_lt_zero _))
  · rw [uA_self] at zero
    have e31 : nI (2 ^ gN g) - nI 1 = nI (tA g) := pI_sub pN
    unfold fX0_joined fX7_number
    simp (disch := omega) only [l0, l1, l2, l3, l4, l5, l6, l7, l8, l9, l10, l11, l12, l16, l18, l19, l20, l21, l24, l96, l128, l100, l144, l200, l256, l288, l1536, l1728, l1800, bnd, nI_add, pk_mul, pI_sub, pI_m1, pT_le, pF_le, pT_lt, pF_lt, pT_eq, pF_eq, pF_m1, mF_eq, mT_eq, mT_lt, mF_le, lm1, rd_nI, wr_nI, cl_nI, pk_us, un_ne, pk_uLs, uL_ne, zI_uI, zI_uJ, zI_uA, zI_uB, zI_uR, zI_uN, zJ_uI, zJ_uJ, zJ_uA, zJ_uB, zJ_uR, zJ_uN, zA_uI, zA_uJ, zA_uA, zA_uB, zA_uR, zA_uN, zB_uI, zB_uJ, zB_uA, zB_uB, zB_uR, zB_uN, zR_uI, zR_uJ, zR_uA, zR_uB, zR_uR, zR_uN, zN_uI, zN_uJ, zN_uA, zN_uB, zN_uR, zN_uN, zI_ne, zJ_ne, zA_ne, zB_ne, zR_ne, zN_ne, bi_T, bi_F, nz16, ↓reduceIte, not_true_eq_false, not_false_eq_true, Bool.false_eq_true, reduceCtorEq, h18, shl1]
    exact zero
  · intro i f hi hf kb hkb
    show ∃ τ, fX0_joined_L14 _ _ _ _ (uA σ 34 f) (nI i) = _ ∧ _
    unfold fX0_joined_L14
    by_cases hi8 : i = 8
    · have h1 := c_nbs hg hj (by omega) (nI r) (fun s12 => fX0_joined_P98 s12 (nI (2 ^ r)) (nI 0)) (R := fun z => ∃ τ, z = some (nI (itr (rnC (nbs g)) 8 (2 ^ r)), τ) ∧ SE σ τ) (fun f3 hf3 => ⟨uA σ 34 f3, c_rounds p256 hnb.1 (by rw [zA_uA]; exact hf3), SE.uA (by decide)⟩) f (fun j hj => hf j (by omega))
      simp (disch := omega) only [l0, l1, l2, l3, l4, l5, l6, l7, l8, l9, l10, l11, l12, l16, l18, l19, l20, l21, l24, l96, l128, l100, l144, l200, l256, l288, l1536, l1728, l1800, bnd, nI_add, pk_mul, pI_sub, pI_m1, pT_le, pF_le, pT_lt, pF_lt, pT_eq, pF_eq, pF_m1, mF_eq, mT_eq, mT_lt, mF_le, lm1, rd_nI, wr_nI, cl_nI, pk_us, un_ne, pk_uLs, uL_ne, zI_uI, zI_uJ, zI_uA, zI_uB, zI_uR, zI_uN, zJ_uI, zJ_uJ, zJ_uA, zJ_uB, zJ_uR, zJ_uN, zA_uI, zA_uJ, zA_uA, zA_uB, zA_uR, zA_uN, zB_uI, zB_uJ, zB_uA, zB_uB, zB_uR, zB_uN, zR_uI, zR_uJ, zR_uA, zR_uB, zR_uR, zR_uN, zN_uI, zN_uJ, zN_uA, zN_uB, zN_uR, zN_uN, zI_ne, zJ_ne, zA_ne, zB_ne, zR_ne, zN_ne, bi_T, bi_F, nz16, ↓reduceIte, not_true_eq_false, not_false_eq_true, Bool.false_eq_true, reduceCtorEq, hi8]
      exact h1
    · have nx := hkb (upd f i (nI 0)) (by omega) (fun j hj => by
        by_cases e : j = i
        · rw [e, pk_us]
        · rw [pk_un e]; exact hf j (by omega))
      simp (disch := omega) only [l0, l1, l2, l3, l4, l5, l6, l7, l8, l9, l10, l11, l12, l16, l18, l19, l20, l21, l24, l96, l128, l100, l144, l200, l256, l288, l1536, l1728, l1800, bnd, nI_add, pk_mul, pI_sub, pI_m1, pT_le, pF_le, pT_lt, pF_lt, pT_eq, pF_eq, pF_m1, mF_eq, mT_eq, mT_lt, mF_le, lm1, rd_nI, wr_nI, cl_nI, pk_us, un_ne, pk_uLs, uL_ne, zI_uI, zI_uJ, zI_uA, zI_uB, zI_uR, zI_uN, zJ_uI, zJ_uJ, zJ_uA, zJ_uB, zJ_uR, zJ_uN, zA_uI, zA_uJ, zA_uA, zA_uB, zA_uR, zA_uN, zB_uI, zB_uJ, zB_uA, zB_uB, zB_uR, zB_uN, zR_uI, zR_uJ, zR_uA, zR_uB, zR_uR, zR_uN, zN_uI, zN_uJ, zN_uA, zN_uB, zN_uR, zN_uN, zI_ne, zJ_ne, zA_ne, zB_ne, zR_ne, zN_ne, bi_T, bi_F, nz16, ↓reduceIte, not_true_eq_false, not_false_eq_true, Bool.false_eq_true, reduceCtorEq, uA_uA]
      exact nx
/-! the model -/
theorem kd_one {g : Gh} {lim s : Nat} (h : vd g s = true) : kd g lim (tA g) s = 1 ↔ mb g (tA g) s = 1 := by
  unfold kd
  by_cases h0 : (gC g s).length = 0
  · rw [if_pos h0]
    have hm : mb g (tA g) s = 0 := by
      unfold mb
      rw [List.countP_eq_zero]
      intro o _ hx
      rw [Bool.and_eq_true] at hx
      unfold eg at hx
      exact (of_decide_eq_true hx.2).1 h0
    omega
  · rw [if_neg h0]
    by_cases h1 : mb g (tA g) s = 0
    · rw [if_pos h1]
      split
      · omega
      · split <;> omega
    · rw [if_neg h1]
      split <;> omega
theorem m_lowMet {σ : St} {g : Gh} (hg : okG g) (hj : JM σ g) (hN1 : 1 ≤ gN g) {s o : Nat} (h : vd g s = true) (hl : lmO g s = some o) (v3 v4 : Int32) (k1 : Int32 → Option (Int32 × St)) : fX12_one_P77 (nI (tA g)) v3 v4 (nI s) k1 σ (nI 0) = k1 (nI o) := by
  have hs := vd_lt hg h
  have ht := al_lt hg (tA_al hN1)
  have e0 : (List.range 128).find? (fun o => vd g o && (decide (o / 16 ≠ s / 16) && eg g s o)) = some o := by
    unfold lmO sp at hl
    rw [List.find?_filter] at hl
    rw [← hl]
    congr 1
    funext o
    rw [Bool.decide_and, Bool.decide_eq_true, Bool.decide_eq_true]
  have key := it_for (β := Unit) (body := fun (kb : Int32 → Option (Int32 × St)) (x : Int32) => fX12_one_L77 (nI (tA g)) v3 v4 (nI s) k1 (fun v6 => kb v6) σ x) 128 (by omega) (fun k _ => nI k) (fun k _ => ((List.range 128).drop k).find? (fun o => vd g o && (decide (o / 16 ≠ s / 16) && eg g s o)) = some o) (fun k _ z => z = k1 (nI o)) ?_ 0 () (Nat.zero_le _) e0
  · exact key
  · intro k _ hk hI kb hkb
    show fX12_one_L77 _ _ _ _ _ _ _ (nI k) = _
    unfold fX12_one_L77
    by_cases hkn : k = 128
    · have e1 : (List.range 128).drop k = [] := List.drop_of_length_le (by rw [List.length_range]; omega)
      rw [e1] at hI
      cases hI
    · have hof := m_isOthers hg hj (s := s) (t := tA g) (o := k) ht hs (by omega)
      rw [rng_drop (by omega)] at hI
      cases hv : vd g k with
      | false =>
        rw [List.find?_cons_of_neg (by rw [hv, Bool.false_and]; decide)] at hI
        rw [hv, Bool.false_and] at hof
        simp (disch := omega) only [l0, l1, l2, l3, l4, l5, l6, l7, l8, l9, l10, l11, l12, l16, l18, l19, l20, l21, l24, l96, l128, l100, l144, l200, l256, l288, l1536, l1728, l1800, bnd, nI_add, pk_mul, pI_sub, pI_m1, pT_le, pF_le, pT_lt, pF_lt, pT_eq, pF_eq, pF_m1, mF_eq, mT_eq, mT_lt, mF_le, lm1, rd_nI, wr_nI, cl_nI, pk_us, un_ne, pk_uLs, uL_ne, zI_uI, zI_uJ, zI_uA, zI_uB, zI_uR, zI_uN, zJ_uI, zJ_uJ, zJ_uA, zJ_uB, zJ_uR, zJ_uN, zA_uI, zA_uJ, zA_uA, zA_uB, zA_uR, zA_uN, zB_uI, zB_uJ, zB_uA, zB_uB, zB_uR, zB_uN, zR_uI, zR_uJ, zR_uA, zR_uB, zR_uR, zR_uN, zN_uI, zN_uJ, zN_uA, zN_uB, zN_uR, zN_uN, zI_ne, zJ_ne, zA_ne, zB_ne, zR_ne, zN_ne, bi_T, bi_F, nz16, ↓reduceIte, not_true_eq_false, not_false_eq_true, Bool.false_eq_true, reduceCtorEq, hof]
        exact hkb () (by omega) hI
      | true =>
        rw [hv, Bool.true_and, tA_ot hv] at hof
        by_cases hr : k / 16 = s / 16
        · rw [List.find?_cons_of_neg (by rw [decide_eq_false (fun x => x hr), Bool.false_and, Bool.and_false]; decide)] at hI
          rw [decide_eq_false (fun x => x hr)] at hof
          simp (disch := omega) only [l0, l1, l2, l3, l4, l5, l6, l7, l8, l9, l10, l11, l12, l16, l18, l19, l20, l21, l24, l96, l128, l100, l144, l200, l256, l288, l1536, l1728, l1800, bnd, nI_add, pk_mul, pI_sub, pI_m1, pT_le, pF_le, pT_lt, pF_lt, pT_eq, pF_eq, pF_m1, mF_eq, mT_eq, mT_lt, mF_le, lm1, rd_nI, wr_nI, cl_nI, pk_us, un_ne, pk_uLs, uL_ne, zI_uI, zI_uJ, zI_uA, zI_uB, zI_uR, zI_uN, zJ_uI, zJ_uJ, zJ_uA, zJ_uB, zJ_uR, zJ_uN, zA_uI, zA_uJ, zA_uA, zA_uB, zA_uR, zA_uN, zB_uI, zB_uJ, zB_uA, zB_uB, zB_uR, zB_uN, zR_uI, zR_uJ, zR_uA, zR_uB, zR_uR, zR_uN, zN_uI, zN_uJ, zN_uA, zN_uB, zN_uR, zN_uN, zI_ne, zJ_ne, zA_ne, zB_ne, zR_ne, zN_ne, bi_T, bi_F, nz16, ↓reduceIte, not_true_eq_false, not_false_eq_true, Bool.false_eq_true, reduceCtorEq, hof]
          exact hkb () (by omega) hI
        · rw [decide_eq_true hr] at hof
          have hcl := m_endsIt hg hj h hv
          cases he : eg g s k with
          | false =>
            rw [List.find?_cons_of_neg (by rw [he, Bool.and_false, Bool.and_false]; decide)] at hI
            rw [he] at hcl
            simp (disch := omega) only [l0, l1, l2, l3, l4, l5, l6, l7, l8, l9, l10, l11, l12, l16, l18, l19, l20, l21, l24, l96, l128, l100, l144, l200, l256, l288, l1536, l1728, l1800, bnd, nI_add, pk_mul, pI_sub, pI_m1, pT_le, pF_le, pT_lt, pF_lt, pT_eq, pF_eq, pF_m1, mF_eq, mT_eq, mT_lt, mF_le, lm1, rd_nI, wr_nI, cl_nI, pk_us, un_ne, pk_uLs, uL_ne, zI_uI, zI_uJ, zI_uA, zI_uB, zI_uR, zI_uN, zJ_uI, zJ_uJ, zJ_uA, zJ_uB, zJ_uR, zJ_uN, zA_uI, zA_uJ, zA_uA, zA_uB, zA_uR, zA_uN, zB_uI, zB_uJ, zB_uA, zB_uB, zB_uR, zB_uN, zR_uI, zR_uJ, zR_uA, zR_uB, zR_uR, zR_uN, zN_uI, zN_uJ, zN_uA, zN_uB, zN_uR, zN_uN, zI_ne, zJ_ne, zA_ne, zB_ne, zR_ne, zN_ne, bi_T, bi_F, nz16, ↓reduceIte, not_true_eq_false, not_false_eq_true, Bool.false_eq_true, reduceCtorEq, hof, hcl]
            exact hkb () (by omega) hI
          | true =>
            rw [List.find?_cons_of_pos (by rw [hv, he, decide_eq_true hr]; rfl)] at hI
            cases hI
            rw [he] at hcl
            simp (disch := omega) only [l0, l1, l2, l3, l4, l5, l6, l7, l8, l9, l10, l11, l12, l16, l18, l19, l20, l21, l24, l96, l128, l100, l144, l200, l256, l288, l1536, l1728, l1800, bnd, nI_add, pk_mul, pI_sub, pI_m1, pT_le, pF_le, pT_lt, pF_lt, pT_eq, pF_eq, pF_m1, mF_eq, mT_eq, mT_lt, mF_le, lm1, rd_nI, wr_nI, cl_nI, pk_us, un_ne, pk_uLs, uL_ne, zI_uI, zI_uJ, zI_uA, zI_uB, zI_uR, zI_uN, zJ_uI, zJ_uJ, zJ_uA, zJ_uB, zJ_uR, zJ_uN, zA_uI, zA_uJ, zA_uA, zA_uB, zA_uR, zA_uN, zB_uI, zB_uJ, zB_uA, zB_uB, zB_uR, zB_uN, zR_uI, zR_uJ, zR_uA, zR_uB, zR_uR, zR_uN, zN_uI, zN_uJ, zN_uA, zN_uB, zN_uR, zN_uN, zI_ne, zJ_ne, zA_ne, zB_ne, zR_ne, zN_ne, bi_T, bi_F, nz16, ↓reduceIte, not_true_eq_false, not_false_eq_true, Bool.false_eq_true, reduceCtorEq, hof, hcl]
theorem m_turn {σ : St} {g : Gh} {lim : Nat} (h : RI σ g lim) (hN1 : 1 ≤ gN g) {X : Nat} (hX : X < 256) (v4 : Int32) (k1 : St → Int32 → Option (Int32 × St)) {R : Option (Int32 × St) → Prop} (hR : ∀ τ, SE σ τ → R (k1 τ (nI (rnM (eds g) X)))) : R (fX12_one_P43 (nI (tA g)) v4 k1 σ (nI X) (nI 0)) := by
  have hg := h.1
  have hl8 := h.2.2.2.1
  have hN := hg.1
  have ht := al_lt hg (tA_al hN1)
  have key := it_for (β := St × Nat) (body := fun (kb : (St × Int32 × Int32) → Option (Int32 × St)) (t : St × Int32 × Int32) => fX12_one_L43 (nI (tA g)) v4 k1 (fun σ v3 v5 => kb (σ, v3, v5)) t.1 t.2.1 t.2.2) 128 (by omega) (fun i b => (b.1, nI b.2, nI i)) (fun i b => SE σ b.1 ∧ b.2 < 256 ∧ (((List.range 128).drop i).filterMap (fun s => if vd g s = true then edS g s else none)).foldl (fun x e => if x.testBit e.1 = true ∨ x.testBit e.2 = true then x ||| (2 ^ e.1 ||| 2 ^ e.2) else x) b.2 = rnM (eds g) X) (fun i b z => R z) ?_ 0 (σ, X) (Nat.zero_le _) ⟨SE.rf σ, hX, by
    show (((List.range 128).filterMap (fun s => if vd g s = true then edS g s else none))).foldl _ X = _
    unfold rnM eds sp
    rw [List.filterMap_filter]⟩
  · exact key
  · rintro i ⟨τ, Y⟩ hi ⟨se, hY, hF⟩ kb hkb
    have se : SE σ τ := se
    have hY : Y < 256 := hY
    have hF : (((List.range 128).drop i).filterMap (fun s => if vd g s = true then edS g s else none)).foldl (fun x e => if x.testBit e.1 = true ∨ x.testBit e.2 = true then x ||| (2 ^ e.1 ||| 2 ^ e.2) else x) Y = rnM (eds g) X := hF
    show R (fX12_one_L43 _ _ _ _ τ (nI Y) (nI i))
    unfold fX12_one_L43
    have k2 := h.se se
    by_cases hin : i = 128
    · have e1 : (List.range 128).drop i = [] := List.drop_of_length_le (by rw [List.length_range]; omega)
      rw [e1] at hF
      have hF' : Y = rnM (eds g) X := hF
      have := hR τ se
      rw [← hF'] at this
      simp (disch := omega) only [l0, l1, l2, l3, l4, l5, l6, l7, l8, l9, l10, l11, l12, l16, l18, l19, l20, l21, l24, l96, l128, l100, l144, l200, l256, l288, l1536, l1728, l1800, bnd, nI_add, pk_mul, pI_sub, pI_m1, pT_le, pF_le, pT_lt, pF_lt, pT_eq, pF_eq, pF_m1, mF_eq, mT_eq, mT_lt, mF_le, lm1, rd_nI, wr_nI, cl_nI, pk_us, un_ne, pk_uLs, uL_ne, zI_uI, zI_uJ, zI_uA, zI_uB, zI_uR, zI_uN, zJ_uI, zJ_uJ, zJ_uA, zJ_uB, zJ_uR, zJ_uN, zA_uI, zA_uJ, zA_uA, zA_uB, zA_uR, zA_uN, zB_uI, zB_uJ, zB_uA, zB_uB, zB_uR, zB_uN, zR_uI, zR_uJ, zR_uA, zR_uB, zR_uR, zR_uN, zN_uI, zN_uJ, zN_uA, zN_uB, zN_uR, zN_uN, zI_ne, zJ_ne, zA_ne, zB_ne, zR_ne, zN_ne, bi_T, bi_F, nz16, ↓reduceIte, not_true_eq_false, not_false_eq_true, Bool.false_eq_true, reduceCtorEq, hin]
      exact this
    · have hsp := m_isSpeech hg k2.2.2.1 (s := i) (by omega)
      rw [rng_drop (by omega), List.filterMap_cons] at hF
      cases hv : vd g i with
      | false =>
        rw [hv] at hsp hF
        have nx := hkb (τ, Y) (by omega) ⟨se, hY, hF⟩
        simp (disch := omega) only [l0, l1, l2, l3, l4, l5, l6, l7, l8, l9, l10, l11, l12, l16, l18, l19, l20, l21, l24, l96, l128, l100, l144, l200, l256, l288, l1536, l1728, l1800, bnd, nI_add, pk_mul, pI_sub, pI_m1, pT_le, pF_le, pT_lt, pF_lt, pT_eq, pF_eq, pF_m1, mF_eq, mT_eq, mT_lt, mF_le, lm1, rd_nI, wr_nI, cl_nI, pk_us, un_ne, pk_uLs, uL_ne, zI_uI, zI_uJ, zI_uA, zI_uB, zI_uR, zI_uN, zJ_uI, zJ_uJ, zJ_uA, zJ_uB, zJ_uR, zJ_uN, zA_uI, zA_uJ, zA_uA, zA_uB, zA_uR, zA_uN, zB_uI, zB_uJ, zB_uA, zB_uB, zB_uR, zB_uN, zR_uI, zR_uJ, zR_uA, zR_uB, zR_uR, zR_uN, zN_uI, zN_uJ, zN_uA, zN_uB, zN_uR, zN_uN, zI_ne, zJ_ne, zA_ne, zB_ne, zR_ne, zN_ne, bi_T, bi_F, nz16, ↓reduceIte, not_true_eq_false, not_false_eq_true, Bool.false_eq_true, reduceCtorEq, hsp]
        exact nx
      | true =>
        rw [hv] at hsp hF
        obtain ⟨υ, d1, d2⟩ := m_kindOf hg k2.2.2.1 hv ht (show lim < 100 by omega) k2.2.2.2.2.2
        have hkd := kd_le g lim (tA g) i
        have k3 := k2.se d2
        by_cases hm : mb g (tA g) i = 1
        · obtain ⟨o, h1, h2, h3⟩ := lm_some hm
          have hol := vd_lt hg h2
          have he : edS g i = some (i / 16, o / 16) := by unfold edS; rw [if_pos hm, h1]; rfl
          rw [if_pos rfl, he] at hF
          have hF2 : ((List.filterMap (fun s => if vd g s = true then edS g s else none) (List.drop (i + 1) (List.range 128)))).foldl (fun x e => if x.testBit e.1 = true ∨ x.testBit e.2 = true then x ||| (2 ^ e.1 ||| 2 ^ e.2) else x) (if Y.testBit (i / 16) = true ∨ Y.testBit (o / 16) = true then Y ||| (2 ^ (i / 16) ||| 2 ^ (o / 16)) else Y) = rnM (eds g) X := hF
          have k1' : kd g lim (tA g) i = 1 := (kd_one hv).mpr hm
          rw [k1'] at d1
          have hlm := fun v3 k1 => m_lowMet hg k3.2.2.1 hN1 hv h1 v3 v4 k1
          have hb1 := m_has (t := Y) (r := i / 16) (by omega) (by omega)
          have hb2 := m_has (t := Y) (r := o / 16) (by omega) (by omega)
          have hor : Y ||| (2 ^ (i / 16) ||| 2 ^ (o / 16)) < 256 := Nat.or_lt_two_pow (n := 8) hY (Nat.or_lt_two_pow (n := 8) (p2lt (by omega)) (p2lt (by omega)))
          cases c1 : Y.testBit (i / 16) with
          | true =>
            rw [c1] at hb1
            rw [if_pos (Or.inl c1)] at hF2
            have nx := hkb (υ, Y ||| (2 ^ (i / 16) ||| 2 ^ (o / 16))) (by omega) ⟨se.tr d2, hor, hF2⟩
            simp (disch := omega) only [l0, l1, l2, l3, l4, l5, l6, l7, l8, l9, l10, l11, l12, l16, l18, l19, l20, l21, l24, l96, l128, l100, l144, l200, l256, l288, l1536, l1728, l1800, bnd, nI_add, pk_mul, pI_sub, pI_m1, pT_le, pF_le, pT_lt, pF_lt, pT_eq, pF_eq, pF_m1, mF_eq, mT_eq, mT_lt, mF_le, lm1, rd_nI, wr_nI, cl_nI, pk_us, un_ne, pk_uLs, uL_ne, zI_uI, zI_uJ, zI_uA, zI_uB, zI_uR, zI_uN, zJ_uI, zJ_uJ, zJ_uA, zJ_uB, zJ_uR, zJ_uN, zA_uI, zA_uJ, zA_uA, zA_uB, zA_uR, zA_uN, zB_uI, zB_uJ, zB_uA, zB_uB, zB_uR, zB_uN, zR_uI, zR_uJ, zR_uA, zR_uB, zR_uR, zR_uN, zN_uI, zN_uJ, zN_uA, zN_uB, zN_uR, zN_uN, zI_ne, zJ_ne, zA_ne, zB_ne, zR_ne, zN_ne, bi_T, bi_F, nz16, ↓reduceIte, not_true_eq_false, not_false_eq_true, Bool.false_eq_true, reduceCtorEq, hsp, d1, hlm, pk_div, hb1, shl1, fa_or]
            exact nx
          | false =>
            rw [c1] at hb1
            cases c2 : Y.testBit (o / 16) with
            | true =>
              rw [c2] at hb2
              rw [if_pos (Or.inr c2)] at hF2
              have nx := hkb (υ, Y ||| (2 ^ (i / 16) ||| 2 ^ (o / 16))) (by omega) ⟨se.tr d2, hor, hF2⟩
              simp (disch := omega) only [l0, l1, l2, l3, l4, l5, l6, l7, l8, l9, l10, l11, l12, l16, l18, l19, l20, l21, l24, l96, l128, l100, l144, l200, l256, l288, l1536, l1728, l1800, bnd, nI_add, pk_mul, pI_sub, pI_m1, pT_le, pF_le, pT_lt, pF_lt, pT_eq, pF_eq, pF_m1, mF_eq, mT_eq, mT_lt, mF_le, lm1, rd_nI, wr_nI, cl_nI, pk_us, un_ne, pk_uLs, uL_ne, zI_uI, zI_uJ, zI_uA, zI_uB, zI_uR, zI_uN, zJ_uI, zJ_uJ, zJ_uA, zJ_uB, zJ_uR, zJ_uN, zA_uI, zA_uJ, zA_uA, zA_uB, zA_uR, zA_uN, zB_uI, zB_uJ, zB_uA, zB_uB, zB_uR, zB_uN, zR_uI, zR_uJ, zR_uA, zR_uB, zR_uR, zR_uN, zN_uI, zN_uJ, zN_uA, zN_uB, zN_uR, zN_uN, zI_ne, zJ_ne, zA_ne, zB_ne, zR_ne, zN_ne, bi_T, bi_F, nz16, ↓reduceIte, not_true_eq_false, not_false_eq_true, Bool.false_eq_true, reduceCtorEq, hsp, d1, hlm, pk_div, hb1, hb2, shl1, fa_or]
              exact nx
            | false =>
              rw [c2] at hb2
              rw [if_neg (by rw [c1, c2]; decide)] at hF2
              have nx := hkb (υ, Y) (by omega) ⟨se.tr d2, hY, hF2⟩
              simp (disch := omega) only [l0, l1, l2, l3, l4, l5, l6, l7, l8, l9, l10, l11, l12, l16, l18, l19, l20, l21, l24, l96, l128, l100, l144, l200, l256, l288, l1536, l1728, l1800, bnd, nI_add, pk_mul, pI_sub, pI_m1, pT_le, pF_le, pT_lt, pF_lt, pT_eq, pF_eq, pF_m1, mF_eq, mT_eq, mT_lt, mF_le, lm1, rd_nI, wr_nI, cl_nI, pk_us, un_ne, pk_uLs, uL_ne, zI_uI, zI_uJ, zI_uA, zI_uB, zI_uR, zI_uN, zJ_uI, zJ_uJ, zJ_uA, zJ_uB, zJ_uR, zJ_uN, zA_uI, zA_uJ, zA_uA, zA_uB, zA_uR, zA_uN, zB_uI, zB_uJ, zB_uA, zB_uB, zB_uR, zB_uN, zR_uI, zR_uJ, zR_uA, zR_uB, zR_uR, zR_uN, zN_uI, zN_uJ, zN_uA, zN_uB, zN_uR, zN_uN, zI_ne, zJ_ne, zA_ne, zB_ne, zR_ne, zN_ne, bi_T, bi_F, nz16, ↓reduceIte, not_true_eq_false, not_false_eq_true, Bool.false_eq_true, reduceCtorEq, hsp, d1, hlm, pk_div, hb1, hb2]
              exact nx
        · have he : edS g i = none := by unfold edS; rw [if_neg hm]
          rw [if_pos rfl, he] at hF
          have k1' : kd g lim (tA g) i ≠ 1 := fun x => hm ((kd_one hv).mp x)
          have nx := hkb (υ, Y) (by omega) ⟨se.tr d2, hY, hF⟩
          simp (disch := omega) only [l0, l1, l2, l3, l4, l5, l6, l7, l8, l9, l10, l11, l12, l16, l18, l19, l20, l21, l24, l96, l128, l100, l144, l200, l256, l288, l1536, l1728, l1800, bnd, nI_add, pk_mul, pI_sub, pI_m1, pT_le, pF_le, pT_lt, pF_lt, pT_eq, pF_eq, pF_m1, mF_eq, mT_eq, mT_lt, mF_le, lm1, rd_nI, wr_nI, cl_nI, pk_us, un_ne, pk_uLs, uL_ne, zI_uI, zI_uJ, zI_uA, zI_uB, zI_uR, zI_uN, zJ_uI, zJ_uJ, zJ_uA, zJ_uB, zJ_uR, zJ_uN, zA_uI, zA_uJ, zA_uA, zA_uB, zA_uR, zA_uN, zB_uI, zB_uJ, zB_uA, zB_uB, zB_uR, zB_uN, zR_uI, zR_uJ, zR_uA, zR_uB, zR_uR, zR_uN, zN_uI, zN_uJ, zN_uA, zN_uB, zN_uR, zN_uN, zI_ne, zJ_ne, zA_ne, zB_ne, zR_ne, zN_ne, bi_T, bi_F, nz16, ↓reduceIte, not_true_eq_false, not_false_eq_true, Bool.false_eq_true, reduceCtorEq, hsp, d1]
          exact nx
theorem m_one {σ : St} {g : Gh} {lim : Nat} (h : RI σ g lim) (hN1 : 1 ≤ gN g) {X : Nat} (hX : X < 256) : ∃ τ, fX12_one_P31 (nI (tA g)) σ (nI X) (nI 0) = some (nI (itr (rnM (eds g)) (gN g) X), τ) ∧ SE σ τ := by
  have hg := h.1
  have hN := hg.1
  have ltM : ∀ X, X < 256 → rnM (eds g) X < 256 := fun X hX => foldM_lt _ X (fun e he => by have := eds_ok he; omega) hX
  have key := it_for (β := St × Nat) (body := fun (kb : (St × Int32 × Int32) → Option (Int32 × St)) (t : St × Int32 × Int32) => fX12_one_L31 (nI (tA g)) (fun σ v3 v4 => kb (σ, v3, v4)) t.1 t.2.1 t.2.2) (gN g) (by omega) (fun i b => (b.1, nI b.2, nI i)) (fun i b => SE σ b.1 ∧ b.2 < 256 ∧ itr (rnM (eds g)) (gN g - i) b.2 = itr (rnM (eds g)) (gN g) X) (fun i b z => ∃ τ, z = some (nI (itr (rnM (eds g)) (gN g) X), τ) ∧ SE σ τ) ?_ 0 (σ, X) (Nat.zero_le _) ⟨SE.rf σ, hX, rfl⟩
  · exact key
  · rintro i ⟨τ, Y⟩ hi ⟨se, hY, hI⟩ kb hkb
    have se : SE σ τ := se
    have hY : Y < 256 := hY
    have hI : itr (rnM (eds g)) (gN g - i) Y = itr (rnM (eds g)) (gN g) X := hI
    show ∃ τ', fX12_one_L31 _ _ τ (nI Y) (nI i) = _ ∧ _
    unfold fX12_one_L31
    have k2 := h.se se
    have h32 := k2.2.2.1.1
    by_cases hin : i = gN g
    · have e : itr (rnM (eds g)) (gN g - i) Y = Y := by rw [hin, Nat.sub_self]; rfl
      refine ⟨τ, ?_, se⟩
      rw [← hI, e]
      simp (disch := omega) only [l0, l1, l2, l3, l4, l5, l6, l7, l8, l9, l10, l11, l12, l16, l18, l19, l20, l21, l24, l96, l128, l100, l144, l200, l256, l288, l1536, l1728, l1800, bnd, nI_add, pk_mul, pI_sub, pI_m1, pT_le, pF_le, pT_lt, pF_lt, pT_eq, pF_eq, pF_m1, mF_eq, mT_eq, mT_lt, mF_le, lm1, rd_nI, wr_nI, cl_nI, pk_us, un_ne, pk_uLs, uL_ne, zI_uI, zI_uJ, zI_uA, zI_uB, zI_uR, zI_uN, zJ_uI, zJ_uJ, zJ_uA, zJ_uB, zJ_uR, zJ_uN, zA_uI, zA_uJ, zA_uA, zA_uB, zA_uR, zA_uN, zB_uI, zB_uJ, zB_uA, zB_uB, zB_uR, zB_uN, zR_uI, zR_uJ, zR_uA, zR_uB, zR_uR, zR_uN, zN_uI, zN_uJ, zN_uA, zN_uB, zN_uR, zN_uN, zI_ne, zJ_ne, zA_ne, zB_ne, zR_ne, zN_ne, bi_T, bi_F, nz16, ↓reduceIte, not_true_eq_false, not_false_eq_true, Bool.false_eq_true, reduceCtorEq, h32, hin]
    · rw [show gN g - i = (gN g - (i + 1)) + 1 by omega] at hI
      have ht := m_turn k2 hN1 hY (nI i) (fun s14 x15 => kb (s14, x15, nI (i + 1))) (R := fun z => ∃ τ', z = some (nI (itr (rnM (eds g)) (gN g) X), τ') ∧ SE σ τ') (fun υ d => hkb (υ, rnM (eds g) Y) (by omega) ⟨se.tr d, ltM Y hY, hI⟩)
      simp (disch := omega) only [l0, l1, l2, l3, l4, l5, l6, l7, l8, l9, l10, l11, l12, l16, l18, l19, l20, l21, l24, l96, l128, l100, l144, l200, l256, l288, l1536, l1728, l1800, bnd, nI_add, pk_mul, pI_sub, pI_m1, pT_le, pF_le, pT_lt, pF_lt, pT_eq, pF_eq, pF_m1, mF_eq, mT_eq, mT_lt, mF_le, lm1, rd_nI, wr_nI, cl_nI, pk_us, un_ne, pk_uLs, uL_ne, zI_uI, zI_uJ, zI_uA, zI_uB, zI_uR, zI_uN, zJ_uI, zJ_uJ, zJ_uA, zJ_uB, zJ_uR, zJ_uN, zA_uI, zA_uJ, zA_uA, zA_uB, zA_uR, zA_uN, zB_uI, zB_uJ, zB_uA, zB_uB, zB_uR, zB_uN, zR_uI, zR_uJ, zR_uA, zR_uB, zR_uR, zR_uN, zN_uI, zN_uJ, zN_uA, zN_uB, zN_uR, zN_uN, zI_ne, zJ_ne, zA_ne, zB_ne, zR_ne, zN_ne, bi_T, bi_F, nz16, ↓reduceIte, not_true_eq_false, not_false_eq_true, Bool.false_eq_true, reduceCtorEq, h32]
      exact ht
theorem t_one {σ : St} {g : Gh} {lim : Nat} (h : RI σ g lim) (p : Int32) : B2 σ (fX11_one σ p) (fun τ => fX12_one τ p) := by
  have s3 := se30 σ (nI 0)
  have hN := h.1.1
  rcases roll2 h p with ⟨r, hr, rfl, e⟩ | e
  · have e1 := (e σ (SE.rf σ)).1
    obtain ⟨τ, c1, c2⟩ := c_one h.1 h.2.1 hr
    have k2 := h.se (c2.tr (se30 τ (nI 0)))
    have e2 := (e _ (c2.tr (se30 τ (nI 0)))).2
    obtain ⟨υ, m1, m2⟩ := m_one k2 (by omega) (X := 2 ^ r) (p2lt (by omega))
    have hnb := nbs_ok g h.1
    have hje := join_eq (nb := nbs g) (ed := eds g) (N := gN g) (r := r) hN hr (fun e he => ⟨(eds_ok he).1, (eds_ok he).2.1⟩) (fun a ha => ⟨hnb.1 a ha, hnb.2 a⟩)
    rw [← hje] at m1
    have h32 := k2.2.2.1.1
    have pN : 1 ≤ 2 ^ gN g := Nat.one_le_two_pow
    refine ⟨nI (itr (rnC (nbs g)) 8 (2 ^ r)), τ, υ, ?_, c2, ?_, (se30 τ _).tr m2⟩
    · unfold fX11_one
      simp (disch := omega) only [l0, l1, l2, l3, l4, l5, l6, l7, l8, l9, l10, l11, l12, l16, l18, l19, l20, l21, l24, l96, l128, l100, l144, l200, l256, l288, l1536, l1728, l1800, bnd, nI_add, pk_mul, pI_sub, pI_m1, pT_le, pF_le, pT_lt, pF_lt, pT_eq, pF_eq, pF_m1, mF_eq, mT_eq, mT_lt, mF_le, lm1, rd_nI, wr_nI, cl_nI, pk_us, un_ne, pk_uLs, uL_ne, zI_uI, zI_uJ, zI_uA, zI_uB, zI_uR, zI_uN, zJ_uI, zJ_uJ, zJ_uA, zJ_uB, zJ_uR, zJ_uN, zA_uI, zA_uJ, zA_uA, zA_uB, zA_uR, zA_uN, zB_uI, zB_uJ, zB_uA, zB_uB, zB_uR, zB_uN, zR_uI, zR_uJ, zR_uA, zR_uB, zR_uR, zR_uN, zN_uI, zN_uJ, zN_uA, zN_uB, zN_uR, zN_uN, zI_ne, zJ_ne, zA_ne, zB_ne, zR_ne, zN_ne, bi_T, bi_F, nz16, ↓reduceIte, not_true_eq_false, not_false_eq_true, Bool.false_eq_true, reduceCtorEq, e1, c1]
    · show fX12_one τ (nI r) = _
      unfold fX12_one
      have h32' : zI τ 32 = nI (gN g) := h32
      simp (disch := omega) only [l0, l1, l2, l3, l4, l5, l6, l7, l8, l9, l10, l11, l12, l16, l18, l19, l20, l21, l24, l96, l128, l100, l144, l200, l256, l288, l1536, l1728, l1800, bnd, nI_add, pk_mul, pI_sub, pI_m1, pT_le, pF_le, pT_lt, pF_lt, pT_eq, pF_eq, pF_m1, mF_eq, mT_eq, mT_lt, mF_le, lm1, rd_nI, wr_nI, cl_nI, pk_us, un_ne, pk_uLs, uL_ne, zI_uI, zI_uJ, zI_uA, zI_uB, zI_uR, zI_uN, zJ_uI, zJ_uJ, zJ_uA, zJ_uB, zJ_uR, zJ_uN, zA_uI, zA_uJ, zA_uA, zA_uB, zA_uR, zA_uN, zB_uI, zB_uJ, zB_uA, zB_uB, zB_uR, zB_uN, zR_uI, zR_uJ, zR_uA, zR_uB, zR_uR, zR_uN, zN_uI, zN_uJ, zN_uA, zN_uB, zN_uR, zN_uN, zI_ne, zJ_ne, zA_ne, zB_ne, zR_ne, zN_ne, bi_T, bi_F, nz16, ↓reduceIte, not_true_eq_false, not_false_eq_true, Bool.false_eq_true, reduceCtorEq, e2, h32', shl1]
      exact m1
  · have e1 := (e σ (SE.rf σ)).1
    have e2 := (e _ s3).2
    refine B2.no mI ?_ ?_
    · unfold fX11_one
      simp (disch := omega) only [l0, l1, l2, l3, l4, l5, l6, l7, l8, l9, l10, l11, l12, l16, l18, l19, l20, l21, l24, l96, l128, l100, l144, l200, l256, l288, l1536, l1728, l1800, bnd, nI_add, pk_mul, pI_sub, pI_m1, pT_le, pF_le, pT_lt, pF_lt, pT_eq, pF_eq, pF_m1, mF_eq, mT_eq, mT_lt, mF_le, lm1, rd_nI, wr_nI, cl_nI, pk_us, un_ne, pk_uLs, uL_ne, zI_uI, zI_uJ, zI_uA, zI_uB, zI_uR, zI_uN, zJ_uI, zJ_uJ, zJ_uA, zJ_uB, zJ_uR, zJ_uN, zA_uI, zA_uJ, zA_uA, zA_uB, zA_uR, zA_uN, zB_uI, zB_uJ, zB_uA, zB_uB, zB_uR, zB_uN, zR_uI, zR_uJ, zR_uA, zR_uB, zR_uR, zR_uN, zN_uI, zN_uJ, zN_uA, zN_uB, zN_uR, zN_uN, zI_ne, zJ_ne, zA_ne, zB_ne, zR_ne, zN_ne, bi_T, bi_F, nz16, ↓reduceIte, not_true_eq_false, not_false_eq_true, Bool.false_eq_true, reduceCtorEq, e1]
    · unfold fX12_one
      simp (disch := omega) only [l0, l1, l2, l3, l4, l5, l6, l7, l8, l9, l10, l11, l12, l16, l18, l19, l20, l21, l24, l96, l128, l100, l144, l200, l256, l288, l1536, l1728, l1800, bnd, nI_add, pk_mul, pI_sub, pI_m1, pT_le, pF_le, pT_lt, pF_lt, pT_eq, pF_eq, pF_m1, mF_eq, mT_eq, mT_lt, mF_le, lm1, rd_nI, wr_nI, cl_nI, pk_us, un_ne, pk_uLs, uL_ne, zI_uI, zI_uJ, zI_uA, zI_uB, zI_uR, zI_uN, zJ_uI, zJ_uJ, zJ_uA, zJ_uB, zJ_uR, zJ_uN, zA_uI, zA_uJ, zA_uA, zA_uB, zA_uR, zA_uN, zB_uI, zB_uJ, zB_uA, zB_uB, zB_uR, zB_uN, zR_uI, zR_uJ, zR_uA, zR_uB, zR_uR, zR_uN, zN_uI, zN_uJ, zN_uA, zN_uB, zN_uR, zN_uN, zI_ne, zJ_ne, zA_ne, zB_ne, zR_ne, zN_ne, bi_T, bi_F, nz16, ↓reduceIte, not_true_eq_false, not_false_eq_true, Bool.false_eq_true, reduceCtorEq, e2]
