/-! orders: the class's endedBy and seeWhatFollows -/
theorem oA_same {z : Nat → Nat} {i : Nat} : ∀ d, (∀ r, i ≤ r → r < i + d → z r = 0) → oA z (i + d) = oA z i
  | 0, _ => rfl
  | d + 1, H => by
    have h1 := oA_same d (fun r h1 h2 => H r h1 (by omega))
    have h2 := H (i + d) (by omega) (by omega)
    show oA z (i + d) + z (i + d) = _
    omega
theorem pos_next {g : Gh} {S a : Nat} (hS : S < 256) (ha : a < am S) : oA (zs g S) (rho S (a + 1)) = oA (zs g S) (rho S a) + zs g S (rho S a) := by
  have h1 := rho_am S hS
  have h2 := rho_lt S hS (a + 1) (by omega) a (by omega) (by omega)
  have h3 := oA_same (z := zs g S) (i := rho S a + 1) (rho S (a + 1) - (rho S a + 1)) (fun r h4 h5 => zs_out (by
    by_cases h8 : r < 8
    · exact rho_out S hS a (by omega) r h8 (by omega) (by omega)
    · exfalso
      have h6 : rho S (a + 1) ≤ 8 := by
        by_cases h7 : a + 1 = am S
        · rw [h7, (rho_cnt S hS).2.1]
          omega
        · have := (rho_in S hS (a + 1) (by omega) (by omega)).1
          omega
      omega))
  rw [show rho S a + 1 + (rho S (a + 1) - (rho S a + 1)) = rho S (a + 1) by omega] at h3
  rw [h3]
  rfl
theorem pos_first {g : Gh} {S : Nat} (hS : S < 256) : oA (zs g S) (rho S 0) = 0 := by
  have h3 := oA_same (z := zs g S) (i := 0) (rho S 0) (fun r _ h5 => zs_out (by
    have h1 := rho_am S hS
    by_cases h8 : r < 8
    · exact rho_out0 S hS r h8 (by omega)
    · exfalso
      by_cases h0 : am S = 0
      · have h7 := (rho_cnt S hS).2.1
        rw [h0] at h7
        omega
      · have := (rho_in S hS 0 (by omega) (by omega)).1
        omega))
  rw [Nat.zero_add] at h3
  rw [h3]
  rfl
theorem oA_lt {z : Nat → Nat} {r n : Nat} (hr : r < n) : oA z r + z r ≤ oA z n := by
  have h1 := oA_mono z (r + 1) (n - (r + 1))
  rw [show r + 1 + (n - (r + 1)) = n by omega] at h1
  exact h1
theorem oA_inj {z : Nat → Nat} {r j q k : Nat} (hj : j < z r) (hk : k < z q) (e : oA z r + j = oA z q + k) : r = q ∧ j = k := by
  rcases Nat.lt_trichotomy r q with h | h | h
  · have := oA_lt (z := z) h
    omega
  · subst h
    exact ⟨rfl, by omega⟩
  · have := oA_lt (z := z) h
    omega
def EB (g : Gh) (S s p v : Nat) : Prop := v < 2 ^ p ∧ ∀ r j, r < 8 → j < zs g S r → oA (zs g S) r + j < p → v.testBit (oA (zs g S) r + j) = (decide (r ≠ s / 16) && eg g s (16 * r + j))
theorem EB_step {g : Gh} {S s p v r j : Nat} (h : EB g S s p v) (hr : r < 8) (hj : j < zs g S r) (hp : p = oA (zs g S) r + j) : EB g S s (p + 1) (if (decide (r ≠ s / 16) && eg g s (16 * r + j)) = true then v ||| 2 ^ p else v) := by
  have hlt : v.testBit p = false := Nat.testBit_lt_two_pow h.1
  refine ⟨?_, ?_⟩
  · split
    · exact Nat.or_lt_two_pow (Nat.lt_of_lt_of_le h.1 (Nat.pow_le_pow_right (by decide) (by omega))) (Nat.pow_lt_pow_right (by decide) (by omega))
    · exact Nat.lt_of_lt_of_le h.1 (Nat.pow_le_pow_right (by decide) (by omega))
  · intro q k hq hk hlt2
    by_cases e : oA (zs g S) q + k = p
    · obtain ⟨e1, e2⟩ := oA_inj hk hj (e.trans hp)
      rw [e, e1, e2]
      cases hb : (decide (r ≠ s / 16) && eg g s (16 * r + j)) with
      | true => rw [if_pos rfl, fb_bit_set, decide_eq_true rfl, Bool.or_true]
      | false => rw [if_neg (by decide), hlt]
    · have h3 := h.2 q k hq hk (by omega)
      split
      · rw [fb_bit_set, decide_eq_false e, Bool.or_false]
        exact h3
      · exact h3
theorem c_ended1 {σ : St} {g : Gh} {S s a v : Nat} (k1 : Int32 → Option Int32) (hg : okG g) (hj : JC σ g) (hS : inG g S) (hL : LO σ g S (am S)) (hA : oA (zs g S) 8 ≤ 20) (ha : a < am S) (hs : vd g s = true) (hv : EB g S s (oA (zs g S) (rho S a)) v) : ∃ w, EB g S s (oA (zs g S) (rho S (a + 1))) w ∧ fX2_endedBy_P15 (nI s) (nI a) k1 σ (nI v) (nI 0) = k1 (nI w) := by
  have h1 := rho_am S hS.1
  have hi := rho_in S hS.1 a (by omega) ha
  have hz := zs_le hg hS hi.1
  have hpn := pos_next (g := g) hS.1 ha
  have hlt := oA_lt (z := zs g S) hi.1
  have hs8 := vd_lt hg hs
  have hl := hL a ha
  have key := it_for (β := Nat) (body := fun (kb : (Int32 × Int32) → Option Int32) (t : Int32 × Int32) => fX2_endedBy_L15 (nI s) (nI a) k1 (fun v2 v4 => kb (v2, v4)) σ t.1 t.2) (zs g S (rho S a)) (by omega) (fun j v => (nI v, nI j)) (fun j v => EB g S s (oA (zs g S) (rho S a) + j) v) (fun j v z => ∃ w, EB g S s (oA (zs g S) (rho S (a + 1))) w ∧ z = k1 (nI w)) ?_ 0 v (Nat.zero_le _) hv
  · exact key
  · intro j u hj8 hu kb hkb
    have hu : EB g S s (oA (zs g S) (rho S a) + j) u := hu
    show ∃ w, _ ∧ fX2_endedBy_L15 (nI s) (nI a) k1 (fun v2 v4 => kb (v2, v4)) σ (nI u) (nI j) = _
    unfold fX2_endedBy_L15
    by_cases hjz : j = zs g S (rho S a)
    · refine ⟨u, ?_, ?_⟩
      · rw [hpn, ← hjz]
        exact hu
      · simp (disch := omega) only [l0, l1, l2, l3, l4, l5, l6, l7, l8, l9, l10, l11, l12, l16, l18, l19, l20, l21, l24, l96, l128, l100, l144, l200, l256, l288, l1536, l1728, l1800, bnd, nI_add, pk_mul, pI_sub, pI_m1, pT_le, pF_le, pT_lt, pF_lt, pT_eq, pF_eq, pF_m1, mF_eq, mT_eq, mT_lt, mF_le, lm1, rd_nI, wr_nI, cl_nI, pk_us, un_ne, pk_uLs, uL_ne, zI_uI, zI_uJ, zI_uA, zI_uB, zI_uR, zI_uN, zJ_uI, zJ_uJ, zJ_uA, zJ_uB, zJ_uR, zJ_uN, zA_uI, zA_uJ, zA_uA, zA_uB, zA_uR, zA_uN, zB_uI, zB_uJ, zB_uA, zB_uB, zB_uR, zB_uN, zR_uI, zR_uJ, zR_uA, zR_uB, zR_uR, zR_uN, zN_uI, zN_uJ, zN_uA, zN_uB, zN_uR, zN_uN, zI_ne, zJ_ne, zA_ne, zB_ne, zR_ne, zN_ne, bi_T, bi_F, nz16, ↓reduceIte, not_true_eq_false, not_false_eq_true, Bool.false_eq_true, reduceCtorEq, hl.2.1, hjz]
    · have hjz : j < zs g S (rho S a) := by omega
      have nx := hkb _ hjz (EB_step hu hi.1 hjz rfl)
      have hro := c_rollOf (s := s) (by omega)
      have hvo := zs_vd hg hS hi.1 hjz
      have hcl := c_closes hg hj hs hvo
      by_cases hrs : rho S a = s / 16
      · rw [decide_eq_false (fun h => h hrs), Bool.false_and, if_neg (by decide)] at nx
        simp (disch := omega) only [l0, l1, l2, l3, l4, l5, l6, l7, l8, l9, l10, l11, l12, l16, l18, l19, l20, l21, l24, l96, l128, l100, l144, l200, l256, l288, l1536, l1728, l1800, bnd, nI_add, pk_mul, pI_sub, pI_m1, pT_le, pF_le, pT_lt, pF_lt, pT_eq, pF_eq, pF_m1, mF_eq, mT_eq, mT_lt, mF_le, lm1, rd_nI, wr_nI, cl_nI, pk_us, un_ne, pk_uLs, uL_ne, zI_uI, zI_uJ, zI_uA, zI_uB, zI_uR, zI_uN, zJ_uI, zJ_uJ, zJ_uA, zJ_uB, zJ_uR, zJ_uN, zA_uI, zA_uJ, zA_uA, zA_uB, zA_uR, zA_uN, zB_uI, zB_uJ, zB_uA, zB_uB, zB_uR, zB_uN, zR_uI, zR_uJ, zR_uA, zR_uB, zR_uR, zR_uN, zN_uI, zN_uJ, zN_uA, zN_uB, zN_uR, zN_uN, zI_ne, zJ_ne, zA_ne, zB_ne, zR_ne, zN_ne, bi_T, bi_F, nz16, ↓reduceIte, not_true_eq_false, not_false_eq_true, Bool.false_eq_true, reduceCtorEq, hl.2.1, hl.1, hro]
        exact nx
      · rw [decide_eq_true hrs, Bool.true_and] at nx
        cases he : eg g s (16 * rho S a + j) with
        | true =>
          rw [he] at hcl nx
          rw [if_pos rfl] at nx
          have hsh := shl1 (n := oA (zs g S) (rho S a) + j) (by omega)
          simp (disch := omega) only [l0, l1, l2, l3, l4, l5, l6, l7, l8, l9, l10, l11, l12, l16, l18, l19, l20, l21, l24, l96, l128, l100, l144, l200, l256, l288, l1536, l1728, l1800, bnd, nI_add, pk_mul, pI_sub, pI_m1, pT_le, pF_le, pT_lt, pF_lt, pT_eq, pF_eq, pF_m1, mF_eq, mT_eq, mT_lt, mF_le, lm1, rd_nI, wr_nI, cl_nI, pk_us, un_ne, pk_uLs, uL_ne, zI_uI, zI_uJ, zI_uA, zI_uB, zI_uR, zI_uN, zJ_uI, zJ_uJ, zJ_uA, zJ_uB, zJ_uR, zJ_uN, zA_uI, zA_uJ, zA_uA, zA_uB, zA_uR, zA_uN, zB_uI, zB_uJ, zB_uA, zB_uB, zB_uR, zB_uN, zR_uI, zR_uJ, zR_uA, zR_uB, zR_uR, zR_uN, zN_uI, zN_uJ, zN_uA, zN_uB, zN_uR, zN_uN, zI_ne, zJ_ne, zA_ne, zB_ne, zR_ne, zN_ne, bi_T, bi_F, nz16, ↓reduceIte, not_true_eq_false, not_false_eq_true, Bool.false_eq_true, reduceCtorEq, hl.2.1, hl.1, hl.2.2.2, hro, hcl, hsh, fa_or]
          exact nx
        | false =>
          rw [he] at hcl nx
          rw [if_neg (by decide)] at nx
          simp (disch := omega) only [l0, l1, l2, l3, l4, l5, l6, l7, l8, l9, l10, l11, l12, l16, l18, l19, l20, l21, l24, l96, l128, l100, l144, l200, l256, l288, l1536, l1728, l1800, bnd, nI_add, pk_mul, pI_sub, pI_m1, pT_le, pF_le, pT_lt, pF_lt, pT_eq, pF_eq, pF_m1, mF_eq, mT_eq, mT_lt, mF_le, lm1, rd_nI, wr_nI, cl_nI, pk_us, un_ne, pk_uLs, uL_ne, zI_uI, zI_uJ, zI_uA, zI_uB, zI_uR, zI_uN, zJ_uI, zJ_uJ, zJ_uA, zJ_uB, zJ_uR, zJ_uN, zA_uI, zA_uJ, zA_uA, zA_uB, zA_uR, zA_uN, zB_uI, zB_uJ, zB_uA, zB_uB, zB_uR, zB_uN, zR_uI, zR_uJ, zR_uA, zR_uB, zR_uR, zR_uN, zN_uI, zN_uJ, zN_uA, zN_uB, zN_uR, zN_uN, zI_ne, zJ_ne, zA_ne, zB_ne, zR_ne, zN_ne, bi_T, bi_F, nz16, ↓reduceIte, not_true_eq_false, not_false_eq_true, Bool.false_eq_true, reduceCtorEq, hl.2.1, hl.1, hro, hcl]
          exact nx
theorem c_endedBy {σ : St} {g : Gh} {S s : Nat} (hg : okG g) (hj : JC σ g) (hS : inG g S) (hL : LO σ g S (am S)) (h21 : zI σ 21 = nI (am S)) (hA : oA (zs g S) 8 ≤ 20) (hs : vd g s = true) : ∃ w, EB g S s (oA (zs g S) 8) w ∧ fX2_endedBy σ (nI s) = some (nI w) := by
  have h1 := rho_am S hS.1
  have key := it_for (β := Nat) (body := fun (kb : (Int32 × Int32) → Option Int32) (t : Int32 × Int32) => fX2_endedBy_L4 (nI s) (fun v2 v3 => kb (v2, v3)) σ t.1 t.2) (am S) (by omega) (fun j v => (nI v, nI j)) (fun j v => EB g S s (oA (zs g S) (rho S j)) v) (fun j v z => ∃ w, EB g S s (oA (zs g S) 8) w ∧ z = some (nI w)) ?_ 0 0 (Nat.zero_le _) ?_
  · exact key
  · intro a v ha hv kb hkb
    have hv : EB g S s (oA (zs g S) (rho S a)) v := hv
    show ∃ w, _ ∧ fX2_endedBy_L4 (nI s) (fun v2 v3 => kb (v2, v3)) σ (nI v) (nI a) = _
    unfold fX2_endedBy_L4
    by_cases hae : a = am S
    · refine ⟨v, ?_, ?_⟩
      · rw [hae, (rho_cnt S hS.1).2.1] at hv
        exact hv
      · simp (disch := omega) only [l0, l1, l2, l3, l4, l5, l6, l7, l8, l9, l10, l11, l12, l16, l18, l19, l20, l21, l24, l96, l128, l100, l144, l200, l256, l288, l1536, l1728, l1800, bnd, nI_add, pk_mul, pI_sub, pI_m1, pT_le, pF_le, pT_lt, pF_lt, pT_eq, pF_eq, pF_m1, mF_eq, mT_eq, mT_lt, mF_le, lm1, rd_nI, wr_nI, cl_nI, pk_us, un_ne, pk_uLs, uL_ne, zI_uI, zI_uJ, zI_uA, zI_uB, zI_uR, zI_uN, zJ_uI, zJ_uJ, zJ_uA, zJ_uB, zJ_uR, zJ_uN, zA_uI, zA_uJ, zA_uA, zA_uB, zA_uR, zA_uN, zB_uI, zB_uJ, zB_uA, zB_uB, zB_uR, zB_uN, zR_uI, zR_uJ, zR_uA, zR_uB, zR_uR, zR_uN, zN_uI, zN_uJ, zN_uA, zN_uB, zN_uR, zN_uN, zI_ne, zJ_ne, zA_ne, zB_ne, zR_ne, zN_ne, bi_T, bi_F, nz16, ↓reduceIte, not_true_eq_false, not_false_eq_true, Bool.false_eq_true, reduceCtorEq, h21, hae]
    · obtain ⟨w, h2, h3⟩ := c_ended1 (fun x9 => kb (x9, nI a + nI 1)) hg hj hS hL hA (show a < am S by omega) hs hv
      obtain ⟨w2, h4, h5⟩ := hkb w (by omega) h2
      refine ⟨w2, h4, ?_⟩
      rw [← h5]
      rw [nI_add] at h3
      simp (disch := omega) only [l0, l1, l2, l3, l4, l5, l6, l7, l8, l9, l10, l11, l12, l16, l18, l19, l20, l21, l24, l96, l128, l100, l144, l200, l256, l288, l1536, l1728, l1800, bnd, nI_add, pk_mul, pI_sub, pI_m1, pT_le, pF_le, pT_lt, pF_lt, pT_eq, pF_eq, pF_m1, mF_eq, mT_eq, mT_lt, mF_le, lm1, rd_nI, wr_nI, cl_nI, pk_us, un_ne, pk_uLs, uL_ne, zI_uI, zI_uJ, zI_uA, zI_uB, zI_uR, zI_uN, zJ_uI, zJ_uJ, zJ_uA, zJ_uB, zJ_uR, zJ_uN, zA_uI, zA_uJ, zA_uA, zA_uB, zA_uR, zA_uN, zB_uI, zB_uJ, zB_uA, zB_uB, zB_uR, zB_uN, zR_uI, zR_uJ, zR_uA, zR_uB, zR_uR, zR_uN, zN_uI, zN_uJ, zN_uA, zN_uB, zN_uR, zN_uN, zI_ne, zJ_ne, zA_ne, zB_ne, zR_ne, zN_ne, bi_T, bi_F, nz16, ↓reduceIte, not_true_eq_false, not_false_eq_true, Bool.false_eq_true, reduceCtorEq, h21]
      exact h3
  · rw [pos_first hS.1]
    exact ⟨by decide, fun r j _ _ h => absurd h (Nat.not_lt_zero _)⟩
/-- What a speech follows, as bits. -/
def FB (g : Gh) (S s v : Nat) : Prop := v < 2 ^ 21 ∧ v.testBit 20 = decide ((gC g s).length = 0) ∧ ∀ r j, r < 8 → j < zs g S r → v.testBit (oA (zs g S) r + j) = (decide (r ≠ s / 16) && eg g s (16 * r + j))
theorem eg_cue {g : Gh} {s o : Nat} (h : (gC g s).length = 0) : eg g s o = false := decide_eq_false (fun x => x.1 h)
theorem l1048576 : (1048576 : Int32) = nI 1048576 := nrfl rfl
def FO (τ : St) (g : Gh) (S a n : Nat) : Prop := ∀ b j, (b < a ∨ (b = a ∧ j < n)) → b < am S → j < zs g S (rho S b) → ∃ v, zA τ 39 (oA (zs g S) (rho S b) + j) = nI v ∧ FB g S (16 * rho S b + j) v
theorem FO_step {τ : St} {g : Gh} {S a j v : Nat} (h : FO τ g S a j) (hS : S < 256) (hj : j < zs g S (rho S a)) (hv : FB g S (16 * rho S a + j) v) : FO (uA τ 39 (upd (zA τ 39) (oA (zs g S) (rho S a) + j) (nI v))) g S a (j + 1) := by
  intro b k hb hbm hk
  rw [zA_uA]
  by_cases e : oA (zs g S) (rho S b) + k = oA (zs g S) (rho S a) + j
  · obtain ⟨e1, e2⟩ := oA_inj hk hj e
    rw [e, e1, e2]
    exact ⟨v, pk_us, hv⟩
  · rw [pk_un e]
    refine h b k ?_ hbm hk
    rcases hb with hb | hb
    · exact .inl hb
    · by_cases e2 : k = j
      · exact absurd (by rw [hb.1, e2]) e
      · exact .inr ⟨hb.1, by omega⟩
theorem LO.fr {σ τ : St} {g : Gh} {S n : Nat} {A B K N : List Nat} (h : LO σ g S n) (f : FR A B K N σ τ) (hA : ∀ q, q ∈ [35, 36, 37, 38] → q ∉ A) : LO τ g S n := by
  unfold LO
  rw [f.1 35 (hA 35 (by decide)), f.1 36 (hA 36 (by decide)), f.1 37 (hA 37 (by decide)), f.1 38 (hA 38 (by decide))]
  exact h
theorem c_see1 {σ τ : St} {g : Gh} {S a : Nat} (k1 : St → Option St) (hg : okG g) (hj : JC σ g) (hS : inG g S) (hL : LO σ g S (am S)) (h21 : zI σ 21 = nI (am S)) (hA : oA (zs g S) 8 ≤ 20) (ha : a < am S) (hF : FR [39] [] [] [] σ τ) (hv : FO τ g S a 0) : ∃ υ, FR [39] [] [] [] σ υ ∧ FO υ g S (a + 1) 0 ∧ fX2_seeWhatFollows_P12 (nI a) k1 τ (nI 0) = k1 υ := by
  have h1 := rho_am S hS.1
  have hi := rho_in S hS.1 a (by omega) ha
  have hz := zs_le hg hS hi.1
  have hpn := pos_next (g := g) hS.1 ha
  have hlt := oA_lt (z := zs g S) hi.1
  have key := it_for (β := St) (body := fun (kb : (St × Int32) → Option St) (t : St × Int32) => fX2_seeWhatFollows_L12 (nI a) k1 (fun σ v2 => kb (σ, v2)) t.1 t.2) (zs g S (rho S a)) (by omega) (fun j τ => (τ, nI j)) (fun j τ => FR [39] [] [] [] σ τ ∧ FO τ g S a j) (fun j v z => ∃ υ, FR [39] [] [] [] σ υ ∧ FO υ g S (a + 1) 0 ∧ z = k1 υ) ?_ 0 τ (Nat.zero_le _) ⟨hF, hv⟩
  · exact key
  · rintro j τ hj8 ⟨hF, hO⟩ kb hkb
    have hl := (hL.fr hF (by decide)) a ha
    have hJ := hF.jc (by decide) (by decide) (by decide) hj
    have hl21 : zI τ 21 = nI (am S) := (hF.2.2.1 21 (by decide)).trans h21
    show ∃ υ, _ ∧ _ ∧ fX2_seeWhatFollows_L12 (nI a) k1 (fun σ v2 => kb (σ, v2)) τ (nI j) = _
    unfold fX2_seeWhatFollows_L12
    by_cases hjz : j = zs g S (rho S a)
    · refine ⟨τ, hF, ?_, ?_⟩
      · intro b k hb hbm hk
        refine hO b k ?_ hbm hk
        rcases hb with hb | hb
        · by_cases e : b = a
          · rw [e] at hk
            exact .inr ⟨e, by omega⟩
          · exact .inl (by omega)
        · exact absurd hb.2 (Nat.not_lt_zero _)
      · simp (disch := omega) only [l0, l1, l2, l3, l4, l5, l6, l7, l8, l9, l10, l11, l12, l16, l18, l19, l20, l21, l24, l96, l128, l100, l144, l200, l256, l288, l1536, l1728, l1800, bnd, nI_add, pk_mul, pI_sub, pI_m1, pT_le, pF_le, pT_lt, pF_lt, pT_eq, pF_eq, pF_m1, mF_eq, mT_eq, mT_lt, mF_le, lm1, rd_nI, wr_nI, cl_nI, pk_us, un_ne, pk_uLs, uL_ne, zI_uI, zI_uJ, zI_uA, zI_uB, zI_uR, zI_uN, zJ_uI, zJ_uJ, zJ_uA, zJ_uB, zJ_uR, zJ_uN, zA_uI, zA_uJ, zA_uA, zA_uB, zA_uR, zA_uN, zB_uI, zB_uJ, zB_uA, zB_uB, zB_uR, zB_uN, zR_uI, zR_uJ, zR_uA, zR_uB, zR_uR, zR_uN, zN_uI, zN_uJ, zN_uA, zN_uB, zN_uR, zN_uN, zI_ne, zJ_ne, zA_ne, zB_ne, zR_ne, zN_ne, bi_T, bi_F, nz16, ↓reduceIte, not_true_eq_false, not_false_eq_true, Bool.false_eq_true, reduceCtorEq, hl.2.1, hjz]
    · have hjz : j < zs g S (rho S a) := by omega
      have hvs := zs_vd hg hS hi.1 hjz
      have hcu := c_hasCue hg hJ (s := 16 * rho S a + j) (by omega)
      rw [hvs, Bool.true_and] at hcu
      have go : ∀ v, FB g S (16 * rho S a + j) v → ∃ υ, FR [39] [] [] [] σ υ ∧ FO υ g S (a + 1) 0 ∧ kb (uA τ 39 (upd (zA τ 39) (oA (zs g S) (rho S a) + j) (nI v)), nI (j + 1)) = k1 υ := fun v hv => hkb _ hjz ⟨FR.uA hF (by decide), FO_step hO hS.1 hjz hv⟩
      by_cases hc : (gC g (16 * rho S a + j)).length = 0
      · rw [decide_eq_false (fun x => x hc)] at hcu
        have nx := go 1048576 ⟨by decide, by rw [decide_eq_true hc]; decide +kernel, fun r k hr hk => by
          have h3 := oA_lt (z := zs g S) hr
          rw [eg_cue hc, Bool.and_false, show (1048576 : Nat) = 2 ^ 20 by decide, Nat.testBit_two_pow_of_ne (by omega)]⟩
        simp (disch := omega) only [l0, l1, l2, l3, l4, l5, l6, l7, l8, l9, l10, l11, l12, l16, l18, l19, l20, l21, l24, l96, l128, l100, l144, l200, l256, l288, l1536, l1728, l1800, bnd, nI_add, pk_mul, pI_sub, pI_m1, pT_le, pF_le, pT_lt, pF_lt, pT_eq, pF_eq, pF_m1, mF_eq, mT_eq, mT_lt, mF_le, lm1, rd_nI, wr_nI, cl_nI, pk_us, un_ne, pk_uLs, uL_ne, zI_uI, zI_uJ, zI_uA, zI_uB, zI_uR, zI_uN, zJ_uI, zJ_uJ, zJ_uA, zJ_uB, zJ_uR, zJ_uN, zA_uI, zA_uJ, zA_uA, zA_uB, zA_uR, zA_uN, zB_uI, zB_uJ, zB_uA, zB_uB, zB_uR, zB_uN, zR_uI, zR_uJ, zR_uA, zR_uB, zR_uR, zR_uN, zN_uI, zN_uJ, zN_uA, zN_uB, zN_uR, zN_uN, zI_ne, zJ_ne, zA_ne, zB_ne, zR_ne, zN_ne, bi_T, bi_F, nz16, ↓reduceIte, not_true_eq_false, not_false_eq_true, Bool.false_eq_true, reduceCtorEq, hl.2.1, hl.2.2.2, hl.1, hcu, l1048576]
        exact nx
      · rw [decide_eq_true hc] at hcu
        obtain ⟨w, hw, he⟩ := c_endedBy hg hJ hS (hL.fr hF (by decide)) hl21 hA hvs
        have hw2 : w < 2 ^ 20 := Nat.lt_of_lt_of_le hw.1 (Nat.pow_le_pow_right (by decide) hA)
        have nx := go w ⟨Nat.lt_trans hw2 (by decide), by rw [decide_eq_false hc]; exact Nat.testBit_lt_two_pow hw2, fun r k hr hk => hw.2 r k hr hk (by have := oA_lt (z := zs g S) hr; omega)⟩
        simp (disch := omega) only [l0, l1, l2, l3, l4, l5, l6, l7, l8, l9, l10, l11, l12, l16, l18, l19, l20, l21, l24, l96, l128, l100, l144, l200, l256, l288, l1536, l1728, l1800, bnd, nI_add, pk_mul, pI_sub, pI_m1, pT_le, pF_le, pT_lt, pF_lt, pT_eq, pF_eq, pF_m1, mF_eq, mT_eq, mT_lt, mF_le, lm1, rd_nI, wr_nI, cl_nI, pk_us, un_ne, pk_uLs, uL_ne, zI_uI, zI_uJ, zI_uA, zI_uB, zI_uR, zI_uN, zJ_uI, zJ_uJ, zJ_uA, zJ_uB, zJ_uR, zJ_uN, zA_uI, zA_uJ, zA_uA, zA_uB, zA_uR, zA_uN, zB_uI, zB_uJ, zB_uA, zB_uB, zB_uR, zB_uN, zR_uI, zR_uJ, zR_uA, zR_uB, zR_uR, zR_uN, zN_uI, zN_uJ, zN_uA, zN_uB, zN_uR, zN_uN, zI_ne, zJ_ne, zA_ne, zB_ne, zR_ne, zN_ne, bi_T, bi_F, nz16, ↓reduceIte, not_true_eq_false, not_false_eq_true, Bool.false_eq_true, reduceCtorEq, hl.2.1, hl.2.2.2, hl.1, hcu, he]
        exact nx
theorem c_see {σ : St} {g : Gh} {S : Nat} (hg : okG g) (hj : JC σ g) (hS : inG g S) (hL : LO σ g S (am S)) (h21 : zI σ 21 = nI (am S)) (hA : oA (zs g S) 8 ≤ 20) : ∃ υ, FR [39] [] [] [] σ υ ∧ FO υ g S (am S) 0 ∧ fX2_seeWhatFollows σ = some υ := by
  have h1 := rho_am S hS.1
  have key := it_for (β := St) (body := fun (kb : (St × Int32) → Option St) (t : St × Int32) => fX2_seeWhatFollows_L2 (fun σ v1 => kb (σ, v1)) t.1 t.2) (am S) (by omega) (fun j τ => (τ, nI j)) (fun j τ => FR [39] [] [] [] σ τ ∧ FO τ g S j 0) (fun j v z => ∃ υ, FR [39] [] [] [] σ υ ∧ FO υ g S (am S) 0 ∧ z = some υ) ?_ 0 σ (Nat.zero_le _) ⟨FR.rf _ _ _ _ _, fun b j hb _ _ => by omega⟩
  · exact key
  · rintro a τ ha ⟨hF, hO⟩ kb hkb
    show ∃ υ, _ ∧ _ ∧ fX2_seeWhatFollows_L2 (fun σ v1 => kb (σ, v1)) τ (nI a) = _
    have hl21 : zI τ 21 = nI (am S) := (hF.2.2.1 21 (by decide)).trans h21
    unfold fX2_seeWhatFollows_L2
    by_cases hae : a = am S
    · rw [hae] at hO
      exact ⟨τ, hF, hO, by simp (disch := omega) only [l0, l1, l2, l3, l4, l5, l6, l7, l8, l9, l10, l11, l12, l16, l18, l19, l20, l21, l24, l96, l128, l100, l144, l200, l256, l288, l1536, l1728, l1800, bnd, nI_add, pk_mul, pI_sub, pI_m1, pT_le, pF_le, pT_lt, pF_lt, pT_eq, pF_eq, pF_m1, mF_eq, mT_eq, mT_lt, mF_le, lm1, rd_nI, wr_nI, cl_nI, pk_us, un_ne, pk_uLs, uL_ne, zI_uI, zI_uJ, zI_uA, zI_uB, zI_uR, zI_uN, zJ_uI, zJ_uJ, zJ_uA, zJ_uB, zJ_uR, zJ_uN, zA_uI, zA_uJ, zA_uA, zA_uB, zA_uR, zA_uN, zB_uI, zB_uJ, zB_uA, zB_uB, zB_uR, zB_uN, zR_uI, zR_uJ, zR_uA, zR_uB, zR_uR, zR_uN, zN_uI, zN_uJ, zN_uA, zN_uB, zN_uR, zN_uN, zI_ne, zJ_ne, zA_ne, zB_ne, zR_ne, zN_ne, bi_T, bi_F, nz16, ↓reduceIte, not_true_eq_false, not_false_eq_true, Bool.false_eq_true, reduceCtorEq, hl21, hae]⟩
    · obtain ⟨w, h2, h3, h4⟩ := c_see1 (fun x9 => kb (x9, nI a + nI 1)) hg hj hS hL h21 hA (show a < am S by omega) hF hO
      obtain ⟨w2, h5, h6, h7⟩ := hkb w (by omega) ⟨h2, h3⟩
      refine ⟨w2, h5, h6, ?_⟩
      rw [← h7]
      rw [nI_add] at h4
      simp (disch := omega) only [l0, l1, l2, l3, l4, l5, l6, l7, l8, l9, l10, l11, l12, l16, l18, l19, l20, l21, l24, l96, l128, l100, l144, l200, l256, l288, l1536, l1728, l1800, bnd, nI_add, pk_mul, pI_sub, pI_m1, pT_le, pF_le, pT_lt, pF_lt, pT_eq, pF_eq, pF_m1, mF_eq, mT_eq, mT_lt, mF_le, lm1, rd_nI, wr_nI, cl_nI, pk_us, un_ne, pk_uLs, uL_ne, zI_uI, zI_uJ, zI_uA, zI_uB, zI_uR, zI_uN, zJ_uI, zJ_uJ, zJ_uA, zJ_uB, zJ_uR, zJ_uN, zA_uI, zA_uJ, zA_uA, zA_uB, zA_uR, zA_uN, zB_uI, zB_uJ, zB_uA, zB_uB, zB_uR, zB_uN, zR_uI, zR_uJ, zR_uA, zR_uB, zR_uR, zR_uN, zN_uI, zN_uJ, zN_uA, zN_uB, zN_uR, zN_uN, zI_ne, zJ_ne, zA_ne, zB_ne, zR_ne, zN_ne, bi_T, bi_F, nz16, ↓reduceIte, not_true_eq_false, not_false_eq_true, Bool.false_eq_true, reduceCtorEq, hl21]
      exact h4
