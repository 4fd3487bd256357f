/-! orders: the model lays what is to come -/
theorem uL_uL {f : Nat → Int64} {k : Nat} {x y : Int64} : vp_updL (vp_updL f k x) k y = vp_updL f k y := by
  funext j
  by_cases h : j = k
  · rw [h, pk_uLs, pk_uLs]
  · rw [uL_ne h, uL_ne h, uL_ne h]
theorem L0 : (0 : Int64) = lN 0 := nrfl rfl
theorem L1 : (1 : Int64) = lN 1 := nrfl rfl
theorem l10000 : (10000 : Int32) = nI 10000 := nrfl rfl
theorem uA_uB (σ : St) (q p : Nat) (f : Nat → Int32) (b : Nat → Int64) : uA (uB σ p b) q f = uB (uA σ q f) p b := nrfl rfl
theorem rm_le (z : Nat → Nat) (st : Nat) : ∀ n, rm z st n ≤ oA z n
  | 0 => Nat.le_refl _
  | n + 1 => by
    have := rm_le z st n
    unfold rm oA
    omega
theorem rm_full {z : Nat → Nat} {st : Nat} (h : st + 1 = rx z 8) : rm z st 8 = 0 := by
  apply Decidable.byContradiction
  intro hp
  obtain ⟨r, h1, h2⟩ := rm_may (z := z) (st := st) (n := 8) (by omega)
  have h3 := sd_room h2 h1 (by omega)
  have h4 := rx_pos z r
  omega
theorem rm_more {z : Nat → Nat} {st : Nat} (h : st < rx z 8) (hn : st + 1 ≠ rx z 8) : 0 < rm z st 8 := by
  apply Decidable.byContradiction
  intro hp
  exact hn (sd_last h (rm_zero (n := 8) (by omega)))
theorem oG_nobody {z : Nat → Nat} {st : Nat} {f : Nat → Nat × Nat} : ∀ (l : List Nat) (a : Nat × Nat), (∀ r, r ∈ l → ¬ sd z st r < z r) → oG z st f l a = a
  | [], _, _ => rfl
  | r :: l, a, H => by
    have e : oG z st f (r :: l) a = oG z st f l (oS z st f a r) := rfl
    rw [e, show oS z st f a r = a by unfold oS; rw [if_neg (H r List.mem_cons_self)]]
    exact oG_nobody l a (fun x hx => H x (List.mem_cons_of_mem _ hx))
theorem oG_start {z : Nat → Nat} {st : Nat} {f : Nat → Nat × Nat} {a b : Nat × Nat} : ∀ (l : List Nat), (∀ r, r ∈ l → sd z st r < z r → (f r).1 < a.1 ∧ (f r).1 < b.1) → (∃ r, r ∈ l ∧ sd z st r < z r) → oG z st f l a = oG z st f l b
  | [], _, ⟨r, hr, _⟩ => nomatch hr
  | r :: l, H, ⟨x, hx, hs⟩ => by
    have e : ∀ c, oG z st f (r :: l) c = oG z st f l (oS z st f c r) := fun _ => rfl
    rw [e, e]
    by_cases hr : sd z st r < z r
    · have h1 := H r List.mem_cons_self hr
      rw [show oS z st f a r = f r by unfold oS; rw [if_pos hr, if_pos h1.1], show oS z st f b r = f r by unfold oS; rw [if_pos hr, if_pos h1.2]]
    · rw [show oS z st f a r = a by unfold oS; rw [if_neg hr], show oS z st f b r = b by unfold oS; rw [if_neg hr]]
      refine oG_start l (fun y hy => H y (List.mem_cons_of_mem _ hy)) ⟨x, ?_, hs⟩
      cases hx with
      | head => exact absurd hs hr
      | tail _ hx => exact hx
theorem oN_le {z : Nat → Nat} {gp : Nat → Nat → Nat → Nat} (hgp : ∀ st last r, gp st last r ≤ 1) (hA : oA z 8 ≤ 20) {st last r : Nat} : (oN z gp st last r).1 ≤ 21 := by
  have h3 := rm_le z (st + rx z r) 8
  have h1 := oL_gaps hgp (rm z (st + rx z r) 8) (st + rx z r) (r + 1) rfl (by omega)
  have h2 := hgp st last r
  show (oL z gp (st + rx z r) (r + 1)).1 + gp st last r ≤ 21
  omega
theorem oL_init {z : Nat → Nat} {gp : Nat → Nat → Nat → Nat} (hgp : ∀ st last r, gp st last r ≤ 1) (hA : oA z 8 ≤ 20) {st last c : Nat} (hst : st < rx z 8) (hc : 100 ≤ c) : oL z gp st last = oG z st (oN z gp st last) (List.range 8) (if st + 1 = rx z 8 then (0, 1) else (c, 0)) := by
  by_cases h : st + 1 = rx z 8
  · have h0 := rm_full h
    rw [if_pos h, oL_zero h0, oG_nobody]
    intro r hr hs
    have := rm_pos hs (List.mem_range.mp hr)
    omega
  · have h0 := rm_more hst h
    rw [if_neg h, oL_step h0]
    apply oG_start
    · intro r hr hs
      have := oN_le hgp hA (st := st) (last := last) (r := r)
      exact ⟨by show _ < 1000; omega, by show _ < c; omega⟩
    · obtain ⟨r, h1, h2⟩ := rm_may h0
      exact ⟨r, List.mem_range.mpr h1, h2⟩
theorem oG_ext {z : Nat → Nat} {st : Nat} {f : Nat → Nat × Nat} {a : Nat × Nat} {n : Nat} (H : ∀ r, n ≤ r → ¬ sd z st r < z r) : ∀ d, oG z st f (List.range (n + d)) a = oG z st f (List.range n) a
  | 0 => rfl
  | d + 1 => by
    rw [← Nat.add_assoc, List.range_succ]
    unfold oG
    rw [List.foldl_append]
    show oS z st f _ (n + d) = _
    have ih := oG_ext (f := f) (a := a) H d
    unfold oG at ih
    rw [ih]
    unfold oS
    rw [if_neg (H _ (by omega))]
theorem oG_succ {z : Nat → Nat} {st : Nat} {f : Nat → Nat × Nat} {a : Nat × Nat} {n : Nat} : oG z st f (List.range (n + 1)) a = oS z st f (oG z st f (List.range n) a) n := by
  rw [List.range_succ]
  unfold oG
  rw [List.foldl_append]
  rfl
theorem zs_none {g : Gh} {S r : Nat} (hS : inG g S) (h : gN g ≤ r) : zs g S r = 0 := by
  unfold zs
  by_cases hb : S.testBit r = true
  · exfalso
    by_cases hr : r < 8
    · have := hS.2 r hr hb
      omega
    · have h1 := Nat.testBit_lt_two_pow (x := S) (i := r) (Nat.lt_of_lt_of_le hS.1 (Nat.pow_le_pow_right (n := 2) (by decide) (show 8 ≤ r by omega)))
      rw [h1] at hb
      cases hb
  · rw [if_neg hb]
def okE (z : Nat → Nat) (st last : Nat) : Prop := (last = 0 ∧ st = 0) ∨ (1 ≤ last ∧ 0 < sd z st (last - 1))
abbrev xL (g : Gh) (S st last : Nat) : Nat × Nat := oL (zs g S) (og g (zs g S)) st last
abbrev xN (g : Gh) (S st last r : Nat) : Nat × Nat := oN (zs g S) (og g (zs g S)) st last r
def TL (g : Gh) (S : Nat) (f : Nat → Int32) (b : Nat → Int64) (lo : Nat) : Prop := ∀ st last, lo ≤ st → st < rx (zs g S) 8 → last ≤ 8 → okE (zs g S) st last → f (9 * st + last) = nI (xL g S st last).1 ∧ b (9 * st + last) = lN (xL g S st last).2
theorem JS.up {σ : St} {g : Gh} {S q p : Nat} {f : Nat → Int32} {b : Nat → Int64} (h : JS σ g S) (hq : q ∉ pA) (hq2 : 73 ≠ q) (hp : p ∉ pB) : JS (uB (uA σ q f) p b) g S := by
  refine ⟨h.1.se (SE.tr (SE.uA hq) (SE.uB hp)), h.2.1, h.2.2.1, h.2.2.2.1, ?_, h.2.2.2.2.2⟩
  rw [zA_uB, zA_ne hq2]
  exact h.2.2.2.2.1
theorem m_left1 {σ : St} {g : Gh} {S st last : Nat} {f0 : Nat → Int32} {b0 : Nat → Int64} {a0 : Nat × Nat} (k1 : St → Option St) (h : JS σ g S) (hg : okG g) (hst : st < rx (zs g S) 8) (hl : last ≤ 8) (hok : okE (zs g S) st last) (hT : TL g S f0 b0 (st + 1)) (hf0 : f0 (9 * st + last) = nI a0.1) (hb0 : b0 (9 * st + last) = lN a0.2) (ha0 : a0.1 ≤ 10000) : ∃ f b, (∀ j, j ≠ 9 * st + last → f j = f0 j ∧ b j = b0 j) ∧ f (9 * st + last) = nI (oG (zs g S) st (xN g S st last) (List.range 8) a0).1 ∧ b (9 * st + last) = lN (oG (zs g S) st (xN g S st last) (List.range 8) a0).2 ∧ fX12_layLeft_P101 (nI st) (nI last) (nI (9 * st + last)) k1 (uB (uA σ 74 f0) 76 b0) (nI 0) = k1 (uB (uA σ 74 f) 76 b) := by
  have hN := h.2.2.2.2.2.1
  have hgn := hg.1
  have key := it_for (β := (Nat → Int32) × (Nat → Int64)) (body := fun (kb : (St × Int32) → Option St) (t : St × Int32) => fX12_layLeft_L101 (nI st) (nI last) (nI (9 * st + last)) k1 (fun σ v4 => kb (σ, v4)) t.1 t.2) (gN g) (by omega) (fun i fb => (uB (uA σ 74 fb.1) 76 fb.2, nI i)) (fun i fb => (∀ j, j ≠ 9 * st + last → fb.1 j = f0 j ∧ fb.2 j = b0 j) ∧ fb.1 (9 * st + last) = nI (oG (zs g S) st (xN g S st last) (List.range i) a0).1 ∧ fb.2 (9 * st + last) = lN (oG (zs g S) st (xN g S st last) (List.range i) a0).2) (fun i fb z => ∃ f b, (∀ j, j ≠ 9 * st + last → f j = f0 j ∧ b j = b0 j) ∧ f (9 * st + last) = nI (oG (zs g S) st (xN g S st last) (List.range 8) a0).1 ∧ b (9 * st + last) = lN (oG (zs g S) st (xN g S st last) (List.range 8) a0).2 ∧ z = k1 (uB (uA σ 74 f) 76 b)) ?_ 0 (f0, b0) (Nat.zero_le _) ⟨fun j _ => ⟨rfl, rfl⟩, hf0, hb0⟩
  · exact key
  · rintro i ⟨f, b⟩ hi ⟨hfb, hf, hb⟩ kb hkb
    have hfb : ∀ j, j ≠ 9 * st + last → f j = f0 j ∧ b j = b0 j := hfb
    have hf : f (9 * st + last) = nI (oG (zs g S) st (xN g S st last) (List.range i) a0).1 := hf
    have hb : b (9 * st + last) = lN (oG (zs g S) st (xN g S st last) (List.range i) a0).2 := hb
    have hkb : ∀ f1 b1, i < gN g → (∀ j, j ≠ 9 * st + last → f1 j = f0 j ∧ b1 j = b0 j) → f1 (9 * st + last) = nI (oG (zs g S) st (xN g S st last) (List.range (i + 1)) a0).1 → b1 (9 * st + last) = lN (oG (zs g S) st (xN g S st last) (List.range (i + 1)) a0).2 → ∃ f b, (∀ j, j ≠ 9 * st + last → f j = f0 j ∧ b j = b0 j) ∧ f (9 * st + last) = nI (oG (zs g S) st (xN g S st last) (List.range 8) a0).1 ∧ b (9 * st + last) = lN (oG (zs g S) st (xN g S st last) (List.range 8) a0).2 ∧ kb (uB (uA σ 74 f1) 76 b1, nI (i + 1)) = k1 (uB (uA σ 74 f) 76 b) := fun f1 b1 hlt h1 h2 h3 => hkb (f1, b1) hlt ⟨h1, h2, h3⟩
    show ∃ f1 b1, _ ∧ _ ∧ _ ∧ fX12_layLeft_L101 (nI st) (nI last) (nI (9 * st + last)) k1 (fun σ v4 => kb (σ, v4)) (uB (uA σ 74 f) 76 b) (nI i) = _
    have h32 := h.1.1
    unfold fX12_layLeft_L101
    by_cases hi8 : i = gN g
    · have e8 := oG_ext (z := zs g S) (st := st) (f := xN g S st last) (a := a0) (n := gN g) (fun r hr => by rw [zs_none h.2.1 hr]; omega) (8 - gN g)
      rw [show gN g + (8 - gN g) = 8 by omega] at e8
      rw [hi8, ← e8] at hf hb
      refine ⟨f, b, hfb, hf, hb, ?_⟩
      simp (disch := omega) only [l0, l1, l2, l3, l4, l5, l6, l7, l8, l9, l10, l11, l12, l16, l18, l19, l20, l21, l24, l96, l128, l100, l144, l200, l256, l288, l1536, l1728, l1800, bnd, nI_add, pk_mul, pI_sub, pI_m1, pT_le, pF_le, pT_lt, pF_lt, pT_eq, pF_eq, pF_m1, mF_eq, mT_eq, mT_lt, mF_le, lm1, rd_nI, wr_nI, cl_nI, pk_us, un_ne, pk_uLs, uL_ne, zI_uI, zI_uJ, zI_uA, zI_uB, zI_uR, zI_uN, zJ_uI, zJ_uJ, zJ_uA, zJ_uB, zJ_uR, zJ_uN, zA_uI, zA_uJ, zA_uA, zA_uB, zA_uR, zA_uN, zB_uI, zB_uJ, zB_uA, zB_uB, zB_uR, zB_uN, zR_uI, zR_uJ, zR_uA, zR_uB, zR_uR, zR_uN, zN_uI, zN_uJ, zN_uA, zN_uB, zN_uR, zN_uN, zI_ne, zJ_ne, zA_ne, zB_ne, zR_ne, zN_ne, bi_T, bi_F, nz16, ↓reduceIte, not_true_eq_false, not_false_eq_true, Bool.false_eq_true, reduceCtorEq, h32, hi8]
    · have hi9 : i < gN g := by omega
      have hJ : JS (uB (uA σ 74 f) 76 b) g S := h.up (by decide) (by decide) (by decide)
      have hm := m_mayGo (r := i) (st := st) hJ hg (by omega) (by omega)
      have hle := oG_le (z := zs g S) (st := st) (f := xN g S st last) (List.range i) a0
      have hsu := oG_succ (z := zs g S) (st := st) (f := xN g S st last) (a := a0) (n := i)
      generalize oG (zs g S) st (xN g S st last) (List.range i) a0 = a at hf hb hle hsu
      by_cases hs : sd (zs g S) st i < zs g S i
      · have hroom := sd_room hs (show i < 8 by omega) hst
        have hxp := rx_pos (zs g S) i
        have h73 := h.2.2.2.2.1 i (by omega)
        have hg1 := m_gapOf (r := i) (st := st) (last := last) hJ hg (by omega) (by omega) hs hl (fun h1 => by rcases hok with h2 | h2; omega; exact h2.2)
        have hTT := hT (st + rx (zs g S) i) (i + 1) (by omega) hroom (by omega) (.inr ⟨by omega, by rw [Nat.add_sub_cancel, sd_same hs]; omega⟩)
        have hne : 9 * (st + rx (zs g S) i) + i + 1 ≠ 9 * st + last := by omega
        have hr8 := (hfb _ hne).1.trans hTT.1
        have hr6 := (hfb _ hne).2.trans hTT.2
        rw [decide_eq_true hs] at hm
        unfold oS at hsu
        rw [if_pos hs] at hsu
        have hxn : (xN g S st last i).1 ≤ 21 := oN_le (og_le g (zs g S)) h.2.2.2.2.2.2
        have e1 : (xN g S st last i).1 = (xL g S (st + rx (zs g S) i) (i + 1)).1 + og g (zs g S) st last i := rfl
        have e2 : (xN g S st last i).2 = (xL g S (st + rx (zs g S) i) (i + 1)).2 := rfl
        rw [← e2] at hr6
        generalize (xL g S (st + rx (zs g S) i) (i + 1)).1 = y1 at hr8 e1
        generalize og g (zs g S) st last i = y2 at hg1 e1
        generalize xN g S st last i = y at *
        have hk9 : 9 * (st + rx (zs g S) i) + i + 1 < 180009 := by omega
        have ha1 : a.1 ≤ 10000 := Nat.le_trans hle.1 ha0
        by_cases hlt : y.1 < a.1
        · rw [if_pos hlt] at hsu
          rw [hsu] at hkb
          have nx := hkb (upd f (9 * st + last) (nI y.1)) (vp_updL b (9 * st + last) (lN y.2)) hi9 (fun j hj => ⟨by rw [un_ne hj]; exact (hfb j hj).1, by rw [uL_ne hj]; exact (hfb j hj).2⟩) pk_us pk_uLs
          have hmin : min a.1 y.1 = y.1 := by omega
          have hmm := jmin (a := a.1) (b := y.1) (by omega) (by omega)
          rw [hmin] at hmm
          simp (disch := omega) only [l0, l1, l2, l3, l4, l5, l6, l7, l8, l9, l10, l11, l12, l16, l18, l19, l20, l21, l24, l96, l128, l100, l144, l200, l256, l288, l1536, l1728, l1800, bnd, nI_add, pk_mul, pI_sub, pI_m1, pT_le, pF_le, pT_lt, pF_lt, pT_eq, pF_eq, pF_m1, mF_eq, mT_eq, mT_lt, mF_le, lm1, rd_nI, wr_nI, cl_nI, pk_us, un_ne, pk_uLs, uL_ne, zI_uI, zI_uJ, zI_uA, zI_uB, zI_uR, zI_uN, zJ_uI, zJ_uJ, zJ_uA, zJ_uB, zJ_uR, zJ_uN, zA_uI, zA_uJ, zA_uA, zA_uB, zA_uR, zA_uN, zB_uI, zB_uJ, zB_uA, zB_uB, zB_uR, zB_uN, zR_uI, zR_uJ, zR_uA, zR_uB, zR_uR, zR_uN, zN_uI, zN_uJ, zN_uA, zN_uB, zN_uR, zN_uN, zI_ne, zJ_ne, zA_ne, zB_ne, zR_ne, zN_ne, bi_T, bi_F, nz16, ↓reduceIte, not_true_eq_false, not_false_eq_true, Bool.false_eq_true, reduceCtorEq, h32, hm, h73, hr8, hr6, hg1, hf, hb, ← e1, L0, lN_add, hmm, uA_uB, uA_uA, uB_uB, uL_uL, Nat.zero_add]
          exact nx
        · rw [if_neg hlt] at hsu
          by_cases heq : y.1 = a.1
          · rw [if_pos heq] at hsu
            rw [hsu] at hkb
            have nx := hkb (upd f (9 * st + last) (nI a.1)) (vp_updL b (9 * st + last) (lN (a.2 + y.2))) hi9 (fun j hj => ⟨by rw [un_ne hj]; exact (hfb j hj).1, by rw [uL_ne hj]; exact (hfb j hj).2⟩) pk_us pk_uLs
            have hmm := jmin (a := a.1) (b := a.1) (by omega) (by omega)
            rw [Nat.min_self] at hmm
            simp (disch := omega) only [l0, l1, l2, l3, l4, l5, l6, l7, l8, l9, l10, l11, l12, l16, l18, l19, l20, l21, l24, l96, l128, l100, l144, l200, l256, l288, l1536, l1728, l1800, bnd, nI_add, pk_mul, pI_sub, pI_m1, pT_le, pF_le, pT_lt, pF_lt, pT_eq, pF_eq, pF_m1, mF_eq, mT_eq, mT_lt, mF_le, lm1, rd_nI, wr_nI, cl_nI, pk_us, un_ne, pk_uLs, uL_ne, zI_uI, zI_uJ, zI_uA, zI_uB, zI_uR, zI_uN, zJ_uI, zJ_uJ, zJ_uA, zJ_uB, zJ_uR, zJ_uN, zA_uI, zA_uJ, zA_uA, zA_uB, zA_uR, zA_uN, zB_uI, zB_uJ, zB_uA, zB_uB, zB_uR, zB_uN, zR_uI, zR_uJ, zR_uA, zR_uB, zR_uR, zR_uN, zN_uI, zN_uJ, zN_uA, zN_uB, zN_uR, zN_uN, zI_ne, zJ_ne, zA_ne, zB_ne, zR_ne, zN_ne, bi_T, bi_F, nz16, ↓reduceIte, not_true_eq_false, not_false_eq_true, Bool.false_eq_true, reduceCtorEq, h32, hm, h73, hr8, hr6, hg1, hf, hb, ← e1, heq, L0, lN_add, hmm, uA_uB, uA_uA, uB_uB]
            exact nx
          · rw [if_neg heq] at hsu
            rw [hsu] at hkb
            have nx := hkb (upd f (9 * st + last) (nI a.1)) b hi9 (fun j hj => ⟨by rw [un_ne hj]; exact (hfb j hj).1, (hfb j hj).2⟩) pk_us hb
            have hmm := jmin (a := a.1) (b := y.1) (by omega) (by omega)
            rw [show min a.1 y.1 = a.1 by omega] at hmm
            simp (disch := omega) only [l0, l1, l2, l3, l4, l5, l6, l7, l8, l9, l10, l11, l12, l16, l18, l19, l20, l21, l24, l96, l128, l100, l144, l200, l256, l288, l1536, l1728, l1800, bnd, nI_add, pk_mul, pI_sub, pI_m1, pT_le, pF_le, pT_lt, pF_lt, pT_eq, pF_eq, pF_m1, mF_eq, mT_eq, mT_lt, mF_le, lm1, rd_nI, wr_nI, cl_nI, pk_us, un_ne, pk_uLs, uL_ne, zI_uI, zI_uJ, zI_uA, zI_uB, zI_uR, zI_uN, zJ_uI, zJ_uJ, zJ_uA, zJ_uB, zJ_uR, zJ_uN, zA_uI, zA_uJ, zA_uA, zA_uB, zA_uR, zA_uN, zB_uI, zB_uJ, zB_uA, zB_uB, zB_uR, zB_uN, zR_uI, zR_uJ, zR_uA, zR_uB, zR_uR, zR_uN, zN_uI, zN_uJ, zN_uA, zN_uB, zN_uR, zN_uN, zI_ne, zJ_ne, zA_ne, zB_ne, zR_ne, zN_ne, bi_T, bi_F, nz16, ↓reduceIte, not_true_eq_false, not_false_eq_true, Bool.false_eq_true, reduceCtorEq, h32, hm, h73, hr8, hr6, hg1, hf, hb, ← e1, L0, lN_add, hmm, uA_uB, uA_uA, uB_uB]
            exact nx
      · unfold oS at hsu
        rw [if_neg hs] at hsu
        rw [hsu] at hkb
        have nx := hkb f b hi9 hfb hf hb
        rw [decide_eq_false hs] at hm
        simp (disch := omega) only [l0, l1, l2, l3, l4, l5, l6, l7, l8, l9, l10, l11, l12, l16, l18, l19, l20, l21, l24, l96, l128, l100, l144, l200, l256, l288, l1536, l1728, l1800, bnd, nI_add, pk_mul, pI_sub, pI_m1, pT_le, pF_le, pT_lt, pF_lt, pT_eq, pF_eq, pF_m1, mF_eq, mT_eq, mT_lt, mF_le, lm1, rd_nI, wr_nI, cl_nI, pk_us, un_ne, pk_uLs, uL_ne, zI_uI, zI_uJ, zI_uA, zI_uB, zI_uR, zI_uN, zJ_uI, zJ_uJ, zJ_uA, zJ_uB, zJ_uR, zJ_uN, zA_uI, zA_uJ, zA_uA, zA_uB, zA_uR, zA_uN, zB_uI, zB_uJ, zB_uA, zB_uB, zB_uR, zB_uN, zR_uI, zR_uJ, zR_uA, zR_uB, zR_uR, zR_uN, zN_uI, zN_uJ, zN_uA, zN_uB, zN_uR, zN_uN, zI_ne, zJ_ne, zA_ne, zB_ne, zR_ne, zN_ne, bi_T, bi_F, nz16, ↓reduceIte, not_true_eq_false, not_false_eq_true, Bool.false_eq_true, reduceCtorEq, h32, hm]
        exact nx
