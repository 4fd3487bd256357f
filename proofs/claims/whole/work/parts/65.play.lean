/-! the play: act, play, wrong -/
def cR (pl : List Nat) (r : Nat) : Nat := pl.countP (fun s => decide (s / 16 = r))
theorem cR_cons (s r : Nat) (pl : List Nat) : cR (s :: pl) r = cR pl r + (if s / 16 = r then 1 else 0) := by
  unfold cR
  rw [List.countP_cons]
  by_cases h : s / 16 = r
  · rw [if_pos h, if_pos (decide_eq_true h)]
  · rw [if_neg h, if_neg (by rw [decide_eq_false h]; decide)]
theorem pl_len : ∀ pl : List Nat, (∀ s, s ∈ pl → s < 128) → pl.length = cR pl 0 + cR pl 1 + cR pl 2 + cR pl 3 + cR pl 4 + cR pl 5 + cR pl 6 + cR pl 7
  | [], _ => rfl
  | s :: pl, h => by
    have ih := pl_len pl (fun x hx => h x (List.mem_cons_of_mem _ hx))
    have hs := h s List.mem_cons_self
    simp only [cR_cons, List.length_cons]
    have : s / 16 = 0 ∨ s / 16 = 1 ∨ s / 16 = 2 ∨ s / 16 = 3 ∨ s / 16 = 4 ∨ s / 16 = 5 ∨ s / 16 = 6 ∨ s / 16 = 7 := by omega
    rcases this with e | e | e | e | e | e | e | e <;> rw [e] <;> simp <;> omega
/-- the play: what both stores have of it -/
def PI (σ : St) (g : Gh) (pl : List Nat) : Prop :=
  zI σ 26 = nI pl.length ∧ zI σ 48 = nI pl.length ∧ (∀ k, k < pl.length → zA σ 47 k = nI (pl.getD k 0) ∧ zA σ 78 k = nI (pl.getD k 0)) ∧ (∀ s, s ∈ pl → vd g s = true) ∧ ∀ r, r < gN g → cR pl r ≤ gS g r
theorem PI.se {σ τ : St} {g : Gh} {pl : List Nat} (h : SE σ τ) (k : PI σ g pl) : PI τ g pl := by
  unfold PI
  rw [h.i 26 (by decide), h.i 48 (by decide), h.a 47 (by decide), h.a 78 (by decide)]
  exact k
theorem cR_zero {g : Gh} {pl : List Nat} (h : ∀ s, s ∈ pl → vd g s = true) {r : Nat} (hr : gN g ≤ r) : cR pl r = 0 := by
  unfold cR
  rw [List.countP_eq_zero]
  intro s hs hd
  have h1 := (vd_iff.mp (h s hs)).1
  have h2 : s / 16 = r := of_decide_eq_true hd
  omega
theorem pl_le {g : Gh} (hg : okG g) {pl : List Nat} (hv : ∀ s, s ∈ pl → vd g s = true) (hc : ∀ r, r < gN g → cR pl r ≤ gS g r) : pl.length ≤ 96 ∧ ∀ r, r < gN g → cR pl r < gS g r → pl.length < 96 := by
  have hl := pl_len pl (fun s hs => vd_lt hg (hv s hs))
  have hb : ∀ r, cR pl r ≤ 12 := by
    intro r
    by_cases hr : r < gN g
    · have h1 := hc r hr
      have h2 := (hg.2.1 r hr).2
      omega
    · rw [cR_zero hv (by omega)]; omega
  have b0 := hb 0
  have b1 := hb 1
  have b2 := hb 2
  have b3 := hb 3
  have b4 := hb 4
  have b5 := hb 5
  have b6 := hb 6
  have b7 := hb 7
  refine ⟨by omega, fun r hr hlt => ?_⟩
  have h2 := (hg.2.1 r hr).2
  have hN := hg.1
  have h3 : cR pl r < 12 := by omega
  have : r = 0 ∨ r = 1 ∨ r = 2 ∨ r = 3 ∨ r = 4 ∨ r = 5 ∨ r = 6 ∨ r = 7 := by omega
  rcases this with e | e | e | e | e | e | e | e <;> subst e <;> omega
theorem c_playedAt {σ : St} {g : Gh} {pl : List Nat} (hg : okG g) (hp : PI σ g pl) {k : Nat} (h : k < pl.length) : fX8_playedAt σ (nI k) = some (nI (pl.getD k 0)) := by
  have h1 := hp.1
  have h2 := (hp.2.2.1 k h).1
  have h3 := (pl_le hg hp.2.2.2.1 hp.2.2.2.2).1
  unfold fX8_playedAt
  simp (disch := omega) only [l0, l1, l2, l3, l4, l5, l6, l7, l8, l9, l10, l11, l12, l16, l18, l19, l20, l21, l24, l96, l128, l100, l144, l200, l256, l288, l1536, l1728, l1800, bnd, nI_add, pk_mul, pI_sub, pI_m1, pT_le, pF_le, pT_lt, pF_lt, pT_eq, pF_eq, pF_m1, mF_eq, mT_eq, mT_lt, mF_le, lm1, rd_nI, wr_nI, cl_nI, pk_us, un_ne, pk_uLs, uL_ne, zI_uI, zI_uJ, zI_uA, zI_uB, zI_uR, zI_uN, zJ_uI, zJ_uJ, zJ_uA, zJ_uB, zJ_uR, zJ_uN, zA_uI, zA_uJ, zA_uA, zA_uB, zA_uR, zA_uN, zB_uI, zB_uJ, zB_uA, zB_uB, zB_uR, zB_uN, zR_uI, zR_uJ, zR_uA, zR_uB, zR_uR, zR_uN, zN_uI, zN_uJ, zN_uA, zN_uB, zN_uR, zN_uN, zI_ne, zJ_ne, zA_ne, zB_ne, zR_ne, zN_ne, bi_T, bi_F, nz16, ↓reduceIte, not_true_eq_false, not_false_eq_true, Bool.false_eq_true, reduceCtorEq, h1, h2]
theorem c_cnt {σ : St} {g : Gh} {pl : List Nat} (hg : okG g) (hp : PI σ g pl) {r : Nat} (hr : r < 8) (k1 : Int32 → Option (Int32 × St)) : fX8_goOn_P4 (nI r) k1 σ (nI 0) (nI 0) = k1 (nI (cR pl r)) := by
  have h26 := hp.1
  have h3 := (pl_le hg hp.2.2.2.1 hp.2.2.2.2).1
  have key := it_for (β := Nat) (body := fun (kb : (Int32 × Int32) → Option (Int32 × St)) (x : Int32 × Int32) => fX8_goOn_L4 (nI r) k1 (fun v2 v3 => kb (v2, v3)) σ x.1 x.2) pl.length (by omega) (fun k a => (nI a, nI k)) (fun k a => a ≤ k) (fun k a z => z = k1 (nI (a + cR (pl.drop k) r))) ?_ 0 0 (Nat.zero_le _) (Nat.le_refl _)
  · rw [List.drop_zero, Nat.zero_add] at key
    exact key
  · intro k a hk ha kb hkb
    show fX8_goOn_L4 _ _ _ _ (nI a) (nI k) = _
    unfold fX8_goOn_L4
    by_cases hkn : k = pl.length
    · rw [hkn, List.drop_length]
      simp (disch := omega) only [l0, l1, l2, l3, l4, l5, l6, l7, l8, l9, l10, l11, l12, l16, l18, l19, l20, l21, l24, l96, l128, l100, l144, l200, l256, l288, l1536, l1728, l1800, bnd, nI_add, pk_mul, pI_sub, pI_m1, pT_le, pF_le, pT_lt, pF_lt, pT_eq, pF_eq, pF_m1, mF_eq, mT_eq, mT_lt, mF_le, lm1, rd_nI, wr_nI, cl_nI, pk_us, un_ne, pk_uLs, uL_ne, zI_uI, zI_uJ, zI_uA, zI_uB, zI_uR, zI_uN, zJ_uI, zJ_uJ, zJ_uA, zJ_uB, zJ_uR, zJ_uN, zA_uI, zA_uJ, zA_uA, zA_uB, zA_uR, zA_uN, zB_uI, zB_uJ, zB_uA, zB_uB, zB_uR, zB_uN, zR_uI, zR_uJ, zR_uA, zR_uB, zR_uR, zR_uN, zN_uI, zN_uJ, zN_uA, zN_uB, zN_uR, zN_uN, zI_ne, zJ_ne, zA_ne, zB_ne, zR_ne, zN_ne, bi_T, bi_F, nz16, ↓reduceIte, not_true_eq_false, not_false_eq_true, Bool.false_eq_true, reduceCtorEq, h26]
      rfl
    · have hat := c_playedAt hg hp (k := k) (by omega)
      have hv := hp.2.2.2.1 _ (getD_mem (l := pl) (k := k) (d := 0) (by omega))
      have hvl := vd_lt hg hv
      rw [drop_get (by omega), cR_cons]
      by_cases e : pl.getD k 0 / 16 = r
      · have nx := hkb (a + 1) (by omega) (by omega)
        have e2 : (nI (pl.getD k 0 / 16) = nI r) = True := eq_true (by rw [e])
        rw [if_pos e]
        simp (disch := omega) only [l0, l1, l2, l3, l4, l5, l6, l7, l8, l9, l10, l11, l12, l16, l18, l19, l20, l21, l24, l96, l128, l100, l144, l200, l256, l288, l1536, l1728, l1800, bnd, nI_add, pk_mul, pI_sub, pI_m1, pT_le, pF_le, pT_lt, pF_lt, pT_eq, pF_eq, pF_m1, mF_eq, mT_eq, mT_lt, mF_le, lm1, rd_nI, wr_nI, cl_nI, pk_us, un_ne, pk_uLs, uL_ne, zI_uI, zI_uJ, zI_uA, zI_uB, zI_uR, zI_uN, zJ_uI, zJ_uJ, zJ_uA, zJ_uB, zJ_uR, zJ_uN, zA_uI, zA_uJ, zA_uA, zA_uB, zA_uR, zA_uN, zB_uI, zB_uJ, zB_uA, zB_uB, zB_uR, zB_uN, zR_uI, zR_uJ, zR_uA, zR_uB, zR_uR, zR_uN, zN_uI, zN_uJ, zN_uA, zN_uB, zN_uR, zN_uN, zI_ne, zJ_ne, zA_ne, zB_ne, zR_ne, zN_ne, bi_T, bi_F, nz16, ↓reduceIte, not_true_eq_false, not_false_eq_true, Bool.false_eq_true, reduceCtorEq, h26, hat, c_rollOf, e2]
        rw [nx]
        congr 2
        omega
      · have nx := hkb a (by omega) (by omega)
        have e2 : (nI (pl.getD k 0 / 16) = nI r) = False := pF_eq e (by omega) (by omega)
        rw [if_neg e]
        simp (disch := omega) only [l0, l1, l2, l3, l4, l5, l6, l7, l8, l9, l10, l11, l12, l16, l18, l19, l20, l21, l24, l96, l128, l100, l144, l200, l256, l288, l1536, l1728, l1800, bnd, nI_add, pk_mul, pI_sub, pI_m1, pT_le, pF_le, pT_lt, pF_lt, pT_eq, pF_eq, pF_m1, mF_eq, mT_eq, mT_lt, mF_le, lm1, rd_nI, wr_nI, cl_nI, pk_us, un_ne, pk_uLs, uL_ne, zI_uI, zI_uJ, zI_uA, zI_uB, zI_uR, zI_uN, zJ_uI, zJ_uJ, zJ_uA, zJ_uB, zJ_uR, zJ_uN, zA_uI, zA_uJ, zA_uA, zA_uB, zA_uR, zA_uN, zB_uI, zB_uJ, zB_uA, zB_uB, zB_uR, zB_uN, zR_uI, zR_uJ, zR_uA, zR_uB, zR_uR, zR_uN, zN_uI, zN_uJ, zN_uA, zN_uB, zN_uR, zN_uN, zI_ne, zJ_ne, zA_ne, zB_ne, zR_ne, zN_ne, bi_T, bi_F, nz16, ↓reduceIte, not_true_eq_false, not_false_eq_true, Bool.false_eq_true, reduceCtorEq, h26, hat, c_rollOf, e2]
        exact nx
theorem m_cntR {σ : St} {g : Gh} {pl : List Nat} (hg : okG g) (hp : PI σ g pl) {r : Nat} (hr : r < 8) (k1 : Int32 → Option (Int32 × St)) : fX12_act_P19 (nI r) k1 σ (nI 0) (nI 0) = k1 (nI (cR pl r)) := by
  have h48 := hp.2.1
  have h3 := (pl_le hg hp.2.2.2.1 hp.2.2.2.2).1
  have key := it_for (β := Nat) (body := fun (kb : (Int32 × Int32) → Option (Int32 × St)) (x : Int32 × Int32) => fX12_act_L19 (nI r) k1 (fun v2 v3 => kb (v2, v3)) σ x.1 x.2) pl.length (by omega) (fun k a => (nI a, nI k)) (fun k a => a ≤ k) (fun k a z => z = k1 (nI (a + cR (pl.drop k) r))) ?_ 0 0 (Nat.zero_le _) (Nat.le_refl _)
  · rw [List.drop_zero, Nat.zero_add] at key
    exact key
  · intro k a hk ha kb hkb
    show fX12_act_L19 _ _ _ _ (nI a) (nI k) = _
    unfold fX12_act_L19
    by_cases hkn : k = pl.length
    · rw [hkn, List.drop_length]
      simp (disch := omega) only [l0, l1, l2, l3, l4, l5, l6, l7, l8, l9, l10, l11, l12, l16, l18, l19, l20, l21, l24, l96, l128, l100, l144, l200, l256, l288, l1536, l1728, l1800, bnd, nI_add, pk_mul, pI_sub, pI_m1, pT_le, pF_le, pT_lt, pF_lt, pT_eq, pF_eq, pF_m1, mF_eq, mT_eq, mT_lt, mF_le, lm1, rd_nI, wr_nI, cl_nI, pk_us, un_ne, pk_uLs, uL_ne, zI_uI, zI_uJ, zI_uA, zI_uB, zI_uR, zI_uN, zJ_uI, zJ_uJ, zJ_uA, zJ_uB, zJ_uR, zJ_uN, zA_uI, zA_uJ, zA_uA, zA_uB, zA_uR, zA_uN, zB_uI, zB_uJ, zB_uA, zB_uB, zB_uR, zB_uN, zR_uI, zR_uJ, zR_uA, zR_uB, zR_uR, zR_uN, zN_uI, zN_uJ, zN_uA, zN_uB, zN_uR, zN_uN, zI_ne, zJ_ne, zA_ne, zB_ne, zR_ne, zN_ne, bi_T, bi_F, nz16, ↓reduceIte, not_true_eq_false, not_false_eq_true, Bool.false_eq_true, reduceCtorEq, h48]
      rfl
    · have hat := (hp.2.2.1 k (by omega)).2
      have hv := hp.2.2.2.1 _ (getD_mem (l := pl) (k := k) (d := 0) (by omega))
      have hvl := vd_lt hg hv
      rw [drop_get (by omega), cR_cons]
      by_cases e : pl.getD k 0 / 16 = r
      · have nx := hkb (a + 1) (by omega) (by omega)
        have e2 : (nI (pl.getD k 0 / 16) = nI r) = True := eq_true (by rw [e])
        rw [if_pos e]
        simp (disch := omega) only [l0, l1, l2, l3, l4, l5, l6, l7, l8, l9, l10, l11, l12, l16, l18, l19, l20, l21, l24, l96, l128, l100, l144, l200, l256, l288, l1536, l1728, l1800, bnd, nI_add, pk_mul, pI_sub, pI_m1, pT_le, pF_le, pT_lt, pF_lt, pT_eq, pF_eq, pF_m1, mF_eq, mT_eq, mT_lt, mF_le, lm1, rd_nI, wr_nI, cl_nI, pk_us, un_ne, pk_uLs, uL_ne, zI_uI, zI_uJ, zI_uA, zI_uB, zI_uR, zI_uN, zJ_uI, zJ_uJ, zJ_uA, zJ_uB, zJ_uR, zJ_uN, zA_uI, zA_uJ, zA_uA, zA_uB, zA_uR, zA_uN, zB_uI, zB_uJ, zB_uA, zB_uB, zB_uR, zB_uN, zR_uI, zR_uJ, zR_uA, zR_uB, zR_uR, zR_uN, zN_uI, zN_uJ, zN_uA, zN_uB, zN_uR, zN_uN, zI_ne, zJ_ne, zA_ne, zB_ne, zR_ne, zN_ne, bi_T, bi_F, nz16, ↓reduceIte, not_true_eq_false, not_false_eq_true, Bool.false_eq_true, reduceCtorEq, h48, hat, pk_div, e2]
        rw [nx]
        congr 2
        omega
      · have nx := hkb a (by omega) (by omega)
        have e2 : (nI (pl.getD k 0 / 16) = nI r) = False := pF_eq e (by omega) (by omega)
        rw [if_neg e]
        simp (disch := omega) only [l0, l1, l2, l3, l4, l5, l6, l7, l8, l9, l10, l11, l12, l16, l18, l19, l20, l21, l24, l96, l128, l100, l144, l200, l256, l288, l1536, l1728, l1800, bnd, nI_add, pk_mul, pI_sub, pI_m1, pT_le, pF_le, pT_lt, pF_lt, pT_eq, pF_eq, pF_m1, mF_eq, mT_eq, mT_lt, mF_le, lm1, rd_nI, wr_nI, cl_nI, pk_us, un_ne, pk_uLs, uL_ne, zI_uI, zI_uJ, zI_uA, zI_uB, zI_uR, zI_uN, zJ_uI, zJ_uJ, zJ_uA, zJ_uB, zJ_uR, zJ_uN, zA_uI, zA_uJ, zA_uA, zA_uB, zA_uR, zA_uN, zB_uI, zB_uJ, zB_uA, zB_uB, zB_uR, zB_uN, zR_uI, zR_uJ, zR_uA, zR_uB, zR_uR, zR_uN, zN_uI, zN_uJ, zN_uA, zN_uB, zN_uR, zN_uN, zI_ne, zJ_ne, zA_ne, zB_ne, zR_ne, zN_ne, bi_T, bi_F, nz16, ↓reduceIte, not_true_eq_false, not_false_eq_true, Bool.false_eq_true, reduceCtorEq, h48, hat, pk_div, e2]
        exact nx
theorem cR_snoc (pl : List Nat) (s r : Nat) : cR (pl ++ [s]) r = cR pl r + (if s / 16 = r then 1 else 0) := by
  unfold cR
  rw [List.countP_append, List.countP_singleton]
  by_cases h : s / 16 = r
  · rw [if_pos h, if_pos (decide_eq_true h)]
  · rw [if_neg h, if_neg (by rw [decide_eq_false h]; decide)]
/-- the store behind an act -/
def actS (σ : St) (n s : Nat) : St := uI (uA (uI (uI (uA σ 47 (upd (zA σ 47) n (nI s))) 26 (nI (n + 1))) 30 (nI 0)) 78 (upd (zA σ 78) n (nI s))) 48 (nI (n + 1))
theorem PI_act {σ : St} {g : Gh} {pl : List Nat} (hg : okG g) (hp : PI σ g pl) {r : Nat} (hr : r < gN g) (hc : cR pl r < gS g r) : PI (actS σ pl.length (16 * r + cR pl r)) g (pl ++ [16 * r + cR pl r]) := by
  have h12 := (hg.2.1 r hr).2
  have e1 : (16 * r + cR pl r) / 16 = r := by omega
  have e2 : (16 * r + cR pl r) % 16 = cR pl r := by omega
  refine ⟨?_, ?_, ?_, ?_, ?_⟩
  · rw [List.length_append, List.length_singleton]; rfl
  · rw [List.length_append, List.length_singleton]; rfl
  · intro k hk
    rw [List.length_append, List.length_singleton] at hk
    have a1 : zA (actS σ pl.length (16 * r + cR pl r)) 47 = upd (zA σ 47) pl.length (nI (16 * r + cR pl r)) := rfl
    have a2 : zA (actS σ pl.length (16 * r + cR pl r)) 78 = upd (zA σ 78) pl.length (nI (16 * r + cR pl r)) := rfl
    rw [a1, a2]
    by_cases e : k = pl.length
    · rw [e, pk_us, pk_us, getD_snoc_eq]
      exact ⟨rfl, rfl⟩
    · rw [pk_un e, pk_un e, getD_snoc_lt (by omega)]
      exact hp.2.2.1 k (by omega)
  · intro s hs
    rw [List.mem_append, List.mem_singleton] at hs
    rcases hs with hs | hs
    · exact hp.2.2.2.1 s hs
    · rw [hs, vd_iff, e1, e2]
      exact ⟨hr, hc⟩
  · intro q hq
    rw [cR_snoc, e1]
    have := hp.2.2.2.2 q hq
    by_cases e : r = q
    · rw [if_pos e, ← e]; omega
    · rw [if_neg e]; omega
/-- what an act leaves: all but the play -/
theorem t_act {σ : St} {g : Gh} {lim : Nat} {pl : List Nat} (h : RI σ g lim) (hp : PI σ g pl) (p : Int32) : (∃ r υ, fX11_act σ p = some (r, σ) ∧ fX12_act σ p = some (r, υ) ∧ SE σ υ) ∨ ∃ r τ, r < gN g ∧ cR pl r < gS g r ∧ fX11_act σ p = some (nI (16 * r + cR pl r), τ) ∧ fX12_act τ p = some (nI (16 * r + cR pl r), actS σ pl.length (16 * r + cR pl r)) := by
  have hg := h.1
  have s3 := se30 σ (nI 0)
  have hN := hg.1
  have hpl := pl_le hg hp.2.2.2.1 hp.2.2.2.2
  rcases roll2 h p with ⟨r, hr, rfl, e⟩ | e
  · have e1 := (e σ (SE.rf σ)).1
    have hsz := c_sizeOf hg h.2.1 hr
    have h12 := (hg.2.1 r hr).2
    have hcr := hp.2.2.2.2 r hr
    have h26 := hp.1
    by_cases hc : cR pl r < gS g r
    · have hlt := hpl.2 r hr hc
      refine Or.inr ⟨r, uI (uA σ 47 (upd (zA σ 47) pl.length (nI (16 * r + cR pl r)))) 26 (nI (pl.length + 1)), hr, hc, ?_, ?_⟩
      · unfold fX11_act fX8_goOn
        simp (disch := omega) only [l0, l1, l2, l3, l4, l5, l6, l7, l8, l9, l10, l11, l12, l16, l18, l19, l20, l21, l24, l96, l128, l100, l144, l200, l256, l288, l1536, l1728, l1800, bnd, nI_add, pk_mul, pI_sub, pI_m1, pT_le, pF_le, pT_lt, pF_lt, pT_eq, pF_eq, pF_m1, mF_eq, mT_eq, mT_lt, mF_le, lm1, rd_nI, wr_nI, cl_nI, pk_us, un_ne, pk_uLs, uL_ne, zI_uI, zI_uJ, zI_uA, zI_uB, zI_uR, zI_uN, zJ_uI, zJ_uJ, zJ_uA, zJ_uB, zJ_uR, zJ_uN, zA_uI, zA_uJ, zA_uA, zA_uB, zA_uR, zA_uN, zB_uI, zB_uJ, zB_uA, zB_uB, zB_uR, zB_uN, zR_uI, zR_uJ, zR_uA, zR_uB, zR_uR, zR_uN, zN_uI, zN_uJ, zN_uA, zN_uB, zN_uR, zN_uN, zI_ne, zJ_ne, zA_ne, zB_ne, zR_ne, zN_ne, bi_T, bi_F, nz16, ↓reduceIte, not_true_eq_false, not_false_eq_true, Bool.false_eq_true, reduceCtorEq, e1, c_cnt hg hp (r := r), hsz, h26]
        rw [show pl.length + 1 - 1 = pl.length by omega]
        simp (disch := omega) only [l0, l1, l2, l3, l4, l5, l6, l7, l8, l9, l10, l11, l12, l16, l18, l19, l20, l21, l24, l96, l128, l100, l144, l200, l256, l288, l1536, l1728, l1800, bnd, nI_add, pk_mul, pI_sub, pI_m1, pT_le, pF_le, pT_lt, pF_lt, pT_eq, pF_eq, pF_m1, mF_eq, mT_eq, mT_lt, mF_le, lm1, rd_nI, wr_nI, cl_nI, pk_us, un_ne, pk_uLs, uL_ne, zI_uI, zI_uJ, zI_uA, zI_uB, zI_uR, zI_uN, zJ_uI, zJ_uJ, zJ_uA, zJ_uB, zJ_uR, zJ_uN, zA_uI, zA_uJ, zA_uA, zA_uB, zA_uR, zA_uN, zB_uI, zB_uJ, zB_uA, zB_uB, zB_uR, zB_uN, zR_uI, zR_uJ, zR_uA, zR_uB, zR_uR, zR_uN, zN_uI, zN_uJ, zN_uA, zN_uB, zN_uR, zN_uN, zI_ne, zJ_ne, zA_ne, zB_ne, zR_ne, zN_ne, bi_T, bi_F, nz16, ↓reduceIte, not_true_eq_false, not_false_eq_true, Bool.false_eq_true, reduceCtorEq]
      · have h48 := hp.2.1
        have h60 := h.2.2.1.2.1 r hr
        have hm := m_isRoll (σ := uI (uI (uA σ 47 (upd (zA σ 47) pl.length (nI (16 * r + cR pl r)))) 26 (nI (pl.length + 1))) 30 (nI 0)) hg (g := g) h.2.2.1 (r := r) (by omega)
        rw [decide_eq_true hr] at hm
        have hcnt : ∀ k1, fX12_act_P19 (nI r) k1 (uI (uI (uA σ 47 (upd (zA σ 47) pl.length (nI (16 * r + cR pl r)))) 26 (nI (pl.length + 1))) 30 (nI 0)) (nI 0) (nI 0) = k1 (nI (cR pl r)) := m_cntR hg hp (r := r) (by omega)
        have hne : (nI (cR pl r) = nI (gS g r)) = False := pF_eq (by omega) (by omega) (by omega)
        unfold fX12_act
        simp (disch := omega) only [l0, l1, l2, l3, l4, l5, l6, l7, l8, l9, l10, l11, l12, l16, l18, l19, l20, l21, l24, l96, l128, l100, l144, l200, l256, l288, l1536, l1728, l1800, bnd, nI_add, pk_mul, pI_sub, pI_m1, pT_le, pF_le, pT_lt, pF_lt, pT_eq, pF_eq, pF_m1, mF_eq, mT_eq, mT_lt, mF_le, lm1, rd_nI, wr_nI, cl_nI, pk_us, un_ne, pk_uLs, uL_ne, zI_uI, zI_uJ, zI_uA, zI_uB, zI_uR, zI_uN, zJ_uI, zJ_uJ, zJ_uA, zJ_uB, zJ_uR, zJ_uN, zA_uI, zA_uJ, zA_uA, zA_uB, zA_uR, zA_uN, zB_uI, zB_uJ, zB_uA, zB_uB, zB_uR, zB_uN, zR_uI, zR_uJ, zR_uA, zR_uB, zR_uR, zR_uN, zN_uI, zN_uJ, zN_uA, zN_uB, zN_uR, zN_uN, zI_ne, zJ_ne, zA_ne, zB_ne, zR_ne, zN_ne, bi_T, bi_F, nz16, ↓reduceIte, not_true_eq_false, not_false_eq_true, Bool.false_eq_true, reduceCtorEq, hm, hcnt, h60, hne, h48]
        rfl
    · have ec : cR pl r = gS g r := by omega
      refine Or.inl ⟨mI, uI σ 30 (nI 0), ?_, ?_, s3⟩
      · unfold fX11_act fX8_goOn
        simp (disch := omega) only [l0, l1, l2, l3, l4, l5, l6, l7, l8, l9, l10, l11, l12, l16, l18, l19, l20, l21, l24, l96, l128, l100, l144, l200, l256, l288, l1536, l1728, l1800, bnd, nI_add, pk_mul, pI_sub, pI_m1, pT_le, pF_le, pT_lt, pF_lt, pT_eq, pF_eq, pF_m1, mF_eq, mT_eq, mT_lt, mF_le, lm1, rd_nI, wr_nI, cl_nI, pk_us, un_ne, pk_uLs, uL_ne, zI_uI, zI_uJ, zI_uA, zI_uB, zI_uR, zI_uN, zJ_uI, zJ_uJ, zJ_uA, zJ_uB, zJ_uR, zJ_uN, zA_uI, zA_uJ, zA_uA, zA_uB, zA_uR, zA_uN, zB_uI, zB_uJ, zB_uA, zB_uB, zB_uR, zB_uN, zR_uI, zR_uJ, zR_uA, zR_uB, zR_uR, zR_uN, zN_uI, zN_uJ, zN_uA, zN_uB, zN_uR, zN_uN, zI_ne, zJ_ne, zA_ne, zB_ne, zR_ne, zN_ne, bi_T, bi_F, nz16, ↓reduceIte, not_true_eq_false, not_false_eq_true, Bool.false_eq_true, reduceCtorEq, e1, c_cnt hg hp (r := r), hsz]
      · have e2 := (e _ s3).2
        have h60 := (h.se s3).2.2.1.2.1 r hr
        rw [zA_uI] at h60
        have hcnt := fun k1 => m_cntR hg (hp.se s3) (r := r) (by omega) k1
        have hne : (nI (cR pl r) = nI (gS g r)) = True := eq_true (by rw [ec])
        unfold fX12_act
        simp (disch := omega) only [l0, l1, l2, l3, l4, l5, l6, l7, l8, l9, l10, l11, l12, l16, l18, l19, l20, l21, l24, l96, l128, l100, l144, l200, l256, l288, l1536, l1728, l1800, bnd, nI_add, pk_mul, pI_sub, pI_m1, pT_le, pF_le, pT_lt, pF_lt, pT_eq, pF_eq, pF_m1, mF_eq, mT_eq, mT_lt, mF_le, lm1, rd_nI, wr_nI, cl_nI, pk_us, un_ne, pk_uLs, uL_ne, zI_uI, zI_uJ, zI_uA, zI_uB, zI_uR, zI_uN, zJ_uI, zJ_uJ, zJ_uA, zJ_uB, zJ_uR, zJ_uN, zA_uI, zA_uJ, zA_uA, zA_uB, zA_uR, zA_uN, zB_uI, zB_uJ, zB_uA, zB_uB, zB_uR, zB_uN, zR_uI, zR_uJ, zR_uA, zR_uB, zR_uR, zR_uN, zN_uI, zN_uJ, zN_uA, zN_uB, zN_uR, zN_uN, zI_ne, zJ_ne, zA_ne, zB_ne, zR_ne, zN_ne, bi_T, bi_F, nz16, ↓reduceIte, not_true_eq_false, not_false_eq_true, Bool.false_eq_true, reduceCtorEq, e2, hcnt, h60, hne]
  · have e1 := (e σ (SE.rf σ)).1
    have e2 := (e _ s3).2
    refine Or.inl ⟨mI, uI σ 30 (nI 0), ?_, ?_, s3⟩
    · unfold fX11_act
      simp (disch := omega) only [l0, l1, l2, l3, l4, l5, l6, l7, l8, l9, l10, l11, l12, l16, l18, l19, l20, l21, l24, l96, l128, l100, l144, l200, l256, l288, l1536, l1728, l1800, bnd, nI_add, pk_mul, pI_sub, pI_m1, pT_le, pF_le, pT_lt, pF_lt, pT_eq, pF_eq, pF_m1, mF_eq, mT_eq, mT_lt, mF_le, lm1, rd_nI, wr_nI, cl_nI, pk_us, un_ne, pk_uLs, uL_ne, zI_uI, zI_uJ, zI_uA, zI_uB, zI_uR, zI_uN, zJ_uI, zJ_uJ, zJ_uA, zJ_uB, zJ_uR, zJ_uN, zA_uI, zA_uJ, zA_uA, zA_uB, zA_uR, zA_uN, zB_uI, zB_uJ, zB_uA, zB_uB, zB_uR, zB_uN, zR_uI, zR_uJ, zR_uA, zR_uB, zR_uR, zR_uN, zN_uI, zN_uJ, zN_uA, zN_uB, zN_uR, zN_uN, zI_ne, zJ_ne, zA_ne, zB_ne, zR_ne, zN_ne, bi_T, bi_F, nz16, ↓reduceIte, not_true_eq_false, not_false_eq_true, Bool.false_eq_true, reduceCtorEq, e1]
    · unfold fX12_act
      simp (disch := omega) only [l0, l1, l2, l3, l4, l5, l6, l7, l8, l9, l10, l11, l12, l16, l18, l19, l20, l21, l24, l96, l128, l100, l144, l200, l256, l288, l1536, l1728, l1800, bnd, nI_add, pk_mul, pI_sub, pI_m1, pT_le, pF_le, pT_lt, pF_lt, pT_eq, pF_eq, pF_m1, mF_eq, mT_eq, mT_lt, mF_le, lm1, rd_nI, wr_nI, cl_nI, pk_us, un_ne, pk_uLs, uL_ne, zI_uI, zI_uJ, zI_uA, zI_uB, zI_uR, zI_uN, zJ_uI, zJ_uJ, zJ_uA, zJ_uB, zJ_uR, zJ_uN, zA_uI, zA_uJ, zA_uA, zA_uB, zA_uR, zA_uN, zB_uI, zB_uJ, zB_uA, zB_uB, zB_uR, zB_uN, zR_uI, zR_uJ, zR_uA, zR_uB, zR_uR, zR_uN, zN_uI, zN_uJ, zN_uA, zN_uB, zN_uR, zN_uN, zI_ne, zJ_ne, zA_ne, zB_ne, zR_ne, zN_ne, bi_T, bi_F, nz16, ↓reduceIte, not_true_eq_false, not_false_eq_true, Bool.false_eq_true, reduceCtorEq, e2]
theorem t_play {σ : St} {g : Gh} {pl : List Nat} (hg : okG g) (hp : PI σ g pl) (p : Int32) : B1 σ (fX11_play σ p) (fun τ => fX12_play τ p) := by
  have h26 := hp.1
  have h48 := hp.2.1
  have hpl := (pl_le hg hp.2.2.2.1 hp.2.2.2.2).1
  by_cases hm : p = mI
  · subst hm
    refine B1.no (nI pl.length) ?_ ?_
    · unfold fX11_play fX8_played
      simp (disch := omega) only [l0, l1, l2, l3, l4, l5, l6, l7, l8, l9, l10, l11, l12, l16, l18, l19, l20, l21, l24, l96, l128, l100, l144, l200, l256, l288, l1536, l1728, l1800, bnd, nI_add, pk_mul, pI_sub, pI_m1, pT_le, pF_le, pT_lt, pF_lt, pT_eq, pF_eq, pF_m1, mF_eq, mT_eq, mT_lt, mF_le, lm1, rd_nI, wr_nI, cl_nI, pk_us, un_ne, pk_uLs, uL_ne, zI_uI, zI_uJ, zI_uA, zI_uB, zI_uR, zI_uN, zJ_uI, zJ_uJ, zJ_uA, zJ_uB, zJ_uR, zJ_uN, zA_uI, zA_uJ, zA_uA, zA_uB, zA_uR, zA_uN, zB_uI, zB_uJ, zB_uA, zB_uB, zB_uR, zB_uN, zR_uI, zR_uJ, zR_uA, zR_uB, zR_uR, zR_uN, zN_uI, zN_uJ, zN_uA, zN_uB, zN_uR, zN_uN, zI_ne, zJ_ne, zA_ne, zB_ne, zR_ne, zN_ne, bi_T, bi_F, nz16, ↓reduceIte, not_true_eq_false, not_false_eq_true, Bool.false_eq_true, reduceCtorEq, h26]
    · unfold fX12_play
      simp (disch := omega) only [l0, l1, l2, l3, l4, l5, l6, l7, l8, l9, l10, l11, l12, l16, l18, l19, l20, l21, l24, l96, l128, l100, l144, l200, l256, l288, l1536, l1728, l1800, bnd, nI_add, pk_mul, pI_sub, pI_m1, pT_le, pF_le, pT_lt, pF_lt, pT_eq, pF_eq, pF_m1, mF_eq, mT_eq, mT_lt, mF_le, lm1, rd_nI, wr_nI, cl_nI, pk_us, un_ne, pk_uLs, uL_ne, zI_uI, zI_uJ, zI_uA, zI_uB, zI_uR, zI_uN, zJ_uI, zJ_uJ, zJ_uA, zJ_uB, zJ_uR, zJ_uN, zA_uI, zA_uJ, zA_uA, zA_uB, zA_uR, zA_uN, zB_uI, zB_uJ, zB_uA, zB_uB, zB_uR, zB_uN, zR_uI, zR_uJ, zR_uA, zR_uB, zR_uR, zR_uN, zN_uI, zN_uJ, zN_uA, zN_uB, zN_uR, zN_uN, zI_ne, zJ_ne, zA_ne, zB_ne, zR_ne, zN_ne, bi_T, bi_F, nz16, ↓reduceIte, not_true_eq_false, not_false_eq_true, Bool.false_eq_true, reduceCtorEq, h48]
  · have hm1 : (p = mI) = False := eq_false hm
    rcases i32_of p with hn | ⟨k, hk, rfl⟩
    · have hn' : (p < nI 0) = True := eq_true hn
      refine B1.no mI ?_ ?_
      · unfold fX11_play fX8_playedAt
        simp (disch := omega) only [l0, l1, l2, l3, l4, l5, l6, l7, l8, l9, l10, l11, l12, l16, l18, l19, l20, l21, l24, l96, l128, l100, l144, l200, l256, l288, l1536, l1728, l1800, bnd, nI_add, pk_mul, pI_sub, pI_m1, pT_le, pF_le, pT_lt, pF_lt, pT_eq, pF_eq, pF_m1, mF_eq, mT_eq, mT_lt, mF_le, lm1, rd_nI, wr_nI, cl_nI, pk_us, un_ne, pk_uLs, uL_ne, zI_uI, zI_uJ, zI_uA, zI_uB, zI_uR, zI_uN, zJ_uI, zJ_uJ, zJ_uA, zJ_uB, zJ_uR, zJ_uN, zA_uI, zA_uJ, zA_uA, zA_uB, zA_uR, zA_uN, zB_uI, zB_uJ, zB_uA, zB_uB, zB_uR, zB_uN, zR_uI, zR_uJ, zR_uA, zR_uB, zR_uR, zR_uN, zN_uI, zN_uJ, zN_uA, zN_uB, zN_uR, zN_uN, zI_ne, zJ_ne, zA_ne, zB_ne, zR_ne, zN_ne, bi_T, bi_F, nz16, ↓reduceIte, not_true_eq_false, not_false_eq_true, Bool.false_eq_true, reduceCtorEq, hm1, hn']
      · unfold fX12_play
        simp (disch := omega) only [l0, l1, l2, l3, l4, l5, l6, l7, l8, l9, l10, l11, l12, l16, l18, l19, l20, l21, l24, l96, l128, l100, l144, l200, l256, l288, l1536, l1728, l1800, bnd, nI_add, pk_mul, pI_sub, pI_m1, pT_le, pF_le, pT_lt, pF_lt, pT_eq, pF_eq, pF_m1, mF_eq, mT_eq, mT_lt, mF_le, lm1, rd_nI, wr_nI, cl_nI, pk_us, un_ne, pk_uLs, uL_ne, zI_uI, zI_uJ, zI_uA, zI_uB, zI_uR, zI_uN, zJ_uI, zJ_uJ, zJ_uA, zJ_uB, zJ_uR, zJ_uN, zA_uI, zA_uJ, zA_uA, zA_uB, zA_uR, zA_uN, zB_uI, zB_uJ, zB_uA, zB_uB, zB_uR, zB_uN, zR_uI, zR_uJ, zR_uA, zR_uB, zR_uR, zR_uN, zN_uI, zN_uJ, zN_uA, zN_uB, zN_uR, zN_uN, zI_ne, zJ_ne, zA_ne, zB_ne, zR_ne, zN_ne, bi_T, bi_F, nz16, ↓reduceIte, not_true_eq_false, not_false_eq_true, Bool.false_eq_true, reduceCtorEq, hm1, m_isInN hn]
    · by_cases hkl : k < pl.length
      · have hat := c_playedAt hg hp hkl
        have h78 := (hp.2.2.1 k hkl).2
        have hin := m_isIn (a := k) (b := 0) (c := pl.length - 1) (by omega) (by omega) (by omega)
        rw [decide_eq_true ⟨by omega, by omega⟩] at hin
        refine B1.no (nI (pl.getD k 0)) ?_ ?_
        · unfold fX11_play
          simp (disch := omega) only [l0, l1, l2, l3, l4, l5, l6, l7, l8, l9, l10, l11, l12, l16, l18, l19, l20, l21, l24, l96, l128, l100, l144, l200, l256, l288, l1536, l1728, l1800, bnd, nI_add, pk_mul, pI_sub, pI_m1, pT_le, pF_le, pT_lt, pF_lt, pT_eq, pF_eq, pF_m1, mF_eq, mT_eq, mT_lt, mF_le, lm1, rd_nI, wr_nI, cl_nI, pk_us, un_ne, pk_uLs, uL_ne, zI_uI, zI_uJ, zI_uA, zI_uB, zI_uR, zI_uN, zJ_uI, zJ_uJ, zJ_uA, zJ_uB, zJ_uR, zJ_uN, zA_uI, zA_uJ, zA_uA, zA_uB, zA_uR, zA_uN, zB_uI, zB_uJ, zB_uA, zB_uB, zB_uR, zB_uN, zR_uI, zR_uJ, zR_uA, zR_uB, zR_uR, zR_uN, zN_uI, zN_uJ, zN_uA, zN_uB, zN_uR, zN_uN, zI_ne, zJ_ne, zA_ne, zB_ne, zR_ne, zN_ne, bi_T, bi_F, nz16, ↓reduceIte, not_true_eq_false, not_false_eq_true, Bool.false_eq_true, reduceCtorEq, hat]
        · unfold fX12_play
          simp (disch := omega) only [l0, l1, l2, l3, l4, l5, l6, l7, l8, l9, l10, l11, l12, l16, l18, l19, l20, l21, l24, l96, l128, l100, l144, l200, l256, l288, l1536, l1728, l1800, bnd, nI_add, pk_mul, pI_sub, pI_m1, pT_le, pF_le, pT_lt, pF_lt, pT_eq, pF_eq, pF_m1, mF_eq, mT_eq, mT_lt, mF_le, lm1, rd_nI, wr_nI, cl_nI, pk_us, un_ne, pk_uLs, uL_ne, zI_uI, zI_uJ, zI_uA, zI_uB, zI_uR, zI_uN, zJ_uI, zJ_uJ, zJ_uA, zJ_uB, zJ_uR, zJ_uN, zA_uI, zA_uJ, zA_uA, zA_uB, zA_uR, zA_uN, zB_uI, zB_uJ, zB_uA, zB_uB, zB_uR, zB_uN, zR_uI, zR_uJ, zR_uA, zR_uB, zR_uR, zR_uN, zN_uI, zN_uJ, zN_uA, zN_uB, zN_uR, zN_uN, zI_ne, zJ_ne, zA_ne, zB_ne, zR_ne, zN_ne, bi_T, bi_F, nz16, ↓reduceIte, not_true_eq_false, not_false_eq_true, Bool.false_eq_true, reduceCtorEq, h48, hin, h78]
      · refine B1.no mI ?_ ?_
        · unfold fX11_play fX8_playedAt
          simp (disch := omega) only [l0, l1, l2, l3, l4, l5, l6, l7, l8, l9, l10, l11, l12, l16, l18, l19, l20, l21, l24, l96, l128, l100, l144, l200, l256, l288, l1536, l1728, l1800, bnd, nI_add, pk_mul, pI_sub, pI_m1, pT_le, pF_le, pT_lt, pF_lt, pT_eq, pF_eq, pF_m1, mF_eq, mT_eq, mT_lt, mF_le, lm1, rd_nI, wr_nI, cl_nI, pk_us, un_ne, pk_uLs, uL_ne, zI_uI, zI_uJ, zI_uA, zI_uB, zI_uR, zI_uN, zJ_uI, zJ_uJ, zJ_uA, zJ_uB, zJ_uR, zJ_uN, zA_uI, zA_uJ, zA_uA, zA_uB, zA_uR, zA_uN, zB_uI, zB_uJ, zB_uA, zB_uB, zB_uR, zB_uN, zR_uI, zR_uJ, zR_uA, zR_uB, zR_uR, zR_uN, zN_uI, zN_uJ, zN_uA, zN_uB, zN_uR, zN_uN, zI_ne, zJ_ne, zA_ne, zB_ne, zR_ne, zN_ne, bi_T, bi_F, nz16, ↓reduceIte, not_true_eq_false, not_false_eq_true, Bool.false_eq_true, reduceCtorEq, h26]
        · unfold fX12_play fX12_isIn
          by_cases h0 : pl.length = 0
          · have e0 : (nI 0 - nI 1 : Int32) = mI := by decide
            have e1 : (mI < nI k) = True := by
              have := mF_le hk
              refine eq_true ?_
              rw [Int32.lt_iff_toInt_lt, nI_toInt hk]
              have h2 : mI.toInt = -1 := rfl
              omega
            simp (disch := omega) only [l0, l1, l2, l3, l4, l5, l6, l7, l8, l9, l10, l11, l12, l16, l18, l19, l20, l21, l24, l96, l128, l100, l144, l200, l256, l288, l1536, l1728, l1800, bnd, nI_add, pk_mul, pI_sub, pI_m1, pT_le, pF_le, pT_lt, pF_lt, pT_eq, pF_eq, pF_m1, mF_eq, mT_eq, mT_lt, mF_le, lm1, rd_nI, wr_nI, cl_nI, pk_us, un_ne, pk_uLs, uL_ne, zI_uI, zI_uJ, zI_uA, zI_uB, zI_uR, zI_uN, zJ_uI, zJ_uJ, zJ_uA, zJ_uB, zJ_uR, zJ_uN, zA_uI, zA_uJ, zA_uA, zA_uB, zA_uR, zA_uN, zB_uI, zB_uJ, zB_uA, zB_uB, zB_uR, zB_uN, zR_uI, zR_uJ, zR_uA, zR_uB, zR_uR, zR_uN, zN_uI, zN_uJ, zN_uA, zN_uB, zN_uR, zN_uN, zI_ne, zJ_ne, zA_ne, zB_ne, zR_ne, zN_ne, bi_T, bi_F, nz16, ↓reduceIte, not_true_eq_false, not_false_eq_true, Bool.false_eq_true, reduceCtorEq, h48, h0, e0, e1]
          · simp (disch := omega) only [l0, l1, l2, l3, l4, l5, l6, l7, l8, l9, l10, l11, l12, l16, l18, l19, l20, l21, l24, l96, l128, l100, l144, l200, l256, l288, l1536, l1728, l1800, bnd, nI_add, pk_mul, pI_sub, pI_m1, pT_le, pF_le, pT_lt, pF_lt, pT_eq, pF_eq, pF_m1, mF_eq, mT_eq, mT_lt, mF_le, lm1, rd_nI, wr_nI, cl_nI, pk_us, un_ne, pk_uLs, uL_ne, zI_uI, zI_uJ, zI_uA, zI_uB, zI_uR, zI_uN, zJ_uI, zJ_uJ, zJ_uA, zJ_uB, zJ_uR, zJ_uN, zA_uI, zA_uJ, zA_uA, zA_uB, zA_uR, zA_uN, zB_uI, zB_uJ, zB_uA, zB_uB, zB_uR, zB_uN, zR_uI, zR_uJ, zR_uA, zR_uB, zR_uR, zR_uN, zN_uI, zN_uJ, zN_uA, zN_uB, zN_uR, zN_uN, zI_ne, zJ_ne, zA_ne, zB_ne, zR_ne, zN_ne, bi_T, bi_F, nz16, ↓reduceIte, not_true_eq_false, not_false_eq_true, Bool.false_eq_true, reduceCtorEq, h48]
