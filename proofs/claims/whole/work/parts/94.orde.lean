/-! orders: one state less, one state more -/
theorem sd_low {z : Nat → Nat} {u low r : Nat} (hu : u % rx z r = 0) (hl : low < rx z r) : (∀ j, r ≤ j → sd z (u + low) j = sd z u j) ∧ ∀ j, j < r → sd z (u + low) j = sd z low j := by
  obtain ⟨m, rfl⟩ : ∃ m, u = rx z r * m := ⟨u / rx z r, by have := Nat.div_add_mod u (rx z r); omega⟩
  refine ⟨fun j hj => ?_, fun j hj => ?_⟩
  · obtain ⟨c, e, hc⟩ := rx_mul z r (j - r)
    rw [show r + (j - r) = j by omega] at e
    unfold sd
    rw [e, ← Nat.div_div_eq_div_mul, ← Nat.div_div_eq_div_mul, Nat.mul_add_div (rx_pos z r), Nat.mul_div_cancel_left _ (rx_pos z r), Nat.div_eq_of_lt hl, Nat.add_zero]
  · obtain ⟨c, e, _⟩ := rx_mul z (j + 1) (r - (j + 1))
    rw [show j + 1 + (r - (j + 1)) = r by omega] at e
    have e2 : rx z r * m = rx z j * ((z j + 1) * (c * m)) := by rw [e, Nat.mul_assoc]; show rx z j * (z j + 1) * (c * m) = _; rw [Nat.mul_assoc]
    unfold sd
    rw [e2, Nat.mul_add_div (rx_pos z j), Nat.mul_add_mod]
theorem low_zero {z : Nat → Nat} {st : Nat} : ∀ r, (∀ j, j < r → sd z st j = 0) → st % rx z r = 0
  | 0, _ => Nat.mod_one st
  | r + 1, H => by
    rw [sd_mod, low_zero r (fun j hj => H j (by omega)), H r (by omega)]
    rfl
theorem low_full {z : Nat → Nat} {st : Nat} : ∀ r, (∀ j, j < r → sd z st j = z j) → st % rx z r + 1 = rx z r
  | 0, _ => by rw [show rx z 0 = 1 from rfl, Nat.mod_one]
  | r + 1, H => by
    have h1 := low_full r (fun j hj => H j (by omega))
    rw [sd_mod, H r (by omega)]
    show _ = rx z r * (z r + 1)
    rw [Nat.mul_add]
    omega
theorem sd_full {z : Nat → Nat} {n st : Nat} (h : st + 1 = rx z n) (r : Nat) (hr : r < n) : sd z st r = z r := by
  have h1 := sd_le z st r
  apply Decidable.byContradiction
  intro hne
  have h3 := sd_room (z := z) (st := st) (r := r) (by omega) hr (by omega)
  have h4 := rx_pos z r
  omega
theorem sd_dec {z : Nat → Nat} {st r : Nat} (hz : ∀ j, j < r → sd z st j = 0) (hp : 0 < sd z st r) : (∀ j, j < r → sd z (st - 1) j = z j) ∧ sd z (st - 1) r = sd z st r - 1 ∧ ∀ j, r < j → sd z (st - 1) j = sd z st j := by
  have h0 := low_zero r hz
  have hx := rx_pos z r
  have h1 := sd_pos hp
  have h2 := sd_back hp
  have h3 := sd_back_lt hp
  obtain ⟨u, rfl⟩ : ∃ u, st = u + rx z r := ⟨st - rx z r, by omega⟩
  rw [Nat.add_mod_right] at h0
  rw [show u + rx z r - rx z r = u by omega] at h2 h3
  have e : u + rx z r - 1 = u + (rx z r - 1) := by omega
  rw [e]
  have hl := sd_low (z := z) h0 (show rx z r - 1 < rx z r by omega)
  refine ⟨fun j hj => ?_, ?_, fun j hj => ?_⟩
  · rw [hl.2 j hj]
    exact sd_full (by omega) j hj
  · rw [hl.1 r (Nat.le_refl _)]
    omega
  · rw [hl.1 j (by omega), sd_other h3 (by omega)]
theorem sd_nil (z : Nat → Nat) (j : Nat) : sd z 0 j = 0 := by
  unfold sd
  rw [Nat.zero_div, Nat.zero_mod]
theorem sd_inc {z : Nat → Nat} {st r : Nat} (hz : ∀ j, j < r → sd z st j = z j) (hp : sd z st r < z r) : (∀ j, j < r → sd z (st + 1) j = 0) ∧ sd z (st + 1) r = sd z st r + 1 ∧ ∀ j, r < j → sd z (st + 1) j = sd z st j := by
  have h0 := low_full r hz
  have hx := rx_pos z r
  obtain ⟨u, hu, e⟩ : ∃ u, u % rx z r = 0 ∧ st = u + (rx z r - 1) := ⟨rx z r * (st / rx z r), Nat.mul_mod_right _ _, by
    have := Nat.div_add_mod st (rx z r)
    omega⟩
  have hl := sd_low (z := z) hu (show rx z r - 1 < rx z r by omega)
  rw [← e] at hl
  have e2 : st + 1 = u + rx z r := by omega
  have hpu : sd z u r < z r := by rw [← hl.1 r (Nat.le_refl _)]; exact hp
  rw [e2]
  refine ⟨fun j hj => ?_, ?_, fun j hj => ?_⟩
  · rw [sd_other hpu (by omega)]
    have h5 := (sd_low (z := z) (low := 0) hu hx).2 j hj
    rw [Nat.add_zero, sd_nil] at h5
    exact h5
  · rw [sd_same hpu, hl.1 r (Nat.le_refl _)]
  · rw [sd_other hpu (by omega), hl.1 j (by omega)]
def SD (τ : St) (g : Gh) (S st : Nat) : Prop := ∀ a, a < am S → zA τ 40 a = nI (sd (zs g S) st (rho S a))
theorem SD.fr {σ τ : St} {g : Gh} {S n : Nat} {A B K N : List Nat} (h : SD σ g S n) (f : FR A B K N σ τ) (hA : 40 ∉ A) : SD τ g S n := by
  unfold SD
  rw [f.1 40 hA]
  exact h
theorem rho_mono {S a b : Nat} (hS : S < 256) (hb : b ≤ am S) (h : a < b) : rho S a < rho S b := rho_lt S hS b (by have := rho_am S hS; omega) a h hb
theorem rho_onto {S r : Nat} (hS : S < 256) (hr : r < 8) (hb : S.testBit r = true) : ∃ a, a < am S ∧ rho S a = r := ⟨cnt S r, ((rho_cnt S hS).2.2 r hr).2.1 hb |>.1, (((rho_cnt S hS).2.2 r hr).2.1 hb).2.1⟩
/-- what holds of the digits of the set's rolls ahead of one of them holds of all digits ahead -/
theorem sd_ahead {g : Gh} {S a st : Nat} {P : Nat → Prop} (hS : S < 256) (ha : a ≤ am S) (h0 : ∀ j, zs g S j = 0 → P j) (H : ∀ b, b < a → P (rho S b)) (j : Nat) (hj : j < rho S a) (hj8 : j < 8) : P j := by
  cases hb : S.testBit j with
  | false => exact h0 j (zs_out hb)
  | true =>
    obtain ⟨b, h1, h2⟩ := rho_onto hS hj8 hb
    rw [← h2]
    apply H
    apply Decidable.byContradiction
    intro hx
    by_cases e : a = b
    · rw [e, h2] at hj
      omega
    · have := rho_mono hS (by omega) (show a < b by omega)
      omega
theorem c_stepBack {σ : St} {g : Gh} {S st : Nat} (hg : okG g) (hS : inG g S) (hL : LO σ g S (am S)) (h21 : zI σ 21 = nI (am S)) (hst : st < rx (zs g S) 8) (hp : 0 < st) (hD : SD σ g S st) : ∃ υ, FR [40] [] [] [] σ υ ∧ SD υ g S (st - 1) ∧ fX2_stepBack σ = some υ := by
  have h1 := rho_am S hS.1
  have h8 := (rho_cnt S hS.1).2.1
  have key := it_for (β := St) (body := fun (kb : (St × Int32) → Option St) (t : St × Int32) => fX2_stepBack_L2 (fun s4 x5 => (rd (zA s4 40) 8 x5).bind fun x6 => wr 8 x5 ((some (uA s4 40 (upd (zA s4 40) (Int32.toNatClampNeg x5) (x6 - (1 : Int32))))).bind fun s7 => some s7)) (fun σ v1 => kb (σ, v1)) t.1 t.2) (am S) (by omega) (fun a τ => (τ, nI a)) (fun a τ => FR [40] [] [] [] σ τ ∧ (∀ b, b < a → sd (zs g S) st (rho S b) = 0 ∧ zA τ 40 b = nI (zs g S (rho S b))) ∧ ∀ b, a ≤ b → b < am S → zA τ 40 b = nI (sd (zs g S) st (rho S b))) (fun a τ z => ∃ υ, FR [40] [] [] [] σ υ ∧ SD υ g S (st - 1) ∧ z = some υ) ?_ 0 σ (Nat.zero_le _) ⟨FR.rf _ _ _ _ _, fun b hb => absurd hb (Nat.not_lt_zero _), fun b _ hb => hD b hb⟩
  · exact key
  · rintro a τ ha ⟨hF, hlo, hhi⟩ kb hkb
    show ∃ υ, _ ∧ _ ∧ fX2_stepBack_L2 _ (fun σ v1 => kb (σ, v1)) τ (nI a) = _
    have hl21 : zI τ 21 = nI (am S) := (hF.2.2.1 21 (by decide)).trans h21
    have hdig := sd_ahead (g := g) (st := st) (P := fun j => sd (zs g S) st j = 0) hS.1 ha (fun j hj => by have := sd_le (zs g S) st j; omega) (fun b hb => (hlo b hb).1)
    unfold fX2_stepBack_L2
    by_cases hae : a = am S
    · exfalso
      rw [hae, h8] at hdig
      have h9 := low_zero (z := zs g S) (st := st) 8 (fun j hj => hdig j hj hj)
      rw [Nat.mod_eq_of_lt hst] at h9
      omega
    · have ha2 : a < am S := by omega
      have hi := rho_in S hS.1 a (by omega) ha2
      have h40 := hhi a (Nat.le_refl _) ha2
      have h36 := (hL.fr hF (by decide) a ha2).2.1
      have hle := sd_le (zs g S) st (rho S a)
      have hz := zs_le hg hS hi.1
      by_cases hs : sd (zs g S) st (rho S a) = 0
      · have nx := hkb (uA τ 40 (upd (zA τ 40) a (nI (zs g S (rho S a))))) ha2 ⟨FR.uA hF (by decide), fun b hb => by
          by_cases e : b = a
          · rw [e]
            refine ⟨hs, ?_⟩
            rw [zA_uA, pk_us]
          · rw [zA_uA, pk_un e]
            exact hlo b (by omega), fun b hb hbm => by
          rw [zA_uA, pk_un (show b ≠ a by omega)]
          exact hhi b (by omega) hbm⟩
        simp (disch := omega) only [l0, l1, l2, l3, l4, l5, l6, l7, l8, l9, l10, l11, l12, l16, l18, l19, l20, l21, l24, l96, l128, l100, l144, l200, l256, l288, l1536, l1728, l1800, bnd, nI_add, pk_mul, pI_sub, pI_m1, pT_le, pF_le, pT_lt, pF_lt, pT_eq, pF_eq, pF_m1, mF_eq, mT_eq, mT_lt, mF_le, lm1, rd_nI, wr_nI, cl_nI, pk_us, un_ne, pk_uLs, uL_ne, zI_uI, zI_uJ, zI_uA, zI_uB, zI_uR, zI_uN, zJ_uI, zJ_uJ, zJ_uA, zJ_uB, zJ_uR, zJ_uN, zA_uI, zA_uJ, zA_uA, zA_uB, zA_uR, zA_uN, zB_uI, zB_uJ, zB_uA, zB_uB, zB_uR, zB_uN, zR_uI, zR_uJ, zR_uA, zR_uB, zR_uR, zR_uN, zN_uI, zN_uJ, zN_uA, zN_uB, zN_uR, zN_uN, zI_ne, zJ_ne, zA_ne, zB_ne, zR_ne, zN_ne, bi_T, bi_F, nz16, ↓reduceIte, not_true_eq_false, not_false_eq_true, Bool.false_eq_true, reduceCtorEq, hl21, h40, h36, hs]
        exact nx
      · have hdec := sd_dec (z := zs g S) (st := st) (r := rho S a) (fun j hj => hdig j hj (by omega)) (by omega)
        have hsub : nI (sd (zs g S) st (rho S a)) - nI 1 = nI (sd (zs g S) st (rho S a) - 1) := pI_sub (by omega)
        refine ⟨uA τ 40 (upd (zA τ 40) a (nI (sd (zs g S) st (rho S a) - 1))), FR.uA hF (by decide), ?_, ?_⟩
        · intro b hb
          rw [zA_uA]
          by_cases e : b = a
          · rw [e, pk_us, hdec.2.1]
          · rw [pk_un e]
            by_cases e2 : b < a
            · rw [(hlo b e2).2, hdec.1 _ (rho_mono hS.1 ha e2)]
            · rw [hhi b (by omega) hb, hdec.2.2 _ (rho_mono hS.1 (by omega) (show a < b by omega))]
        · simp (disch := omega) only [l0, l1, l2, l3, l4, l5, l6, l7, l8, l9, l10, l11, l12, l16, l18, l19, l20, l21, l24, l96, l128, l100, l144, l200, l256, l288, l1536, l1728, l1800, bnd, nI_add, pk_mul, pI_sub, pI_m1, pT_le, pF_le, pT_lt, pF_lt, pT_eq, pF_eq, pF_m1, mF_eq, mT_eq, mT_lt, mF_le, lm1, rd_nI, wr_nI, cl_nI, pk_us, un_ne, pk_uLs, uL_ne, zI_uI, zI_uJ, zI_uA, zI_uB, zI_uR, zI_uN, zJ_uI, zJ_uJ, zJ_uA, zJ_uB, zJ_uR, zJ_uN, zA_uI, zA_uJ, zA_uA, zA_uB, zA_uR, zA_uN, zB_uI, zB_uJ, zB_uA, zB_uB, zB_uR, zB_uN, zR_uI, zR_uJ, zR_uA, zR_uB, zR_uR, zR_uN, zN_uI, zN_uJ, zN_uA, zN_uB, zN_uR, zN_uN, zI_ne, zJ_ne, zA_ne, zB_ne, zR_ne, zN_ne, bi_T, bi_F, nz16, ↓reduceIte, not_true_eq_false, not_false_eq_true, Bool.false_eq_true, reduceCtorEq, hl21, h40, hsub]
theorem c_stepOn {σ : St} {g : Gh} {S st : Nat} (hg : okG g) (hS : inG g S) (hL : LO σ g S (am S)) (h21 : zI σ 21 = nI (am S)) (hst : st + 1 < rx (zs g S) 8) (hD : SD σ g S st) : ∃ υ, FR [40] [] [] [] σ υ ∧ SD υ g S (st + 1) ∧ fX2_stepOn σ = some υ := by
  have h1 := rho_am S hS.1
  have h8 := (rho_cnt S hS.1).2.1
  have key := it_for (β := St) (body := fun (kb : (St × Int32) → Option St) (t : St × Int32) => fX2_stepOn_L2 (fun s4 x5 => (rd (zA s4 40) 8 x5).bind fun x6 => wr 8 x5 ((some (uA s4 40 (upd (zA s4 40) (Int32.toNatClampNeg x5) (x6 + (1 : Int32))))).bind fun s7 => some s7)) (fun σ v1 => kb (σ, v1)) t.1 t.2) (am S) (by omega) (fun a τ => (τ, nI a)) (fun a τ => FR [40] [] [] [] σ τ ∧ (∀ b, b < a → sd (zs g S) st (rho S b) = zs g S (rho S b) ∧ zA τ 40 b = nI 0) ∧ ∀ b, a ≤ b → b < am S → zA τ 40 b = nI (sd (zs g S) st (rho S b))) (fun a τ z => ∃ υ, FR [40] [] [] [] σ υ ∧ SD υ g S (st + 1) ∧ z = some υ) ?_ 0 σ (Nat.zero_le _) ⟨FR.rf _ _ _ _ _, fun b hb => absurd hb (Nat.not_lt_zero _), fun b _ hb => hD b hb⟩
  · exact key
  · rintro a τ ha ⟨hF, hlo, hhi⟩ kb hkb
    show ∃ υ, _ ∧ _ ∧ fX2_stepOn_L2 _ (fun σ v1 => kb (σ, v1)) τ (nI a) = _
    have hl21 : zI τ 21 = nI (am S) := (hF.2.2.1 21 (by decide)).trans h21
    have hdig := sd_ahead (g := g) (st := st) (P := fun j => sd (zs g S) st j = zs g S j) hS.1 ha (fun j hj => by have := sd_le (zs g S) st j; omega) (fun b hb => (hlo b hb).1)
    unfold fX2_stepOn_L2
    by_cases hae : a = am S
    · exfalso
      rw [hae, h8] at hdig
      have h9 := low_full (z := zs g S) (st := st) 8 (fun j hj => hdig j hj hj)
      rw [Nat.mod_eq_of_lt (by omega)] at h9
      omega
    · have ha2 : a < am S := by omega
      have hi := rho_in S hS.1 a (by omega) ha2
      have h40 := hhi a (Nat.le_refl _) ha2
      have h36 := (hL.fr hF (by decide) a ha2).2.1
      have hle := sd_le (zs g S) st (rho S a)
      have hz := zs_le hg hS hi.1
      by_cases hs : sd (zs g S) st (rho S a) = zs g S (rho S a)
      · have nx := hkb (uA τ 40 (upd (zA τ 40) a (nI 0))) ha2 ⟨FR.uA hF (by decide), fun b hb => by
          by_cases e : b = a
          · rw [e]
            refine ⟨hs, ?_⟩
            rw [zA_uA, pk_us]
          · rw [zA_uA, pk_un e]
            exact hlo b (by omega), fun b hb hbm => by
          rw [zA_uA, pk_un (show b ≠ a by omega)]
          exact hhi b (by omega) hbm⟩
        simp (disch := omega) only [l0, l1, l2, l3, l4, l5, l6, l7, l8, l9, l10, l11, l12, l16, l18, l19, l20, l21, l24, l96, l128, l100, l144, l200, l256, l288, l1536, l1728, l1800, bnd, nI_add, pk_mul, pI_sub, pI_m1, pT_le, pF_le, pT_lt, pF_lt, pT_eq, pF_eq, pF_m1, mF_eq, mT_eq, mT_lt, mF_le, lm1, rd_nI, wr_nI, cl_nI, pk_us, un_ne, pk_uLs, uL_ne, zI_uI, zI_uJ, zI_uA, zI_uB, zI_uR, zI_uN, zJ_uI, zJ_uJ, zJ_uA, zJ_uB, zJ_uR, zJ_uN, zA_uI, zA_uJ, zA_uA, zA_uB, zA_uR, zA_uN, zB_uI, zB_uJ, zB_uA, zB_uB, zB_uR, zB_uN, zR_uI, zR_uJ, zR_uA, zR_uB, zR_uR, zR_uN, zN_uI, zN_uJ, zN_uA, zN_uB, zN_uR, zN_uN, zI_ne, zJ_ne, zA_ne, zB_ne, zR_ne, zN_ne, bi_T, bi_F, nz16, ↓reduceIte, not_true_eq_false, not_false_eq_true, Bool.false_eq_true, reduceCtorEq, hl21, h40, h36, hs]
        exact nx
      · have hdec := sd_inc (z := zs g S) (st := st) (r := rho S a) (fun j hj => hdig j hj (by omega)) (by omega)
        refine ⟨uA τ 40 (upd (zA τ 40) a (nI (sd (zs g S) st (rho S a) + 1))), FR.uA hF (by decide), ?_, ?_⟩
        · intro b hb
          rw [zA_uA]
          by_cases e : b = a
          · rw [e, pk_us, hdec.2.1]
          · rw [pk_un e]
            by_cases e2 : b < a
            · rw [(hlo b e2).2, hdec.1 _ (rho_mono hS.1 ha e2)]
            · rw [hhi b (by omega) hb, hdec.2.2 _ (rho_mono hS.1 (by omega) (show a < b by omega))]
        · simp (disch := omega) only [l0, l1, l2, l3, l4, l5, l6, l7, l8, l9, l10, l11, l12, l16, l18, l19, l20, l21, l24, l96, l128, l100, l144, l200, l256, l288, l1536, l1728, l1800, bnd, nI_add, pk_mul, pI_sub, pI_m1, pT_le, pF_le, pT_lt, pF_lt, pT_eq, pF_eq, pF_m1, mF_eq, mT_eq, mT_lt, mF_le, lm1, rd_nI, wr_nI, cl_nI, pk_us, un_ne, pk_uLs, uL_ne, zI_uI, zI_uJ, zI_uA, zI_uB, zI_uR, zI_uN, zJ_uI, zJ_uJ, zJ_uA, zJ_uB, zJ_uR, zJ_uN, zA_uI, zA_uJ, zA_uA, zA_uB, zA_uR, zA_uN, zB_uI, zB_uJ, zB_uA, zB_uB, zB_uR, zB_uN, zR_uI, zR_uJ, zR_uA, zR_uB, zR_uR, zR_uN, zN_uI, zN_uJ, zN_uA, zN_uB, zN_uR, zN_uN, zI_ne, zJ_ne, zA_ne, zB_ne, zR_ne, zN_ne, bi_T, bi_F, nz16, ↓reduceIte, not_true_eq_false, not_false_eq_true, Bool.false_eq_true, reduceCtorEq, hl21, h40, h36]
