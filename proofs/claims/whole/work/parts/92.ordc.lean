/-! orders: the class's layout -/
def FR (A B K N : List Nat) (σ τ : St) : Prop := (∀ q, q ∉ A → zA τ q = zA σ q) ∧ (∀ q, q ∉ B → zB τ q = zB σ q) ∧ (∀ q, q ∉ K → zI τ q = zI σ q) ∧ (∀ q, q ∉ N → zN τ q = zN σ q) ∧ zR τ = zR σ
theorem FR.rf (A B K N : List Nat) (σ : St) : FR A B K N σ σ := ⟨fun _ _ => rfl, fun _ _ => rfl, fun _ _ => rfl, fun _ _ => rfl, rfl⟩
theorem FR.tr {A B K N : List Nat} {σ τ υ : St} (h : FR A B K N σ τ) (k : FR A B K N τ υ) : FR A B K N σ υ :=
  ⟨fun q hq => (k.1 q hq).trans (h.1 q hq), fun q hq => (k.2.1 q hq).trans (h.2.1 q hq), fun q hq => (k.2.2.1 q hq).trans (h.2.2.1 q hq), fun q hq => (k.2.2.2.1 q hq).trans (h.2.2.2.1 q hq), k.2.2.2.2.trans h.2.2.2.2⟩
theorem FR.mono {A B K N A' B' K' N' : List Nat} {σ τ : St} (h : FR A B K N σ τ) (hA : ∀ q, q ∈ A → q ∈ A') (hB : ∀ q, q ∈ B → q ∈ B') (hK : ∀ q, q ∈ K → q ∈ K') (hN : ∀ q, q ∈ N → q ∈ N') : FR A' B' K' N' σ τ :=
  ⟨fun q hq => h.1 q (fun x => hq (hA q x)), fun q hq => h.2.1 q (fun x => hq (hB q x)), fun q hq => h.2.2.1 q (fun x => hq (hK q x)), fun q hq => h.2.2.2.1 q (fun x => hq (hN q x)), h.2.2.2.2⟩
theorem FR.uA {A B K N : List Nat} {σ τ : St} {q : Nat} {f : Nat → Int32} (h : FR A B K N σ τ) (hq : q ∈ A) : FR A B K N σ (uA τ q f) :=
  h.tr ⟨fun j hj => zA_ne (fun e => hj (e ▸ hq)), fun _ _ => rfl, fun _ _ => rfl, fun _ _ => rfl, rfl⟩
theorem FR.uB {A B K N : List Nat} {σ τ : St} {q : Nat} {f : Nat → Int64} (h : FR A B K N σ τ) (hq : q ∈ B) : FR A B K N σ (uB τ q f) :=
  h.tr ⟨fun _ _ => rfl, fun j hj => zB_ne (fun e => hj (e ▸ hq)), fun _ _ => rfl, fun _ _ => rfl, rfl⟩
theorem FR.uI {A B K N : List Nat} {σ τ : St} {q : Nat} {f : Int32} (h : FR A B K N σ τ) (hq : q ∈ K) : FR A B K N σ (uI τ q f) :=
  h.tr ⟨fun _ _ => rfl, fun _ _ => rfl, fun j hj => zI_ne (fun e => hj (e ▸ hq)), fun _ _ => rfl, rfl⟩
theorem FR.uN {A B K N : List Nat} {σ τ : St} {q : Nat} {f : Nat} (h : FR A B K N σ τ) (hq : q ∈ N) : FR A B K N σ (uN τ q f) :=
  h.tr ⟨fun _ _ => rfl, fun _ _ => rfl, fun _ _ => rfl, fun j hj => zN_ne (fun e => hj (e ▸ hq)), rfl⟩
theorem FR.jc {A B K N : List Nat} {σ τ : St} {g : Gh} (h : FR A B K N σ τ) (hA : ∀ q, q ∈ [23, 25, 27, 29] → q ∉ A) (hB : ∀ q, q ∈ [26, 28] → q ∉ B) (hK : ∀ q, q ∈ [17, 18] → q ∉ K) (j : JC σ g) : JC τ g := by
  unfold JC
  rw [h.2.2.1 18 (hK 18 (by decide)), h.2.2.1 17 (hK 17 (by decide)), h.1 23 (hA 23 (by decide)), h.1 25 (hA 25 (by decide)), h.1 27 (hA 27 (by decide)), h.1 29 (hA 29 (by decide)), h.2.1 26 (hB 26 (by decide)), h.2.1 28 (hB 28 (by decide))]
  exact j
def rL (S : Nat) : List Nat := (List.range 8).filter (fun r => S.testBit r)
def am (S : Nat) : Nat := (rL S).length
def rho (S a : Nat) : Nat := (rL S).getD a 8
def cnt (S i : Nat) : Nat := ((List.range i).filter (fun r => S.testBit r)).length
theorem rho_am : ∀ S, S < 256 → am S ≤ 8 := by decide +kernel
theorem rho_in : ∀ S, S < 256 → ∀ a, a < 8 → a < am S → rho S a < 8 ∧ S.testBit (rho S a) = true := by decide +kernel
theorem rho_out : ∀ S, S < 256 → ∀ a, a < 8 → ∀ r, r < 8 → rho S a < r → r < rho S (a + 1) → S.testBit r = false := by decide +kernel
theorem rho_out0 : ∀ S, S < 256 → ∀ r, r < 8 → r < rho S 0 → S.testBit r = false := by decide +kernel
theorem rho_lt : ∀ S, S < 256 → ∀ b, b < 9 → ∀ a, a < b → b ≤ am S → rho S a < rho S b := by decide +kernel
theorem rho_cnt : ∀ S, S < 256 → cnt S 8 = am S ∧ rho S (am S) = 8 ∧ ∀ r, r < 8 → cnt S r ≤ r ∧ (S.testBit r = true → cnt S r < am S ∧ rho S (cnt S r) = r ∧ cnt S (r + 1) = cnt S r + 1) ∧ (S.testBit r = false → cnt S (r + 1) = cnt S r) := by decide +kernel
theorem rho_ne : ∀ S, S < 256 → S ≠ 0 → 0 < am S := by decide +kernel
/-- What the class has laid out of the rolls. -/
def LO (τ : St) (g : Gh) (S n : Nat) : Prop := ∀ a, a < n → zA τ 35 a = nI (rho S a) ∧ zA τ 36 a = nI (zs g S (rho S a)) ∧ zA τ 37 a = nI (rx (zs g S) (rho S a)) ∧ zA τ 38 a = nI (oA (zs g S) (rho S a))
theorem rx_two (z : Nat → Nat) : ∀ n, rx z n ≤ 2 ^ oA z n
  | 0 => Nat.le_refl _
  | n + 1 => by
    have h1 := rx_two z n
    have h2 : z n + 1 ≤ 2 ^ z n := Nat.lt_two_pow_self
    show rx z n * (z n + 1) ≤ 2 ^ (oA z n + z n)
    rw [Nat.pow_add]
    exact Nat.mul_le_mul h1 h2
theorem oA_le {z : Nat → Nat} {B : Nat} : ∀ n, (∀ r, r < n → z r ≤ B) → oA z n ≤ B * n
  | 0, _ => Nat.zero_le _
  | n + 1, H => by
    have h1 := oA_le n (fun r hr => H r (by omega))
    have h2 := H n (by omega)
    show oA z n + z n ≤ B * (n + 1)
    rw [Nat.mul_add]
    omega
theorem l20000 : (20000 : Int32) = nI 20000 := nrfl rfl
theorem zs_in {g : Gh} {S r : Nat} (h : S.testBit r = true) : zs g S r = gS g r := by
  unfold zs
  rw [if_pos h]
theorem zs_out {g : Gh} {S r : Nat} (h : S.testBit r = false) : zs g S r = 0 := by
  unfold zs
  rw [if_neg (by rw [h]; decide)]
theorem c_layOut {σ : St} {g : Gh} {S : Nat} (hg : okG g) (hj : JC σ g) (hS : inG g S) : ∃ τ, fX2_layOut σ (nI S) = some (decide (sm g S), τ) ∧ FR [35, 36, 37, 38] [] [21, 22] [] σ τ ∧ (sm g S → LO τ g S (am S) ∧ zI τ 21 = nI (am S) ∧ zI τ 22 = nI (rx (zs g S) 8)) := by
  have hS2 := hS.1
  have key := it_for (β := St) (body := fun (kb : (St × Int32 × Int32) → Option (Bool × St)) (t : St × Int32 × Int32) => fX2_layOut_L14 (nI S) (fun s14 x15 => if (20 : Int32) < x15 then (some (false, s14))
  else (if (20000 : Int32) < (zI s14 22) then (some (false, s14))
  else (some (true, s14)))) (fun σ v2 v3 => kb (σ, v2, v3)) t.1 t.2.1 t.2.2) 8 (by omega) (fun i τ => (τ, nI (oA (zs g S) i), nI i)) (fun i τ => FR [35, 36, 37, 38] [] [21, 22] [] σ τ ∧ LO τ g S (cnt S i) ∧ zI τ 21 = nI (cnt S i) ∧ zI τ 22 = nI (rx (zs g S) i)) (fun i _ z => ∃ τ, z = some (decide (sm g S), τ) ∧ FR [35, 36, 37, 38] [] [21, 22] [] σ τ ∧ (sm g S → LO τ g S (am S) ∧ zI τ 21 = nI (am S) ∧ zI τ 22 = nI (rx (zs g S) 8))) ?_ 0 (uI (uI σ 21 (nI 0)) 22 (nI 1)) (Nat.zero_le _) ⟨((FR.rf _ _ _ _ σ).uI (by decide)).uI (by decide), fun a ha => absurd ha (Nat.not_lt_zero _), by simp (disch := omega) only [l0, l1, l2, l3, l4, l5, l6, l7, l8, l9, l10, l11, l12, l16, l18, l19, l20, l21, l24, l96, l128, l100, l144, l200, l256, l288, l1536, l1728, l1800, bnd, nI_add, pk_mul, pI_sub, pI_m1, pT_le, pF_le, pT_lt, pF_lt, pT_eq, pF_eq, pF_m1, mF_eq, mT_eq, mT_lt, mF_le, lm1, rd_nI, wr_nI, cl_nI, pk_us, un_ne, pk_uLs, uL_ne, zI_uI, zI_uJ, zI_uA, zI_uB, zI_uR, zI_uN, zJ_uI, zJ_uJ, zJ_uA, zJ_uB, zJ_uR, zJ_uN, zA_uI, zA_uJ, zA_uA, zA_uB, zA_uR, zA_uN, zB_uI, zB_uJ, zB_uA, zB_uB, zB_uR, zB_uN, zR_uI, zR_uJ, zR_uA, zR_uB, zR_uR, zR_uN, zN_uI, zN_uJ, zN_uA, zN_uB, zN_uR, zN_uN, zI_ne, zJ_ne, zA_ne, zB_ne, zR_ne, zN_ne, bi_T, bi_F, nz16, ↓reduceIte, not_true_eq_false, not_false_eq_true, Bool.false_eq_true, reduceCtorEq]; rfl, by simp (disch := omega) only [l0, l1, l2, l3, l4, l5, l6, l7, l8, l9, l10, l11, l12, l16, l18, l19, l20, l21, l24, l96, l128, l100, l144, l200, l256, l288, l1536, l1728, l1800, bnd, nI_add, pk_mul, pI_sub, pI_m1, pT_le, pF_le, pT_lt, pF_lt, pT_eq, pF_eq, pF_m1, mF_eq, mT_eq, mT_lt, mF_le, lm1, rd_nI, wr_nI, cl_nI, pk_us, un_ne, pk_uLs, uL_ne, zI_uI, zI_uJ, zI_uA, zI_uB, zI_uR, zI_uN, zJ_uI, zJ_uJ, zJ_uA, zJ_uB, zJ_uR, zJ_uN, zA_uI, zA_uJ, zA_uA, zA_uB, zA_uR, zA_uN, zB_uI, zB_uJ, zB_uA, zB_uB, zB_uR, zB_uN, zR_uI, zR_uJ, zR_uA, zR_uB, zR_uR, zR_uN, zN_uI, zN_uJ, zN_uA, zN_uB, zN_uR, zN_uN, zI_ne, zJ_ne, zA_ne, zB_ne, zR_ne, zN_ne, bi_T, bi_F, nz16, ↓reduceIte, not_true_eq_false, not_false_eq_true, Bool.false_eq_true, reduceCtorEq]; rfl⟩
  · obtain ⟨τ, h1, h2, h3⟩ := key
    refine ⟨τ, ?_, h2, h3⟩
    rw [← h1]
    unfold fX2_layOut
    simp (disch := omega) only [l0, l1, l2, l3, l4, l5, l6, l7, l8, l9, l10, l11, l12, l16, l18, l19, l20, l21, l24, l96, l128, l100, l144, l200, l256, l288, l1536, l1728, l1800, bnd, nI_add, pk_mul, pI_sub, pI_m1, pT_le, pF_le, pT_lt, pF_lt, pT_eq, pF_eq, pF_m1, mF_eq, mT_eq, mT_lt, mF_le, lm1, rd_nI, wr_nI, cl_nI, pk_us, un_ne, pk_uLs, uL_ne, zI_uI, zI_uJ, zI_uA, zI_uB, zI_uR, zI_uN, zJ_uI, zJ_uJ, zJ_uA, zJ_uB, zJ_uR, zJ_uN, zA_uI, zA_uJ, zA_uA, zA_uB, zA_uR, zA_uN, zB_uI, zB_uJ, zB_uA, zB_uB, zB_uR, zB_uN, zR_uI, zR_uJ, zR_uA, zR_uB, zR_uR, zR_uN, zN_uI, zN_uJ, zN_uA, zN_uB, zN_uR, zN_uN, zI_ne, zJ_ne, zA_ne, zB_ne, zR_ne, zN_ne, bi_T, bi_F, nz16, ↓reduceIte, not_true_eq_false, not_false_eq_true, Bool.false_eq_true, reduceCtorEq]
    rfl
  · rintro i τ hi ⟨hF, hL, h21, h22⟩ kb hkb
    have hcnt := rho_cnt S hS2
    show ∃ τ1, fX2_layOut_L14 (nI S) _ (fun σ v2 v3 => kb (σ, v2, v3)) τ (nI (oA (zs g S) i)) (nI i) = _ ∧ _
    unfold fX2_layOut_L14
    have h12 : ∀ r, r < 8 → zs g S r ≤ 12 := fun r hr => zs_le hg hS hr
    by_cases hi8 : i = 8
    · refine ⟨τ, ?_, hF, fun _ => ?_⟩
      · rw [hi8] at h22 ⊢
        have hA := oA_le (z := zs g S) (B := 12) 8 h12
        by_cases hb : oA (zs g S) 8 ≤ 20
        · have h2 := rx_two (zs g S) 8
          have h3 : 2 ^ oA (zs g S) 8 ≤ 2 ^ 20 := Nat.pow_le_pow_right (by decide) hb
          have h4 : (2 : Nat) ^ 20 = 1048576 := by decide
          by_cases hx : rx (zs g S) 8 ≤ 20000
          · rw [decide_eq_true (show sm g S from ⟨hx, hb⟩)]
            simp (disch := omega) only [l0, l1, l2, l3, l4, l5, l6, l7, l8, l9, l10, l11, l12, l16, l18, l19, l20, l21, l24, l96, l128, l100, l144, l200, l256, l288, l1536, l1728, l1800, bnd, nI_add, pk_mul, pI_sub, pI_m1, pT_le, pF_le, pT_lt, pF_lt, pT_eq, pF_eq, pF_m1, mF_eq, mT_eq, mT_lt, mF_le, lm1, rd_nI, wr_nI, cl_nI, pk_us, un_ne, pk_uLs, uL_ne, zI_uI, zI_uJ, zI_uA, zI_uB, zI_uR, zI_uN, zJ_uI, zJ_uJ, zJ_uA, zJ_uB, zJ_uR, zJ_uN, zA_uI, zA_uJ, zA_uA, zA_uB, zA_uR, zA_uN, zB_uI, zB_uJ, zB_uA, zB_uB, zB_uR, zB_uN, zR_uI, zR_uJ, zR_uA, zR_uB, zR_uR, zR_uN, zN_uI, zN_uJ, zN_uA, zN_uB, zN_uR, zN_uN, zI_ne, zJ_ne, zA_ne, zB_ne, zR_ne, zN_ne, bi_T, bi_F, nz16, ↓reduceIte, not_true_eq_false, not_false_eq_true, Bool.false_eq_true, reduceCtorEq, h22, l20000]
          · rw [decide_eq_false (show ¬ sm g S from fun h => hx h.1)]
            simp (disch := omega) only [l0, l1, l2, l3, l4, l5, l6, l7, l8, l9, l10, l11, l12, l16, l18, l19, l20, l21, l24, l96, l128, l100, l144, l200, l256, l288, l1536, l1728, l1800, bnd, nI_add, pk_mul, pI_sub, pI_m1, pT_le, pF_le, pT_lt, pF_lt, pT_eq, pF_eq, pF_m1, mF_eq, mT_eq, mT_lt, mF_le, lm1, rd_nI, wr_nI, cl_nI, pk_us, un_ne, pk_uLs, uL_ne, zI_uI, zI_uJ, zI_uA, zI_uB, zI_uR, zI_uN, zJ_uI, zJ_uJ, zJ_uA, zJ_uB, zJ_uR, zJ_uN, zA_uI, zA_uJ, zA_uA, zA_uB, zA_uR, zA_uN, zB_uI, zB_uJ, zB_uA, zB_uB, zB_uR, zB_uN, zR_uI, zR_uJ, zR_uA, zR_uB, zR_uR, zR_uN, zN_uI, zN_uJ, zN_uA, zN_uB, zN_uR, zN_uN, zI_ne, zJ_ne, zA_ne, zB_ne, zR_ne, zN_ne, bi_T, bi_F, nz16, ↓reduceIte, not_true_eq_false, not_false_eq_true, Bool.false_eq_true, reduceCtorEq, h22, l20000]
        · rw [decide_eq_false (show ¬ sm g S from fun h => hb h.2)]
          simp (disch := omega) only [l0, l1, l2, l3, l4, l5, l6, l7, l8, l9, l10, l11, l12, l16, l18, l19, l20, l21, l24, l96, l128, l100, l144, l200, l256, l288, l1536, l1728, l1800, bnd, nI_add, pk_mul, pI_sub, pI_m1, pT_le, pF_le, pT_lt, pF_lt, pT_eq, pF_eq, pF_m1, mF_eq, mT_eq, mT_lt, mF_le, lm1, rd_nI, wr_nI, cl_nI, pk_us, un_ne, pk_uLs, uL_ne, zI_uI, zI_uJ, zI_uA, zI_uB, zI_uR, zI_uN, zJ_uI, zJ_uJ, zJ_uA, zJ_uB, zJ_uR, zJ_uN, zA_uI, zA_uJ, zA_uA, zA_uB, zA_uR, zA_uN, zB_uI, zB_uJ, zB_uA, zB_uB, zB_uR, zB_uN, zR_uI, zR_uJ, zR_uA, zR_uB, zR_uR, zR_uN, zN_uI, zN_uJ, zN_uA, zN_uB, zN_uR, zN_uN, zI_ne, zJ_ne, zA_ne, zB_ne, zR_ne, zN_ne, bi_T, bi_F, nz16, ↓reduceIte, not_true_eq_false, not_false_eq_true, Bool.false_eq_true, reduceCtorEq]
      · rw [hi8] at hL h21 h22
        rw [hcnt.1] at hL h21
        exact ⟨hL, h21, h22⟩
    · have hi9 : i < 8 := by omega
      have hci := hcnt.2.2 i hi9
      have his := c_isIn (t := S) (r := i) (by omega) (by omega)
      rw [decide_eq_true hi9, Bool.true_and] at his
      have ex : rx (zs g S) (i + 1) = rx (zs g S) i * (zs g S i + 1) := rfl
      have ea : oA (zs g S) (i + 1) = oA (zs g S) i + zs g S i := rfl
      cases hb : S.testBit i with
      | true =>
        have hcb := hci.2.1 hb
        rw [hb] at his
        have hz := zs_in (g := g) hb
        have hsz := fun τ' (j : JC τ' g) => c_sizeOf hg j (r := i) (hS.2 i hi9 hb)
        rw [← hz] at hsz
        have hJ : ∀ f, JC (uA τ 35 f) g := fun f => (hF.uA (f := f) (by decide)).jc (by decide) (by decide) (by decide) hj
        have hs1 := fun f => hsz _ (hJ f)
        rw [ex, ea] at hkb
        rw [hcb.2.2] at hkb
        have hc8 : cnt S i < 8 := by have := rho_am S hS2; omega
        generalize hc : cnt S i = c at *
        obtain ⟨υ, hυ⟩ : ∃ υ, υ = uI (uI (uA (uA (uA (uA τ 35 (upd (zA τ 35) c (nI i))) 36 (upd (zA τ 36) c (nI (zs g S i)))) 37 (upd (zA τ 37) c (nI (rx (zs g S) i)))) 38 (upd (zA τ 38) c (nI (oA (zs g S) i)))) 22 (nI (rx (zs g S) i * (zs g S i + 1)))) 21 (nI (c + 1)) := ⟨_, rfl⟩
        have hF2 : FR [35, 36, 37, 38] [] [21, 22] [] σ υ := by
          rw [hυ]
          exact FR.uI (FR.uI (FR.uA (FR.uA (FR.uA (FR.uA hF (by decide)) (by decide)) (by decide)) (by decide)) (by decide)) (by decide)
        have hL2 : LO υ g S (c + 1) := by
          rw [hυ]
          intro a ha
          by_cases hac : a = c
          · rw [hac, hcb.2.1]
            simp (disch := omega) only [l0, l1, l2, l3, l4, l5, l6, l7, l8, l9, l10, l11, l12, l16, l18, l19, l20, l21, l24, l96, l128, l100, l144, l200, l256, l288, l1536, l1728, l1800, bnd, nI_add, pk_mul, pI_sub, pI_m1, pT_le, pF_le, pT_lt, pF_lt, pT_eq, pF_eq, pF_m1, mF_eq, mT_eq, mT_lt, mF_le, lm1, rd_nI, wr_nI, cl_nI, pk_us, un_ne, pk_uLs, uL_ne, zI_uI, zI_uJ, zI_uA, zI_uB, zI_uR, zI_uN, zJ_uI, zJ_uJ, zJ_uA, zJ_uB, zJ_uR, zJ_uN, zA_uI, zA_uJ, zA_uA, zA_uB, zA_uR, zA_uN, zB_uI, zB_uJ, zB_uA, zB_uB, zB_uR, zB_uN, zR_uI, zR_uJ, zR_uA, zR_uB, zR_uR, zR_uN, zN_uI, zN_uJ, zN_uA, zN_uB, zN_uR, zN_uN, zI_ne, zJ_ne, zA_ne, zB_ne, zR_ne, zN_ne, bi_T, bi_F, nz16, ↓reduceIte, not_true_eq_false, not_false_eq_true, Bool.false_eq_true, reduceCtorEq]
            exact ⟨trivial, trivial, trivial, trivial⟩
          · have := hL a (by omega)
            simp (disch := omega) only [l0, l1, l2, l3, l4, l5, l6, l7, l8, l9, l10, l11, l12, l16, l18, l19, l20, l21, l24, l96, l128, l100, l144, l200, l256, l288, l1536, l1728, l1800, bnd, nI_add, pk_mul, pI_sub, pI_m1, pT_le, pF_le, pT_lt, pF_lt, pT_eq, pF_eq, pF_m1, mF_eq, mT_eq, mT_lt, mF_le, lm1, rd_nI, wr_nI, cl_nI, pk_us, un_ne, pk_uLs, uL_ne, zI_uI, zI_uJ, zI_uA, zI_uB, zI_uR, zI_uN, zJ_uI, zJ_uJ, zJ_uA, zJ_uB, zJ_uR, zJ_uN, zA_uI, zA_uJ, zA_uA, zA_uB, zA_uR, zA_uN, zB_uI, zB_uJ, zB_uA, zB_uB, zB_uR, zB_uN, zR_uI, zR_uJ, zR_uA, zR_uB, zR_uR, zR_uN, zN_uI, zN_uJ, zN_uA, zN_uB, zN_uR, zN_uN, zI_ne, zJ_ne, zA_ne, zB_ne, zR_ne, zN_ne, bi_T, bi_F, nz16, ↓reduceIte, not_true_eq_false, not_false_eq_true, Bool.false_eq_true, reduceCtorEq, this.1, this.2.1, this.2.2.1, this.2.2.2]
            exact ⟨trivial, trivial, trivial, trivial⟩
        have nx := hkb υ (by omega) ⟨hF2, hL2, by rw [hυ]; simp (disch := omega) only [l0, l1, l2, l3, l4, l5, l6, l7, l8, l9, l10, l11, l12, l16, l18, l19, l20, l21, l24, l96, l128, l100, l144, l200, l256, l288, l1536, l1728, l1800, bnd, nI_add, pk_mul, pI_sub, pI_m1, pT_le, pF_le, pT_lt, pF_lt, pT_eq, pF_eq, pF_m1, mF_eq, mT_eq, mT_lt, mF_le, lm1, rd_nI, wr_nI, cl_nI, pk_us, un_ne, pk_uLs, uL_ne, zI_uI, zI_uJ, zI_uA, zI_uB, zI_uR, zI_uN, zJ_uI, zJ_uJ, zJ_uA, zJ_uB, zJ_uR, zJ_uN, zA_uI, zA_uJ, zA_uA, zA_uB, zA_uR, zA_uN, zB_uI, zB_uJ, zB_uA, zB_uB, zB_uR, zB_uN, zR_uI, zR_uJ, zR_uA, zR_uB, zR_uR, zR_uN, zN_uI, zN_uJ, zN_uA, zN_uB, zN_uR, zN_uN, zI_ne, zJ_ne, zA_ne, zB_ne, zR_ne, zN_ne, bi_T, bi_F, nz16, ↓reduceIte, not_true_eq_false, not_false_eq_true, Bool.false_eq_true, reduceCtorEq], by rw [hυ]; simp (disch := omega) only [l0, l1, l2, l3, l4, l5, l6, l7, l8, l9, l10, l11, l12, l16, l18, l19, l20, l21, l24, l96, l128, l100, l144, l200, l256, l288, l1536, l1728, l1800, bnd, nI_add, pk_mul, pI_sub, pI_m1, pT_le, pF_le, pT_lt, pF_lt, pT_eq, pF_eq, pF_m1, mF_eq, mT_eq, mT_lt, mF_le, lm1, rd_nI, wr_nI, cl_nI, pk_us, un_ne, pk_uLs, uL_ne, zI_uI, zI_uJ, zI_uA, zI_uB, zI_uR, zI_uN, zJ_uI, zJ_uJ, zJ_uA, zJ_uB, zJ_uR, zJ_uN, zA_uI, zA_uJ, zA_uA, zA_uB, zA_uR, zA_uN, zB_uI, zB_uJ, zB_uA, zB_uB, zB_uR, zB_uN, zR_uI, zR_uJ, zR_uA, zR_uB, zR_uR, zR_uN, zN_uI, zN_uJ, zN_uA, zN_uB, zN_uR, zN_uN, zI_ne, zJ_ne, zA_ne, zB_ne, zR_ne, zN_ne, bi_T, bi_F, nz16, ↓reduceIte, not_true_eq_false, not_false_eq_true, Bool.false_eq_true, reduceCtorEq]⟩
        rw [hυ] at nx
        simp (disch := omega) only [l0, l1, l2, l3, l4, l5, l6, l7, l8, l9, l10, l11, l12, l16, l18, l19, l20, l21, l24, l96, l128, l100, l144, l200, l256, l288, l1536, l1728, l1800, bnd, nI_add, pk_mul, pI_sub, pI_m1, pT_le, pF_le, pT_lt, pF_lt, pT_eq, pF_eq, pF_m1, mF_eq, mT_eq, mT_lt, mF_le, lm1, rd_nI, wr_nI, cl_nI, pk_us, un_ne, pk_uLs, uL_ne, zI_uI, zI_uJ, zI_uA, zI_uB, zI_uR, zI_uN, zJ_uI, zJ_uJ, zJ_uA, zJ_uB, zJ_uR, zJ_uN, zA_uI, zA_uJ, zA_uA, zA_uB, zA_uR, zA_uN, zB_uI, zB_uJ, zB_uA, zB_uB, zB_uR, zB_uN, zR_uI, zR_uJ, zR_uA, zR_uB, zR_uR, zR_uN, zN_uI, zN_uJ, zN_uA, zN_uB, zN_uR, zN_uN, zI_ne, zJ_ne, zA_ne, zB_ne, zR_ne, zN_ne, bi_T, bi_F, nz16, ↓reduceIte, not_true_eq_false, not_false_eq_true, Bool.false_eq_true, reduceCtorEq, his, hs1, h21, h22]
        exact nx
      | false =>
        rw [hb] at his
        have hz := zs_out (g := g) hb
        rw [hci.2.2 hb, ex, ea, hz, Nat.zero_add, Nat.mul_one, Nat.add_zero] at hkb
        have nx := hkb τ (by omega) ⟨hF, hL, h21, h22⟩
        simp (disch := omega) only [l0, l1, l2, l3, l4, l5, l6, l7, l8, l9, l10, l11, l12, l16, l18, l19, l20, l21, l24, l96, l128, l100, l144, l200, l256, l288, l1536, l1728, l1800, bnd, nI_add, pk_mul, pI_sub, pI_m1, pT_le, pF_le, pT_lt, pF_lt, pT_eq, pF_eq, pF_m1, mF_eq, mT_eq, mT_lt, mF_le, lm1, rd_nI, wr_nI, cl_nI, pk_us, un_ne, pk_uLs, uL_ne, zI_uI, zI_uJ, zI_uA, zI_uB, zI_uR, zI_uN, zJ_uI, zJ_uJ, zJ_uA, zJ_uB, zJ_uR, zJ_uN, zA_uI, zA_uJ, zA_uA, zA_uB, zA_uR, zA_uN, zB_uI, zB_uJ, zB_uA, zB_uB, zB_uR, zB_uN, zR_uI, zR_uJ, zR_uA, zR_uB, zR_uR, zR_uN, zN_uI, zN_uJ, zN_uA, zN_uB, zN_uR, zN_uN, zI_ne, zJ_ne, zA_ne, zB_ne, zR_ne, zN_ne, bi_T, bi_F, nz16, ↓reduceIte, not_true_eq_false, not_false_eq_true, Bool.false_eq_true, reduceCtorEq, his]
        exact nx
