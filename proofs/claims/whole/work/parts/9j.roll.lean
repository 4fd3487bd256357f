/-! the class reads a roll; what a roll is, as tokens (the spec) *-/
def hd (R : List Tk) : Tk := R.headD (257, 0)
def gT : List Tk → Prop
  | [] => False
  | t :: R => t.1 < 4611686018427387904 ∧ t.2 < 1000 ∧ ((R = [] ∧ t.1 = 256) ∨ gT R)
theorem gT_end {n : Nat} (hn : n < 1000) : ∀ (l : List Tk), (∀ t, t ∈ l → t.1 < 4611686018427387904 ∧ t.2 < 1000) → gT (l ++ [(256, n)])
  | [], _ => ⟨by show 256 < _; decide, hn, .inl ⟨rfl, rfl⟩⟩
  | t :: l, H => ⟨(H t List.mem_cons_self).1, (H t List.mem_cons_self).2, .inr (gT_end hn l (fun x hx => H x (List.mem_cons_of_mem _ hx)))⟩
theorem gT_tail {t : Tk} {R : List Tk} (h : gT (t :: R)) (ht : t.1 ≠ 256) : gT R := by
  rcases h.2.2 with h | h
  · exact absurd h.2 ht
  · exact h
theorem tk_pl {J : Nat → Bool} {M : Nat} {gr : Nat → Nat → Nat} {N : Nat} : ∀ (l : List Nat) (pos run : Nat) (pend : Option Tk), pos + l.length ≤ N → (∀ p, pend = some p → p.2 < N) → ∀ t, t ∈ tk J M gr l pos run pend → t.2 < N
  | [], _, _, none, _, _, t, ht => nomatch ht
  | [], _, run, some p, _, hp, t, ht => by
    rw [show tk J M gr [] _ run (some p) = [(1000 + p.1, p.2)] from rfl, List.mem_singleton] at ht
    rw [ht]
    exact hp p rfl
  | c :: l, pos, run, some p, hl, hp, t, ht => by
    rw [List.length_cons] at hl
    have h1 := hp p rfl
    rw [tk_cS] at ht
    split at ht
    · split at ht
      · exact tk_pl l _ _ _ (by omega) (fun q hq => by cases hq; exact h1) t ht
      · rw [List.mem_cons, List.mem_cons] at ht
        rcases ht with ht | ht | ht
        · rw [ht]; exact h1
        · rw [ht]; show pos < N; omega
        · exact tk_pl l _ _ _ (by omega) (fun q hq => by cases hq) t ht
    · rw [List.mem_cons] at ht
      rcases ht with ht | ht
      · rw [ht]; exact h1
      · split at ht
        · exact tk_pl l _ _ _ (by omega) (fun q hq => by cases hq) t ht
        · rw [List.mem_cons] at ht
          rcases ht with ht | ht
          · rw [ht]; show pos < N; omega
          · exact tk_pl l _ _ _ (by omega) (fun q hq => by cases hq) t ht
  | c :: l, pos, run, none, hl, hp, t, ht => by
    rw [List.length_cons] at hl
    rw [tk_cN] at ht
    split at ht
    · split at ht
      · rw [List.mem_cons] at ht
        rcases ht with ht | ht
        · rw [ht]; show pos < N; omega
        · exact tk_pl l _ _ _ (by omega) (fun q hq => by cases hq) t ht
      · exact tk_pl l _ _ _ (by omega) (fun q hq => by cases hq; show pos < N; omega) t ht
    · split at ht
      · exact tk_pl l _ _ _ (by omega) (fun q hq => by cases hq) t ht
      · rw [List.mem_cons] at ht
        rcases ht with ht | ht
        · rw [ht]; show pos < N; omega
        · exact tk_pl l _ _ _ (by omega) (fun q hq => by cases hq) t ht
/-- the tokens of a text are well made -/
theorem gT_tkF {J : Nat → Bool} {M : Nat} {gr : Nat → Nat → Nat} {B : Nat → Nat} {bs : List Nat} (hB : ∀ r v c, J c = true → v < B r → r < M → gr v c < B (r + 1)) (h0 : 0 < B 0) (hM : 0 < M ∨ ∀ c, J c = false) (hK : ∀ r, r ≤ M → B r + 1000 ≤ 4611686018427387904) (hl : bs.length ≤ 200) (hb : ∀ b, b ∈ bs → 1 ≤ b ∧ b < 256) : gT (tkF J M gr bs) := by
  refine gT_end (by omega) _ (fun t ht => ⟨tk_lt hB h0 hM hK (by decide) bs 0 0 none (fun b h => (hb b h).2) (fun p h => by cases h) t ht, ?_⟩)
  have := tk_pl (N := 200) bs 0 0 none (by omega) (fun p h => by cases h) t ht
  omega
theorem gT_r {bs : List Nat} (hl : bs.length ≤ 200) (hb : ∀ b, b ∈ bs → 1 ≤ b ∧ b < 256) : gT (tkF Jr 8 gr bs) := by
  refine gT_tkF (B := fun r => 32 ^ r) (fun r v c hj hv hr => ?_) (by decide) (.inl (by decide)) (fun r hr => ?_) hl hb
  · have h1 := of_decide_eq_true hj
    unfold gr
    show _ < 32 ^ (r + 1)
    rw [Nat.pow_succ]
    have hv : v < 32 ^ r := hv
    omega
  · have h1 : (32 : Nat) ^ r ≤ 32 ^ 8 := Nat.pow_le_pow_right (by decide) hr
    have h2 : (32 : Nat) ^ 8 = 1099511627776 := by decide
    show 32 ^ r + 1000 ≤ _
    omega
theorem gT_p {bs : List Nat} (hl : bs.length ≤ 200) (hb : ∀ b, b ∈ bs → 1 ≤ b ∧ b < 256) : gT (tkF Jp 0 gp bs) :=
  gT_tkF (B := fun _ => 1) (fun r v c hj hv hr => by omega) (by decide) (.inr (fun c => rfl)) (fun r hr => by decide) hl hb
theorem gT_h {bs : List Nat} (hl : bs.length ≤ 200) (hb : ∀ b, b ∈ bs → 1 ≤ b ∧ b < 256) : gT (tkF Jh 4 gh bs) := by
  refine gT_tkF (B := fun r => 10 ^ r) (fun r v c hj hv hr => ?_) (by decide) (.inl (by decide)) (fun r hr => ?_) hl hb
  · have h1 := of_decide_eq_true hj
    unfold gh
    show _ < 10 ^ (r + 1)
    rw [Nat.pow_succ]
    have hv : v < 10 ^ r := hv
    omega
  · have h1 : (10 : Nat) ^ r ≤ 10 ^ 4 := Nat.pow_le_pow_right (by decide) hr
    show 10 ^ r + 1000 ≤ _
    omega
def pW : Nat → List Tk → List Nat × List Tk
  | 0, R => ([], R)
  | _ + 1, [] => ([], [])
  | m + 1, t :: R => if 1000 ≤ t.1 then ((t.1 - 1000) :: (pW m R).1, (pW m R).2) else ([], t :: R)
theorem c_takeWords_15 {τ : St} {T R : List Tk} {f m : Nat} (hC : Cr τ T R) (hg : gT R) (hf : f + m ≤ 24) (hm : 0 < m) : ∃ υ, FR [] [15] [3, 4] [] τ υ ∧ (∀ k, k < f → zB υ 15 k = zB τ 15 k) ∧ (∀ k, k < (pW m R).1.length → zB υ 15 (f + k) = lN ((pW m R).1.getD k 0)) ∧ fX6_takeWords_15 τ (nI f) (nI m) = some (nI (pW m R).1.length, υ) ∧ (((pW m R).1 = [] ∧ Fr υ (hd R).2) ∨ ((pW m R).1 ≠ [] ∧ Cr υ T (pW m R).2 ∧ gT (pW m R).2)) := by
  have key := it_for (β := St × List Tk × List Nat) (body := fun (kb : (St × Int32 × Int32) → Option (Int32 × St)) (t : St × Int32 × Int32) => fX6_takeWords_15_L6 (nI f) (nI m) (fun s5 x6 => if x6 = 0 then ((fX5_spoil_r s5).bind fun s7 => some (x6, s7))
  else (some (x6, s5))) (fun σ v4 v5 => kb (σ, v4, v5)) t.1 t.2.1 t.2.2) m (by omega) (fun i b => (b.1, nI i, nI i)) (fun i b => b.2.2.length = i ∧ FR [] [15] [3, 4] [] τ b.1 ∧ Cr b.1 T b.2.1 ∧ gT b.2.1 ∧ (∀ k, k < f → zB b.1 15 k = zB τ 15 k) ∧ (∀ k, k < i → zB b.1 15 (f + k) = lN (b.2.2.getD k 0)) ∧ (pW m R).1 = b.2.2 ++ (pW (m - i) b.2.1).1 ∧ (pW m R).2 = (pW (m - i) b.2.1).2 ∧ (i = 0 → b.2.1 = R)) (fun i b z => ∃ υ, FR [] [15] [3, 4] [] τ υ ∧ (∀ k, k < f → zB υ 15 k = zB τ 15 k) ∧ (∀ k, k < (pW m R).1.length → zB υ 15 (f + k) = lN ((pW m R).1.getD k 0)) ∧ z = some (nI (pW m R).1.length, υ) ∧ (((pW m R).1 = [] ∧ Fr υ (hd R).2) ∨ ((pW m R).1 ≠ [] ∧ Cr υ T (pW m R).2 ∧ gT (pW m R).2))) ?_ 0 (τ, R, []) (Nat.zero_le _) ⟨rfl, FR.rf _ _ _ _ _, hC, hg, fun k _ => rfl, fun k hk => absurd hk (Nat.not_lt_zero _), rfl, rfl, fun _ => rfl⟩
  · exact key
  · rintro i ⟨y, Q, l⟩ hi ⟨jl, jF, jy, jg, jo, jw, jp1, jp2, j0⟩ kb hkb
    have hl : l.length = i := jl
    have hF : FR [] [15] [3, 4] [] τ y := jF
    have hy : Cr y T Q := jy
    have hgQ : gT Q := jg
    have hlo : ∀ k, k < f → zB y 15 k = zB τ 15 k := jo
    have hw : ∀ k, k < i → zB y 15 (f + k) = lN (l.getD k 0) := jw
    have hp1 : (pW m R).1 = l ++ (pW (m - i) Q).1 := jp1
    have hp2 : (pW m R).2 = (pW (m - i) Q).2 := jp2
    have h0 : i = 0 → Q = R := j0
    clear jl jF jy jg jo jw jp1 jp2 j0
    show ∃ υ, _ ∧ _ ∧ _ ∧ fX6_takeWords_15_L6 (nI f) (nI m) _ (fun σ v4 v5 => kb (σ, v4, v5)) y (nI i) (nI i) = _ ∧ _
    -- no word more
    have stop : (pW (m - i) Q).1 = [] → (pW (m - i) Q).2 = Q → ∃ υ, FR [] [15] [3, 4] [] τ υ ∧ (∀ k, k < f → zB υ 15 k = zB τ 15 k) ∧ (∀ k, k < (pW m R).1.length → zB υ 15 (f + k) = lN ((pW m R).1.getD k 0)) ∧ (if nI i = nI 0 then ((fX5_spoil_r y).bind fun s7 => some (nI i, s7)) else some (nI i, y)) = some (nI (pW m R).1.length, υ) ∧ (((pW m R).1 = [] ∧ Fr υ (hd R).2) ∨ ((pW m R).1 ≠ [] ∧ Cr υ T (pW m R).2 ∧ gT (pW m R).2)) := by
      intro e1 e2
      rw [e1, List.append_nil] at hp1
      rw [e2] at hp2
      by_cases hi0 : i = 0
      · have e3 := h0 hi0
        cases Q with
        | nil => exact absurd hgQ (fun h => h)
        | cons t Q' =>
          obtain ⟨h1, h2⟩ := c_spoil_r hy hgQ.2.1
          have hl0 : l = [] := List.eq_nil_of_length_eq_zero (by omega)
          refine ⟨uI y 4 (nI t.2), FR.uI hF (by decide), hlo, fun k hk => ?_, ?_, .inl ⟨by rw [hp1, hl0], ?_⟩⟩
          · rw [hp1, hl0] at hk
            exact absurd hk (Nat.not_lt_zero _)
          · rw [hp1, hl0]
            simp (disch := omega) only [l0, l1, l2, l3, l4, l5, l6, l7, l8, l9, l10, l11, l12, l16, l18, l19, l20, l21, l24, l96, l128, l100, l144, l200, l256, l288, l1536, l1728, l1800, bnd, nI_add, pk_mul, pI_sub, pI_m1, pT_le, pF_le, pT_lt, pF_lt, pT_eq, pF_eq, pF_m1, mF_eq, mT_eq, mT_lt, mF_le, lm1, rd_nI, wr_nI, cl_nI, pk_us, un_ne, pk_uLs, uL_ne, zI_uI, zI_uJ, zI_uA, zI_uB, zI_uR, zI_uN, zJ_uI, zJ_uJ, zJ_uA, zJ_uB, zJ_uR, zJ_uN, zA_uI, zA_uJ, zA_uA, zA_uB, zA_uR, zA_uN, zB_uI, zB_uJ, zB_uA, zB_uB, zB_uR, zB_uN, zR_uI, zR_uJ, zR_uA, zR_uB, zR_uR, zR_uN, zN_uI, zN_uJ, zN_uA, zN_uB, zN_uR, zN_uN, zI_ne, zJ_ne, zA_ne, zB_ne, zR_ne, zN_ne, bi_T, bi_F, nz16, ↓reduceIte, not_true_eq_false, not_false_eq_true, Bool.false_eq_true, reduceCtorEq, hi0, h1]
            rfl
          · rw [← e3]
            exact h2
      · refine ⟨y, hF, hlo, fun k hk => ?_, ?_, .inr ⟨?_, ?_, ?_⟩⟩
        · rw [hp1] at hk ⊢
          exact hw k (by omega)
        · rw [hp1, hl]
          simp (disch := omega) only [l0, l1, l2, l3, l4, l5, l6, l7, l8, l9, l10, l11, l12, l16, l18, l19, l20, l21, l24, l96, l128, l100, l144, l200, l256, l288, l1536, l1728, l1800, bnd, nI_add, pk_mul, pI_sub, pI_m1, pT_le, pF_le, pT_lt, pF_lt, pT_eq, pF_eq, pF_m1, mF_eq, mT_eq, mT_lt, mF_le, lm1, rd_nI, wr_nI, cl_nI, pk_us, un_ne, pk_uLs, uL_ne, zI_uI, zI_uJ, zI_uA, zI_uB, zI_uR, zI_uN, zJ_uI, zJ_uJ, zJ_uA, zJ_uB, zJ_uR, zJ_uN, zA_uI, zA_uJ, zA_uA, zA_uB, zA_uR, zA_uN, zB_uI, zB_uJ, zB_uA, zB_uB, zB_uR, zB_uN, zR_uI, zR_uJ, zR_uA, zR_uB, zR_uR, zR_uN, zN_uI, zN_uJ, zN_uA, zN_uB, zN_uR, zN_uN, zI_ne, zJ_ne, zA_ne, zB_ne, zR_ne, zN_ne, bi_T, bi_F, nz16, ↓reduceIte, not_true_eq_false, not_false_eq_true, Bool.false_eq_true, reduceCtorEq]
        · rw [hp1]
          intro e
          rw [e] at hl
          exact hi0 hl.symm
        · rw [hp2]
          exact hy
        · rw [hp2]
          exact hgQ
    unfold fX6_takeWords_15_L6
    by_cases him : i = m
    · rw [him, Nat.sub_self] at stop
      obtain ⟨υ, h1, h2, h3, h4, h5⟩ := stop rfl rfl
      refine ⟨υ, h1, h2, h3, ?_, h5⟩
      rw [← h4]
      simp (disch := omega) only [l0, l1, l2, l3, l4, l5, l6, l7, l8, l9, l10, l11, l12, l16, l18, l19, l20, l21, l24, l96, l128, l100, l144, l200, l256, l288, l1536, l1728, l1800, bnd, nI_add, pk_mul, pI_sub, pI_m1, pT_le, pF_le, pT_lt, pF_lt, pT_eq, pF_eq, pF_m1, mF_eq, mT_eq, mT_lt, mF_le, lm1, rd_nI, wr_nI, cl_nI, pk_us, un_ne, pk_uLs, uL_ne, zI_uI, zI_uJ, zI_uA, zI_uB, zI_uR, zI_uN, zJ_uI, zJ_uJ, zJ_uA, zJ_uB, zJ_uR, zJ_uN, zA_uI, zA_uJ, zA_uA, zA_uB, zA_uR, zA_uN, zB_uI, zB_uJ, zB_uA, zB_uB, zB_uR, zB_uN, zR_uI, zR_uJ, zR_uA, zR_uB, zR_uR, zR_uN, zN_uI, zN_uJ, zN_uA, zN_uB, zN_uR, zN_uN, zI_ne, zJ_ne, zA_ne, zB_ne, zR_ne, zN_ne, bi_T, bi_F, nz16, ↓reduceIte, not_true_eq_false, not_false_eq_true, Bool.false_eq_true, reduceCtorEq, him]
    · cases Q with
      | nil => exact absurd hgQ (fun h => h)
      | cons t Q' =>
        have hs := c_sign_r hy hgQ.1
        have hms : m - i = (m - (i + 1)) + 1 := by omega
        by_cases ht : 1000 ≤ t.1
        · rw [if_neg (by omega)] at hs
          have hne : t.1 ≠ 256 := by omega
          have hgQ' : gT Q' := by
            rcases hgQ.2.2 with h | h
            · exact absurd h.2 hne
            · exact h
          have hv : fX5_value_r y = some (lN (t.1 - 1000)) := by
            have e : t = (1000 + (t.1 - 1000), t.2) := by
              rw [show 1000 + (t.1 - 1000) = t.1 by omega]
            rw [e] at hy
            exact c_value_r hy
          have hF1 : FR [] [15] [] [] y (uB y 15 (vp_updL (zB y 15) (f + i) (lN (t.1 - 1000)))) := FR.uB (FR.rf _ _ _ _ _) (by decide)
          obtain ⟨k, h1, h2⟩ := c_step_r (hy.fr hF1 (by decide) (by decide) (by decide))
          have ePW : pW (m - i) (t :: Q') = ((t.1 - 1000) :: (pW (m - (i + 1)) Q').1, (pW (m - (i + 1)) Q').2) := by
            rw [hms]
            show (if 1000 ≤ t.1 then _ else _) = _
            rw [if_pos ht]
          rw [ePW] at hp1 hp2
          obtain ⟨υ, h3, h4, h5, h6, h7⟩ := hkb (uI (uB y 15 (vp_updL (zB y 15) (f + i) (lN (t.1 - 1000)))) 3 (nI k), Q', l ++ [t.1 - 1000]) (by omega) ⟨by
            show (l ++ [t.1 - 1000]).length = i + 1
            rw [List.length_append, List.length_singleton, hl], FR.uI (FR.uB hF (by decide)) (by decide), h2, hgQ', fun k hk => by
            rw [zB_uI, zB_uB, uL_ne (by omega)]
            exact hlo k hk, fun k hk => by
            rw [zB_uI, zB_uB]
            by_cases e : k = i
            · rw [e, pk_uLs, ← hl, getD_snoc_eq']
            · rw [uL_ne (by omega), getD_snoc_lt' (by omega)]
              exact hw k (by omega), by
            rw [hp1]
            show _ = (l ++ [_]) ++ _
            rw [List.append_assoc]
            rfl, hp2, fun h => by omega⟩
          refine ⟨υ, h3, h4, h5, ?_, h7⟩
          rw [← h6]
          simp (disch := omega) only [l0, l1, l2, l3, l4, l5, l6, l7, l8, l9, l10, l11, l12, l16, l18, l19, l20, l21, l24, l96, l128, l100, l144, l200, l256, l288, l1536, l1728, l1800, bnd, nI_add, pk_mul, pI_sub, pI_m1, pT_le, pF_le, pT_lt, pF_lt, pT_eq, pF_eq, pF_m1, mF_eq, mT_eq, mT_lt, mF_le, lm1, rd_nI, wr_nI, cl_nI, pk_us, un_ne, pk_uLs, uL_ne, zI_uI, zI_uJ, zI_uA, zI_uB, zI_uR, zI_uN, zJ_uI, zJ_uJ, zJ_uA, zJ_uB, zJ_uR, zJ_uN, zA_uI, zA_uJ, zA_uA, zA_uB, zA_uR, zA_uN, zB_uI, zB_uJ, zB_uA, zB_uB, zB_uR, zB_uN, zR_uI, zR_uJ, zR_uA, zR_uB, zR_uR, zR_uN, zN_uI, zN_uJ, zN_uA, zN_uB, zN_uR, zN_uN, zI_ne, zJ_ne, zA_ne, zB_ne, zR_ne, zN_ne, bi_T, bi_F, nz16, ↓reduceIte, not_true_eq_false, not_false_eq_true, Bool.false_eq_true, reduceCtorEq, l24, hs, l1000, hv, h1]
        · rw [if_pos (by omega)] at hs
          have ePW : pW (m - i) (t :: Q') = ([], t :: Q') := by
            rw [hms]
            show (if 1000 ≤ t.1 then _ else _) = _
            rw [if_neg ht]
          rw [ePW] at stop
          obtain ⟨υ, h1, h2, h3, h4, h5⟩ := stop rfl rfl
          refine ⟨υ, h1, h2, h3, ?_, h5⟩
          rw [← h4]
          simp (disch := omega) only [l0, l1, l2, l3, l4, l5, l6, l7, l8, l9, l10, l11, l12, l16, l18, l19, l20, l21, l24, l96, l128, l100, l144, l200, l256, l288, l1536, l1728, l1800, bnd, nI_add, pk_mul, pI_sub, pI_m1, pT_le, pF_le, pT_lt, pF_lt, pT_eq, pF_eq, pF_m1, mF_eq, mT_eq, mT_lt, mF_le, lm1, rd_nI, wr_nI, cl_nI, pk_us, un_ne, pk_uLs, uL_ne, zI_uI, zI_uJ, zI_uA, zI_uB, zI_uR, zI_uN, zJ_uI, zJ_uJ, zJ_uA, zJ_uB, zJ_uR, zJ_uN, zA_uI, zA_uJ, zA_uA, zA_uB, zA_uR, zA_uN, zB_uI, zB_uJ, zB_uA, zB_uB, zB_uR, zB_uN, zR_uI, zR_uJ, zR_uA, zR_uB, zR_uR, zR_uN, zN_uI, zN_uJ, zN_uA, zN_uB, zN_uR, zN_uN, zI_ne, zJ_ne, zA_ne, zB_ne, zR_ne, zN_ne, bi_T, bi_F, nz16, ↓reduceIte, not_true_eq_false, not_false_eq_true, Bool.false_eq_true, reduceCtorEq, l24, hs, l1000]
theorem c_takeWordsF_15 {τ : St} {p f m : Nat} (h : Fr τ p) (hf : f + m ≤ 24) (hm : 0 < m) : fX6_takeWords_15 τ (nI f) (nI m) = some (nI 0, τ) := by
  have hs := c_signF_r h
  have hp := c_spoilF_r h
  have key := it_for (β := Unit) (body := fun (kb : (St × Int32 × Int32) → Option (Int32 × St)) (t : St × Int32 × Int32) => fX6_takeWords_15_L6 (nI f) (nI m) (fun s5 x6 => if x6 = 0 then ((fX5_spoil_r s5).bind fun s7 => some (x6, s7))
  else (some (x6, s5))) (fun σ v4 v5 => kb (σ, v4, v5)) t.1 t.2.1 t.2.2) 0 (by omega) (fun i _ => (τ, nI i, nI i)) (fun i _ => True) (fun _ _ z => z = some (nI 0, τ)) ?_ 0 () (Nat.zero_le _) trivial
  · exact key
  · intro i _ hi _ kb _
    show fX6_takeWords_15_L6 (nI f) (nI m) _ (fun σ v4 v5 => kb (σ, v4, v5)) τ (nI i) (nI i) = _
    have hi0 : i = 0 := by omega
    unfold fX6_takeWords_15_L6
    simp (disch := omega) only [l0, l1, l2, l3, l4, l5, l6, l7, l8, l9, l10, l11, l12, l16, l18, l19, l20, l21, l24, l96, l128, l100, l144, l200, l256, l288, l1536, l1728, l1800, bnd, nI_add, pk_mul, pI_sub, pI_m1, pT_le, pF_le, pT_lt, pF_lt, pT_eq, pF_eq, pF_m1, mF_eq, mT_eq, mT_lt, mF_le, lm1, rd_nI, wr_nI, cl_nI, pk_us, un_ne, pk_uLs, uL_ne, zI_uI, zI_uJ, zI_uA, zI_uB, zI_uR, zI_uN, zJ_uI, zJ_uJ, zJ_uA, zJ_uB, zJ_uR, zJ_uN, zA_uI, zA_uJ, zA_uA, zA_uB, zA_uR, zA_uN, zB_uI, zB_uJ, zB_uA, zB_uB, zB_uR, zB_uN, zR_uI, zR_uJ, zR_uA, zR_uB, zR_uR, zR_uN, zN_uI, zN_uJ, zN_uA, zN_uB, zN_uR, zN_uN, zI_ne, zJ_ne, zA_ne, zB_ne, zR_ne, zN_ne, bi_T, bi_F, nz16, ↓reduceIte, not_true_eq_false, not_false_eq_true, Bool.false_eq_true, reduceCtorEq, hi0, l24, hs, l1000, hp]
theorem c_takeWords_17 {τ : St} {T R : List Tk} {f m : Nat} (hC : Cr τ T R) (hg : gT R) (hf : f + m ≤ 144) (hm : 0 < m) : ∃ υ, FR [] [17] [3, 4] [] τ υ ∧ (∀ k, k < f → zB υ 17 k = zB τ 17 k) ∧ (∀ k, k < (pW m R).1.length → zB υ 17 (f + k) = lN ((pW m R).1.getD k 0)) ∧ fX6_takeWords_17 τ (nI f) (nI m) = some (nI (pW m R).1.length, υ) ∧ (((pW m R).1 = [] ∧ Fr υ (hd R).2) ∨ ((pW m R).1 ≠ [] ∧ Cr υ T (pW m R).2 ∧ gT (pW m R).2)) := by
  have key := it_for (β := St × List Tk × List Nat) (body := fun (kb : (St × Int32 × Int32) → Option (Int32 × St)) (t : St × Int32 × Int32) => fX6_takeWords_17_L6 (nI f) (nI m) (fun s5 x6 => if x6 = 0 then ((fX5_spoil_r s5).bind fun s7 => some (x6, s7))
  else (some (x6, s5))) (fun σ v4 v5 => kb (σ, v4, v5)) t.1 t.2.1 t.2.2) m (by omega) (fun i b => (b.1, nI i, nI i)) (fun i b => b.2.2.length = i ∧ FR [] [17] [3, 4] [] τ b.1 ∧ Cr b.1 T b.2.1 ∧ gT b.2.1 ∧ (∀ k, k < f → zB b.1 17 k = zB τ 17 k) ∧ (∀ k, k < i → zB b.1 17 (f + k) = lN (b.2.2.getD k 0)) ∧ (pW m R).1 = b.2.2 ++ (pW (m - i) b.2.1).1 ∧ (pW m R).2 = (pW (m - i) b.2.1).2 ∧ (i = 0 → b.2.1 = R)) (fun i b z => ∃ υ, FR [] [17] [3, 4] [] τ υ ∧ (∀ k, k < f → zB υ 17 k = zB τ 17 k) ∧ (∀ k, k < (pW m R).1.length → zB υ 17 (f + k) = lN ((pW m R).1.getD k 0)) ∧ z = some (nI (pW m R).1.length, υ) ∧ (((pW m R).1 = [] ∧ Fr υ (hd R).2) ∨ ((pW m R).1 ≠ [] ∧ Cr υ T (pW m R).2 ∧ gT (pW m R).2))) ?_ 0 (τ, R, []) (Nat.zero_le _) ⟨rfl, FR.rf _ _ _ _ _, hC, hg, fun k _ => rfl, fun k hk => absurd hk (Nat.not_lt_zero _), rfl, rfl, fun _ => rfl⟩
  · exact key
  · rintro i ⟨y, Q, l⟩ hi ⟨jl, jF, jy, jg, jo, jw, jp1, jp2, j0⟩ kb hkb
    have hl : l.length = i := jl
    have hF : FR [] [17] [3, 4] [] τ y := jF
    have hy : Cr y T Q := jy
    have hgQ : gT Q := jg
    have hlo : ∀ k, k < f → zB y 17 k = zB τ 17 k := jo
    have hw : ∀ k, k < i → zB y 17 (f + k) = lN (l.getD k 0) := jw
    have hp1 : (pW m R).1 = l ++ (pW (m - i) Q).1 := jp1
    have hp2 : (pW m R).2 = (pW (m - i) Q).2 := jp2
    have h0 : i = 0 → Q = R := j0
    clear jl jF jy jg jo jw jp1 jp2 j0
    show ∃ υ, _ ∧ _ ∧ _ ∧ fX6_takeWords_17_L6 (nI f) (nI m) _ (fun σ v4 v5 => kb (σ, v4, v5)) y (nI i) (nI i) = _ ∧ _
    -- no word more
    have stop : (pW (m - i) Q).1 = [] → (pW (m - i) Q).2 = Q → ∃ υ, FR [] [17] [3, 4] [] τ υ ∧ (∀ k, k < f → zB υ 17 k = zB τ 17 k) ∧ (∀ k, k < (pW m R).1.length → zB υ 17 (f + k) = lN ((pW m R).1.getD k 0)) ∧ (if nI i = nI 0 then ((fX5_spoil_r y).bind fun s7 => some (nI i, s7)) else some (nI i, y)) = some (nI (pW m R).1.length, υ) ∧ (((pW m R).1 = [] ∧ Fr υ (hd R).2) ∨ ((pW m R).1 ≠ [] ∧ Cr υ T (pW m R).2 ∧ gT (pW m R).2)) := by
      intro e1 e2
      rw [e1, List.append_nil] at hp1
      rw [e2] at hp2
      by_cases hi0 : i = 0
      · have e3 := h0 hi0
        cases Q with
        | nil => exact absurd hgQ (fun h => h)
        | cons t Q' =>
          obtain ⟨h1, h2⟩ := c_spoil_r hy hgQ.2.1
          have hl0 : l = [] := List.eq_nil_of_length_eq_zero (by omega)
          refine ⟨uI y 4 (nI t.2), FR.uI hF (by decide), hlo, fun k hk => ?_, ?_, .inl ⟨by rw [hp1, hl0], ?_⟩⟩
          · rw [hp1, hl0] at hk
            exact absurd hk (Nat.not_lt_zero _)
          · rw [hp1, hl0]
            simp (disch := omega) only [l0, l1, l2, l3, l4, l5, l6, l7, l8, l9, l10, l11, l12, l16, l18, l19, l20, l21, l24, l96, l128, l100, l144, l200, l256, l288, l1536, l1728, l1800, bnd, nI_add, pk_mul, pI_sub, pI_m1, pT_le, pF_le, pT_lt, pF_lt, pT_eq, pF_eq, pF_m1, mF_eq, mT_eq, mT_lt, mF_le, lm1, rd_nI, wr_nI, cl_nI, pk_us, un_ne, pk_uLs, uL_ne, zI_uI, zI_uJ, zI_uA, zI_uB, zI_uR, zI_uN, zJ_uI, zJ_uJ, zJ_uA, zJ_uB, zJ_uR, zJ_uN, zA_uI, zA_uJ, zA_uA, zA_uB, zA_uR, zA_uN, zB_uI, zB_uJ, zB_uA, zB_uB, zB_uR, zB_uN, zR_uI, zR_uJ, zR_uA, zR_uB, zR_uR, zR_uN, zN_uI, zN_uJ, zN_uA, zN_uB, zN_uR, zN_uN, zI_ne, zJ_ne, zA_ne, zB_ne, zR_ne, zN_ne, bi_T, bi_F, nz16, ↓reduceIte, not_true_eq_false, not_false_eq_true, Bool.false_eq_true, reduceCtorEq, hi0, h1]
            rfl
          · rw [← e3]
            exact h2
      · refine ⟨y, hF, hlo, fun k hk => ?_, ?_, .inr ⟨?_, ?_, ?_⟩⟩
        · rw [hp1] at hk ⊢
          exact hw k (by omega)
        · rw [hp1, hl]
          simp (disch := omega) only [l0, l1, l2, l3, l4, l5, l6, l7, l8, l9, l10, l11, l12, l16, l18, l19, l20, l21, l24, l96, l128, l100, l144, l200, l256, l288, l1536, l1728, l1800, bnd, nI_add, pk_mul, pI_sub, pI_m1, pT_le, pF_le, pT_lt, pF_lt, pT_eq, pF_eq, pF_m1, mF_eq, mT_eq, mT_lt, mF_le, lm1, rd_nI, wr_nI, cl_nI, pk_us, un_ne, pk_uLs, uL_ne, zI_uI, zI_uJ, zI_uA, zI_uB, zI_uR, zI_uN, zJ_uI, zJ_uJ, zJ_uA, zJ_uB, zJ_uR, zJ_uN, zA_uI, zA_uJ, zA_uA, zA_uB, zA_uR, zA_uN, zB_uI, zB_uJ, zB_uA, zB_uB, zB_uR, zB_uN, zR_uI, zR_uJ, zR_uA, zR_uB, zR_uR, zR_uN, zN_uI, zN_uJ, zN_uA, zN_uB, zN_uR, zN_uN, zI_ne, zJ_ne, zA_ne, zB_ne, zR_ne, zN_ne, bi_T, bi_F, nz16, ↓reduceIte, not_true_eq_false, not_false_eq_true, Bool.false_eq_true, reduceCtorEq]
        · rw [hp1]
          intro e
          rw [e] at hl
          exact hi0 hl.symm
        · rw [hp2]
          exact hy
        · rw [hp2]
          exact hgQ
    unfold fX6_takeWords_17_L6
    by_cases him : i = m
    · rw [him, Nat.sub_self] at stop
      obtain ⟨υ, h1, h2, h3, h4, h5⟩ := stop rfl rfl
      refine ⟨υ, h1, h2, h3, ?_, h5⟩
      rw [← h4]
      simp (disch := omega) only [l0, l1, l2, l3, l4, l5, l6, l7, l8, l9, l10, l11, l12, l16, l18, l19, l20, l21, l24, l96, l128, l100, l144, l200, l256, l288, l1536, l1728, l1800, bnd, nI_add, pk_mul, pI_sub, pI_m1, pT_le, pF_le, pT_lt, pF_lt, pT_eq, pF_eq, pF_m1, mF_eq, mT_eq, mT_lt, mF_le, lm1, rd_nI, wr_nI, cl_nI, pk_us, un_ne, pk_uLs, uL_ne, zI_uI, zI_uJ, zI_uA, zI_uB, zI_uR, zI_uN, zJ_uI, zJ_uJ, zJ_uA, zJ_uB, zJ_uR, zJ_uN, zA_uI, zA_uJ, zA_uA, zA_uB, zA_uR, zA_uN, zB_uI, zB_uJ, zB_uA, zB_uB, zB_uR, zB_uN, zR_uI, zR_uJ, zR_uA, zR_uB, zR_uR, zR_uN, zN_uI, zN_uJ, zN_uA, zN_uB, zN_uR, zN_uN, zI_ne, zJ_ne, zA_ne, zB_ne, zR_ne, zN_ne, bi_T, bi_F, nz16, ↓reduceIte, not_true_eq_false, not_false_eq_true, Bool.false_eq_true, reduceCtorEq, him]
    · cases Q with
      | nil => exact absurd hgQ (fun h => h)
      | cons t Q' =>
        have hs := c_sign_r hy hgQ.1
        have hms : m - i = (m - (i + 1)) + 1 := by omega
        by_cases ht : 1000 ≤ t.1
        · rw [if_neg (by omega)] at hs
          have hne : t.1 ≠ 256 := by omega
          have hgQ' : gT Q' := by
            rcases hgQ.2.2 with h | h
            · exact absurd h.2 hne
            · exact h
          have hv : fX5_value_r y = some (lN (t.1 - 1000)) := by
            have e : t = (1000 + (t.1 - 1000), t.2) := by
              rw [show 1000 + (t.1 - 1000) = t.1 by omega]
            rw [e] at hy
            exact c_value_r hy
          have hF1 : FR [] [17] [] [] y (uB y 17 (vp_updL (zB y 17) (f + i) (lN (t.1 - 1000)))) := FR.uB (FR.rf _ _ _ _ _) (by decide)
          obtain ⟨k, h1, h2⟩ := c_step_r (hy.fr hF1 (by decide) (by decide) (by decide))
          have ePW : pW (m - i) (t :: Q') = ((t.1 - 1000) :: (pW (m - (i + 1)) Q').1, (pW (m - (i + 1)) Q').2) := by
            rw [hms]
            show (if 1000 ≤ t.1 then _ else _) = _
            rw [if_pos ht]
          rw [ePW] at hp1 hp2
          obtain ⟨υ, h3, h4, h5, h6, h7⟩ := hkb (uI (uB y 17 (vp_updL (zB y 17) (f + i) (lN (t.1 - 1000)))) 3 (nI k), Q', l ++ [t.1 - 1000]) (by omega) ⟨by
            show (l ++ [t.1 - 1000]).length = i + 1
            rw [List.length_append, List.length_singleton, hl], FR.uI (FR.uB hF (by decide)) (by decide), h2, hgQ', fun k hk => by
            rw [zB_uI, zB_uB, uL_ne (by omega)]
            exact hlo k hk, fun k hk => by
            rw [zB_uI, zB_uB]
            by_cases e : k = i
            · rw [e, pk_uLs, ← hl, getD_snoc_eq']
            · rw [uL_ne (by omega), getD_snoc_lt' (by omega)]
              exact hw k (by omega), by
            rw [hp1]
            show _ = (l ++ [_]) ++ _
            rw [List.append_assoc]
            rfl, hp2, fun h => by omega⟩
          refine ⟨υ, h3, h4, h5, ?_, h7⟩
          rw [← h6]
          simp (disch := omega) only [l0, l1, l2, l3, l4, l5, l6, l7, l8, l9, l10, l11, l12, l16, l18, l19, l20, l21, l24, l96, l128, l100, l144, l200, l256, l288, l1536, l1728, l1800, bnd, nI_add, pk_mul, pI_sub, pI_m1, pT_le, pF_le, pT_lt, pF_lt, pT_eq, pF_eq, pF_m1, mF_eq, mT_eq, mT_lt, mF_le, lm1, rd_nI, wr_nI, cl_nI, pk_us, un_ne, pk_uLs, uL_ne, zI_uI, zI_uJ, zI_uA, zI_uB, zI_uR, zI_uN, zJ_uI, zJ_uJ, zJ_uA, zJ_uB, zJ_uR, zJ_uN, zA_uI, zA_uJ, zA_uA, zA_uB, zA_uR, zA_uN, zB_uI, zB_uJ, zB_uA, zB_uB, zB_uR, zB_uN, zR_uI, zR_uJ, zR_uA, zR_uB, zR_uR, zR_uN, zN_uI, zN_uJ, zN_uA, zN_uB, zN_uR, zN_uN, zI_ne, zJ_ne, zA_ne, zB_ne, zR_ne, zN_ne, bi_T, bi_F, nz16, ↓reduceIte, not_true_eq_false, not_false_eq_true, Bool.false_eq_true, reduceCtorEq, l144, hs, l1000, hv, h1]
        · rw [if_pos (by omega)] at hs
          have ePW : pW (m - i) (t :: Q') = ([], t :: Q') := by
            rw [hms]
            show (if 1000 ≤ t.1 then _ else _) = _
            rw [if_neg ht]
          rw [ePW] at stop
          obtain ⟨υ, h1, h2, h3, h4, h5⟩ := stop rfl rfl
          refine ⟨υ, h1, h2, h3, ?_, h5⟩
          rw [← h4]
          simp (disch := omega) only [l0, l1, l2, l3, l4, l5, l6, l7, l8, l9, l10, l11, l12, l16, l18, l19, l20, l21, l24, l96, l128, l100, l144, l200, l256, l288, l1536, l1728, l1800, bnd, nI_add, pk_mul, pI_sub, pI_m1, pT_le, pF_le, pT_lt, pF_lt, pT_eq, pF_eq, pF_m1, mF_eq, mT_eq, mT_lt, mF_le, lm1, rd_nI, wr_nI, cl_nI, pk_us, un_ne, pk_uLs, uL_ne, zI_uI, zI_uJ, zI_uA, zI_uB, zI_uR, zI_uN, zJ_uI, zJ_uJ, zJ_uA, zJ_uB, zJ_uR, zJ_uN, zA_uI, zA_uJ, zA_uA, zA_uB, zA_uR, zA_uN, zB_uI, zB_uJ, zB_uA, zB_uB, zB_uR, zB_uN, zR_uI, zR_uJ, zR_uA, zR_uB, zR_uR, zR_uN, zN_uI, zN_uJ, zN_uA, zN_uB, zN_uR, zN_uN, zI_ne, zJ_ne, zA_ne, zB_ne, zR_ne, zN_ne, bi_T, bi_F, nz16, ↓reduceIte, not_true_eq_false, not_false_eq_true, Bool.false_eq_true, reduceCtorEq, l144, hs, l1000]
theorem c_takeWordsF_17 {τ : St} {p f m : Nat} (h : Fr τ p) (hf : f + m ≤ 144) (hm : 0 < m) : fX6_takeWords_17 τ (nI f) (nI m) = some (nI 0, τ) := by
  have hs := c_signF_r h
  have hp := c_spoilF_r h
  have key := it_for (β := Unit) (body := fun (kb : (St × Int32 × Int32) → Option (Int32 × St)) (t : St × Int32 × Int32) => fX6_takeWords_17_L6 (nI f) (nI m) (fun s5 x6 => if x6 = 0 then ((fX5_spoil_r s5).bind fun s7 => some (x6, s7))
  else (some (x6, s5))) (fun σ v4 v5 => kb (σ, v4, v5)) t.1 t.2.1 t.2.2) 0 (by omega) (fun i _ => (τ, nI i, nI i)) (fun i _ => True) (fun _ _ z => z = some (nI 0, τ)) ?_ 0 () (Nat.zero_le _) trivial
  · exact key
  · intro i _ hi _ kb _
    show fX6_takeWords_17_L6 (nI f) (nI m) _ (fun σ v4 v5 => kb (σ, v4, v5)) τ (nI i) (nI i) = _
    have hi0 : i = 0 := by omega
    unfold fX6_takeWords_17_L6
    simp (disch := omega) only [l0, l1, l2, l3, l4, l5, l6, l7, l8, l9, l10, l11, l12, l16, l18, l19, l20, l21, l24, l96, l128, l100, l144, l200, l256, l288, l1536, l1728, l1800, bnd, nI_add, pk_mul, pI_sub, pI_m1, pT_le, pF_le, pT_lt, pF_lt, pT_eq, pF_eq, pF_m1, mF_eq, mT_eq, mT_lt, mF_le, lm1, rd_nI, wr_nI, cl_nI, pk_us, un_ne, pk_uLs, uL_ne, zI_uI, zI_uJ, zI_uA, zI_uB, zI_uR, zI_uN, zJ_uI, zJ_uJ, zJ_uA, zJ_uB, zJ_uR, zJ_uN, zA_uI, zA_uJ, zA_uA, zA_uB, zA_uR, zA_uN, zB_uI, zB_uJ, zB_uA, zB_uB, zB_uR, zB_uN, zR_uI, zR_uJ, zR_uA, zR_uB, zR_uR, zR_uN, zN_uI, zN_uJ, zN_uA, zN_uB, zN_uR, zN_uN, zI_ne, zJ_ne, zA_ne, zB_ne, zR_ne, zN_ne, bi_T, bi_F, nz16, ↓reduceIte, not_true_eq_false, not_false_eq_true, Bool.false_eq_true, reduceCtorEq, hi0, l144, hs, l1000, hp]
