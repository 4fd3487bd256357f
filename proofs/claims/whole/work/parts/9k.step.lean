/-! the readers' steps, a fault or not *-/
abbrev Sx : Type := Nat ⊕ List Tk
def nd (v : Nat) : Sx → Sx
  | .inl p => .inl p
  | .inr R => if (hd R).1 = v then .inr R.tail else .inl (hd R).2
def tb (v : Nat) : Sx → Bool
  | .inl _ => false
  | .inr R => decide ((hd R).1 = v)
def tlx : Sx → Sx
  | .inl p => .inl p
  | .inr R => .inr R.tail
def slx : Sx → Sx
  | .inl p => .inl p
  | .inr R => .inl (hd R).2
def sg : Sx → Nat
  | .inl _ => 257
  | .inr R => if (hd R).1 < 1000 then (hd R).1 else 1000
def wd (m : Nat) : Sx → List Nat × Sx
  | .inl p => ([], .inl p)
  | .inr R => if (pW m R).1 = [] then ([], .inl (hd R).2) else ((pW m R).1, .inr (pW m R).2)
/-- the fault of a text whose reading ends so -/
def fx : Sx → Int32
  | .inl p => nI p
  | .inr R => if (hd R).1 = 256 then mI else nI (hd R).2
theorem FR.uR2 {A B K N : List Nat} {σ τ : St} {k v : Nat} (h : FR A B K N σ τ) : FR A B K N (uR σ k v) (uR τ k v) :=
  ⟨fun q hq => h.1 q hq, fun q hq => h.2.1 q hq, fun q hq => h.2.2.1 q hq, fun q hq => h.2.2.2.1 q hq, by
    show va_up τ.2.2.2.2.1 k v = va_up σ.2.2.2.2.1 k v
    have := h.2.2.2.2
    unfold zR at this
    rw [this]⟩
def Sr (τ : St) (T : List Tk) : Sx → Prop
  | .inl p => Fr τ p
  | .inr R => Cr τ T R ∧ gT R
theorem s_needs_r {τ : St} {T : List Tk} {x : Sx} {v : Nat} (h : Sr τ T x) (hv : v < 256) : ∃ υ, fX5_needs_r τ (nI v) = some υ ∧ Sr υ T (nd v x) ∧ FR [] [] [3, 4] [] τ υ := by
  cases x with
  | inl p => exact ⟨τ, c_needsF_r h (by omega), h, FR.rf _ _ _ _ _⟩
  | inr R =>
    obtain ⟨h, hg⟩ := h
    cases R with
    | nil => exact absurd hg (fun h => h)
    | cons t R =>
      rcases c_needs_r h hg.1 hg.2.1 (show v < 1000 by omega) with ⟨e, k, h1, h2⟩ | ⟨e, h1, h2⟩
      · refine ⟨_, h1, ?_, FR.uI (FR.rf _ _ _ _ _) (by decide)⟩
        have e2 : nd v (.inr (t :: R)) = .inr R := if_pos e
        rw [e2]
        exact ⟨h2, gT_tail hg (by omega)⟩
      · refine ⟨_, h1, ?_, FR.uI (FR.rf _ _ _ _ _) (by decide)⟩
        have e2 : nd v (.inr (t :: R)) = .inl t.2 := if_neg e
        rw [e2]
        exact h2
theorem s_takes_r {τ : St} {T : List Tk} {x : Sx} {v : Nat} (h : Sr τ T x) (hv : v < 256) : ∃ υ, fX5_takes_r τ (nI v) = some (tb v x, υ) ∧ Sr υ T (if tb v x = true then tlx x else x) ∧ FR [] [] [3, 4] [] τ υ := by
  cases x with
  | inl p => exact ⟨τ, c_takesF_r h (by omega), h, FR.rf _ _ _ _ _⟩
  | inr R =>
    obtain ⟨h, hg⟩ := h
    cases R with
    | nil => exact absurd hg (fun h => h)
    | cons t R =>
      rcases c_takes_r h hg.1 (show v < 1000 by omega) with ⟨e, k, h1, h2⟩ | ⟨e, h1⟩
      · refine ⟨uI τ 3 (nI k), ?_, ?_, FR.uI (FR.rf _ _ _ _ _) (by decide)⟩
        · have e2 : tb v (.inr (t :: R)) = true := decide_eq_true e
          rw [e2]
          exact h1
        · have e2 : tb v (.inr (t :: R)) = true := decide_eq_true e
          rw [if_pos e2]
          exact ⟨h2, gT_tail hg (by omega)⟩
      · refine ⟨τ, ?_, ?_, FR.rf _ _ _ _ _⟩
        · have e2 : tb v (.inr (t :: R)) = false := decide_eq_false e
          rw [e2]
          exact h1
        · have e2 : tb v (.inr (t :: R)) = false := decide_eq_false e
          rw [e2]
          exact ⟨h, hg⟩
theorem s_sign_r {τ : St} {T : List Tk} {x : Sx} (h : Sr τ T x) : fX5_sign_r τ = some (nI (sg x)) := by
  cases x with
  | inl p => exact c_signF_r h
  | inr R =>
    obtain ⟨h, hg⟩ := h
    cases R with
    | nil => exact absurd hg (fun h => h)
    | cons t R => exact c_sign_r h hg.1
theorem s_spoil_r {τ : St} {T : List Tk} {x : Sx} (h : Sr τ T x) : ∃ υ, fX5_spoil_r τ = some υ ∧ Sr υ T (slx x) ∧ FR [] [] [4] [] τ υ := by
  cases x with
  | inl p => exact ⟨τ, c_spoilF_r h, h, FR.rf _ _ _ _ _⟩
  | inr R =>
    obtain ⟨h, hg⟩ := h
    cases R with
    | nil => exact absurd hg (fun h => h)
    | cons t R =>
      obtain ⟨h1, h2⟩ := c_spoil_r h hg.2.1
      exact ⟨_, h1, h2, FR.uI (FR.rf _ _ _ _ _) (by decide)⟩
theorem s_step_r {τ : St} {T : List Tk} {R : List Tk} (h : Sr τ T (.inr R)) (hn : (hd R).1 ≠ 256) : ∃ υ, fX5_step_r τ = some υ ∧ Sr υ T (.inr R.tail) ∧ FR [] [] [3] [] τ υ := by
  obtain ⟨h, hg⟩ := h
  cases R with
  | nil => exact absurd hg (fun h => h)
  | cons t R =>
    obtain ⟨k, h1, h2⟩ := c_step_r h
    exact ⟨_, h1, ⟨h2, gT_tail hg hn⟩, FR.uI (FR.rf _ _ _ _ _) (by decide)⟩
theorem Sr.fr {σ τ : St} {T : List Tk} {x : Sx} {A B K N : List Nat} (h : Sr σ T x) (f : FR A B K N σ τ) (hA : 13 ∉ A) (hB : 12 ∉ B) (hK : ∀ q, q ∈ [3, 4] → q ∉ K) : Sr τ T x := by
  cases x with
  | inl p =>
    show zI τ 4 = nI p ∧ p < 1000
    rw [f.2.2.1 4 (hK 4 (by decide))]
    exact h
  | inr R => exact ⟨h.1.fr f hA hB hK, h.2⟩
/-- what the reader says in the end -/
theorem s_end_r {τ : St} {T : List Tk} {x : Sx} (h : Sr τ T x) : ∃ υ, ((fX5_sign_r τ).bind fun x4 => if x4 = (256 : Int32) then (some ((zI τ 4), τ)) else ((fX5_spoil_r τ).bind fun s5 => some ((zI s5 4), s5))) = some (fx x, υ) ∧ FR [] [] [4] [] τ υ := by
  have hs := s_sign_r h
  obtain ⟨υ, h1, h2, h3⟩ := s_spoil_r h
  cases x with
  | inl p =>
    refine ⟨υ, ?_, h3⟩
    have h2 : Fr υ p := h2
    have e : sg (.inl p) = 257 := rfl
    rw [e] at hs
    have e2 : fx (.inl p) = nI p := rfl
    rw [e2]
    simp (disch := omega) only [l0, l1, l2, l3, l4, l5, l6, l7, l8, l9, l10, l11, l12, l16, l18, l19, l20, l21, l24, l96, l128, l100, l144, l200, l256, l288, l1536, l1728, l1800, bnd, nI_add, pk_mul, pI_sub, pI_m1, pT_le, pF_le, pT_lt, pF_lt, pT_eq, pF_eq, pF_m1, mF_eq, mT_eq, mT_lt, mF_le, lm1, rd_nI, wr_nI, cl_nI, pk_us, un_ne, pk_uLs, uL_ne, zI_uI, zI_uJ, zI_uA, zI_uB, zI_uR, zI_uN, zJ_uI, zJ_uJ, zJ_uA, zJ_uB, zJ_uR, zJ_uN, zA_uI, zA_uJ, zA_uA, zA_uB, zA_uR, zA_uN, zB_uI, zB_uJ, zB_uA, zB_uB, zB_uR, zB_uN, zR_uI, zR_uJ, zR_uA, zR_uB, zR_uR, zR_uN, zN_uI, zN_uJ, zN_uA, zN_uB, zN_uR, zN_uN, zI_ne, zJ_ne, zA_ne, zB_ne, zR_ne, zN_ne, bi_T, bi_F, nz16, ↓reduceIte, not_true_eq_false, not_false_eq_true, Bool.false_eq_true, reduceCtorEq, hs, h1, h2.1]
  | inr R =>
    have hc := h.1.2.1
    by_cases he : (hd R).1 = 256
    · refine ⟨τ, ?_, FR.rf _ _ _ _ _⟩
      have e : sg (.inr R) = 256 := by show (if (hd R).1 < 1000 then _ else _) = _; rw [he]; rfl
      have e2 : fx (.inr R) = mI := if_pos he
      rw [e] at hs
      rw [e2]
      simp (disch := omega) only [l0, l1, l2, l3, l4, l5, l6, l7, l8, l9, l10, l11, l12, l16, l18, l19, l20, l21, l24, l96, l128, l100, l144, l200, l256, l288, l1536, l1728, l1800, bnd, nI_add, pk_mul, pI_sub, pI_m1, pT_le, pF_le, pT_lt, pF_lt, pT_eq, pF_eq, pF_m1, mF_eq, mT_eq, mT_lt, mF_le, lm1, rd_nI, wr_nI, cl_nI, pk_us, un_ne, pk_uLs, uL_ne, zI_uI, zI_uJ, zI_uA, zI_uB, zI_uR, zI_uN, zJ_uI, zJ_uJ, zJ_uA, zJ_uB, zJ_uR, zJ_uN, zA_uI, zA_uJ, zA_uA, zA_uB, zA_uR, zA_uN, zB_uI, zB_uJ, zB_uA, zB_uB, zB_uR, zB_uN, zR_uI, zR_uJ, zR_uA, zR_uB, zR_uR, zR_uN, zN_uI, zN_uJ, zN_uA, zN_uB, zN_uR, zN_uN, zI_ne, zJ_ne, zA_ne, zB_ne, zR_ne, zN_ne, bi_T, bi_F, nz16, ↓reduceIte, not_true_eq_false, not_false_eq_true, Bool.false_eq_true, reduceCtorEq, hs, hc]
    · refine ⟨υ, ?_, h3⟩
      have e : sg (.inr R) ≠ 256 := by show (if (hd R).1 < 1000 then _ else _) ≠ _; split <;> omega
      have e3 : sg (.inr R) < 2147483648 := by show (if (hd R).1 < 1000 then _ else _) < _; split <;> omega
      have e2 : fx (.inr R) = nI (hd R).2 := if_neg he
      have h2 : Fr υ (hd R).2 := h2
      rw [e2]
      generalize sg (.inr R) = y at *
      simp (disch := omega) only [l0, l1, l2, l3, l4, l5, l6, l7, l8, l9, l10, l11, l12, l16, l18, l19, l20, l21, l24, l96, l128, l100, l144, l200, l256, l288, l1536, l1728, l1800, bnd, nI_add, pk_mul, pI_sub, pI_m1, pT_le, pF_le, pT_lt, pF_lt, pT_eq, pF_eq, pF_m1, mF_eq, mT_eq, mT_lt, mF_le, lm1, rd_nI, wr_nI, cl_nI, pk_us, un_ne, pk_uLs, uL_ne, zI_uI, zI_uJ, zI_uA, zI_uB, zI_uR, zI_uN, zJ_uI, zJ_uJ, zJ_uA, zJ_uB, zJ_uR, zJ_uN, zA_uI, zA_uJ, zA_uA, zA_uB, zA_uR, zA_uN, zB_uI, zB_uJ, zB_uA, zB_uB, zB_uR, zB_uN, zR_uI, zR_uJ, zR_uA, zR_uB, zR_uR, zR_uN, zN_uI, zN_uJ, zN_uA, zN_uB, zN_uR, zN_uN, zI_ne, zJ_ne, zA_ne, zB_ne, zR_ne, zN_ne, bi_T, bi_F, nz16, ↓reduceIte, not_true_eq_false, not_false_eq_true, Bool.false_eq_true, reduceCtorEq, hs, h1, h2.1]
def Sp (τ : St) (T : List Tk) : Sx → Prop
  | .inl p => Fp τ p
  | .inr R => Cp τ T R ∧ gT R
theorem s_needs_p {τ : St} {T : List Tk} {x : Sx} {v : Nat} (h : Sp τ T x) (hv : v < 256) : ∃ υ, fX5_needs_p τ (nI v) = some υ ∧ Sp υ T (nd v x) ∧ FR [] [] [6, 7] [] τ υ := by
  cases x with
  | inl p => exact ⟨τ, c_needsF_p h (by omega), h, FR.rf _ _ _ _ _⟩
  | inr R =>
    obtain ⟨h, hg⟩ := h
    cases R with
    | nil => exact absurd hg (fun h => h)
    | cons t R =>
      rcases c_needs_p h hg.1 hg.2.1 (show v < 1000 by omega) with ⟨e, k, h1, h2⟩ | ⟨e, h1, h2⟩
      · refine ⟨_, h1, ?_, FR.uI (FR.rf _ _ _ _ _) (by decide)⟩
        have e2 : nd v (.inr (t :: R)) = .inr R := if_pos e
        rw [e2]
        exact ⟨h2, gT_tail hg (by omega)⟩
      · refine ⟨_, h1, ?_, FR.uI (FR.rf _ _ _ _ _) (by decide)⟩
        have e2 : nd v (.inr (t :: R)) = .inl t.2 := if_neg e
        rw [e2]
        exact h2
theorem s_takes_p {τ : St} {T : List Tk} {x : Sx} {v : Nat} (h : Sp τ T x) (hv : v < 256) : ∃ υ, fX5_takes_p τ (nI v) = some (tb v x, υ) ∧ Sp υ T (if tb v x = true then tlx x else x) ∧ FR [] [] [6, 7] [] τ υ := by
  cases x with
  | inl p => exact ⟨τ, c_takesF_p h (by omega), h, FR.rf _ _ _ _ _⟩
  | inr R =>
    obtain ⟨h, hg⟩ := h
    cases R with
    | nil => exact absurd hg (fun h => h)
    | cons t R =>
      rcases c_takes_p h hg.1 (show v < 1000 by omega) with ⟨e, k, h1, h2⟩ | ⟨e, h1⟩
      · refine ⟨uI τ 6 (nI k), ?_, ?_, FR.uI (FR.rf _ _ _ _ _) (by decide)⟩
        · have e2 : tb v (.inr (t :: R)) = true := decide_eq_true e
          rw [e2]
          exact h1
        · have e2 : tb v (.inr (t :: R)) = true := decide_eq_true e
          rw [if_pos e2]
          exact ⟨h2, gT_tail hg (by omega)⟩
      · refine ⟨τ, ?_, ?_, FR.rf _ _ _ _ _⟩
        · have e2 : tb v (.inr (t :: R)) = false := decide_eq_false e
          rw [e2]
          exact h1
        · have e2 : tb v (.inr (t :: R)) = false := decide_eq_false e
          rw [e2]
          exact ⟨h, hg⟩
theorem s_sign_p {τ : St} {T : List Tk} {x : Sx} (h : Sp τ T x) : fX5_sign_p τ = some (nI (sg x)) := by
  cases x with
  | inl p => exact c_signF_p h
  | inr R =>
    obtain ⟨h, hg⟩ := h
    cases R with
    | nil => exact absurd hg (fun h => h)
    | cons t R => exact c_sign_p h hg.1
theorem s_spoil_p {τ : St} {T : List Tk} {x : Sx} (h : Sp τ T x) : ∃ υ, fX5_spoil_p τ = some υ ∧ Sp υ T (slx x) ∧ FR [] [] [7] [] τ υ := by
  cases x with
  | inl p => exact ⟨τ, c_spoilF_p h, h, FR.rf _ _ _ _ _⟩
  | inr R =>
    obtain ⟨h, hg⟩ := h
    cases R with
    | nil => exact absurd hg (fun h => h)
    | cons t R =>
      obtain ⟨h1, h2⟩ := c_spoil_p h hg.2.1
      exact ⟨_, h1, h2, FR.uI (FR.rf _ _ _ _ _) (by decide)⟩
theorem s_step_p {τ : St} {T : List Tk} {R : List Tk} (h : Sp τ T (.inr R)) (hn : (hd R).1 ≠ 256) : ∃ υ, fX5_step_p τ = some υ ∧ Sp υ T (.inr R.tail) ∧ FR [] [] [6] [] τ υ := by
  obtain ⟨h, hg⟩ := h
  cases R with
  | nil => exact absurd hg (fun h => h)
  | cons t R =>
    obtain ⟨k, h1, h2⟩ := c_step_p h
    exact ⟨_, h1, ⟨h2, gT_tail hg hn⟩, FR.uI (FR.rf _ _ _ _ _) (by decide)⟩
theorem Sp.fr {σ τ : St} {T : List Tk} {x : Sx} {A B K N : List Nat} (h : Sp σ T x) (f : FR A B K N σ τ) (hA : 19 ∉ A) (hB : 18 ∉ B) (hK : ∀ q, q ∈ [6, 7] → q ∉ K) : Sp τ T x := by
  cases x with
  | inl p =>
    show zI τ 7 = nI p ∧ p < 1000
    rw [f.2.2.1 7 (hK 7 (by decide))]
    exact h
  | inr R => exact ⟨h.1.fr f hA hB hK, h.2⟩
/-- what the reader says in the end -/
theorem s_end_p {τ : St} {T : List Tk} {x : Sx} (h : Sp τ T x) : ∃ υ, ((fX5_sign_p τ).bind fun x4 => if x4 = (256 : Int32) then (some ((zI τ 7), τ)) else ((fX5_spoil_p τ).bind fun s5 => some ((zI s5 7), s5))) = some (fx x, υ) ∧ FR [] [] [7] [] τ υ := by
  have hs := s_sign_p h
  obtain ⟨υ, h1, h2, h3⟩ := s_spoil_p h
  cases x with
  | inl p =>
    refine ⟨υ, ?_, h3⟩
    have h2 : Fp υ p := h2
    have e : sg (.inl p) = 257 := rfl
    rw [e] at hs
    have e2 : fx (.inl p) = nI p := rfl
    rw [e2]
    simp (disch := omega) only [l0, l1, l2, l3, l4, l5, l6, l7, l8, l9, l10, l11, l12, l16, l18, l19, l20, l21, l24, l96, l128, l100, l144, l200, l256, l288, l1536, l1728, l1800, bnd, nI_add, pk_mul, pI_sub, pI_m1, pT_le, pF_le, pT_lt, pF_lt, pT_eq, pF_eq, pF_m1, mF_eq, mT_eq, mT_lt, mF_le, lm1, rd_nI, wr_nI, cl_nI, pk_us, un_ne, pk_uLs, uL_ne, zI_uI, zI_uJ, zI_uA, zI_uB, zI_uR, zI_uN, zJ_uI, zJ_uJ, zJ_uA, zJ_uB, zJ_uR, zJ_uN, zA_uI, zA_uJ, zA_uA, zA_uB, zA_uR, zA_uN, zB_uI, zB_uJ, zB_uA, zB_uB, zB_uR, zB_uN, zR_uI, zR_uJ, zR_uA, zR_uB, zR_uR, zR_uN, zN_uI, zN_uJ, zN_uA, zN_uB, zN_uR, zN_uN, zI_ne, zJ_ne, zA_ne, zB_ne, zR_ne, zN_ne, bi_T, bi_F, nz16, ↓reduceIte, not_true_eq_false, not_false_eq_true, Bool.false_eq_true, reduceCtorEq, hs, h1, h2.1]
  | inr R =>
    have hc := h.1.2.1
    by_cases he : (hd R).1 = 256
    · refine ⟨τ, ?_, FR.rf _ _ _ _ _⟩
      have e : sg (.inr R) = 256 := by show (if (hd R).1 < 1000 then _ else _) = _; rw [he]; rfl
      have e2 : fx (.inr R) = mI := if_pos he
      rw [e] at hs
      rw [e2]
      simp (disch := omega) only [l0, l1, l2, l3, l4, l5, l6, l7, l8, l9, l10, l11, l12, l16, l18, l19, l20, l21, l24, l96, l128, l100, l144, l200, l256, l288, l1536, l1728, l1800, bnd, nI_add, pk_mul, pI_sub, pI_m1, pT_le, pF_le, pT_lt, pF_lt, pT_eq, pF_eq, pF_m1, mF_eq, mT_eq, mT_lt, mF_le, lm1, rd_nI, wr_nI, cl_nI, pk_us, un_ne, pk_uLs, uL_ne, zI_uI, zI_uJ, zI_uA, zI_uB, zI_uR, zI_uN, zJ_uI, zJ_uJ, zJ_uA, zJ_uB, zJ_uR, zJ_uN, zA_uI, zA_uJ, zA_uA, zA_uB, zA_uR, zA_uN, zB_uI, zB_uJ, zB_uA, zB_uB, zB_uR, zB_uN, zR_uI, zR_uJ, zR_uA, zR_uB, zR_uR, zR_uN, zN_uI, zN_uJ, zN_uA, zN_uB, zN_uR, zN_uN, zI_ne, zJ_ne, zA_ne, zB_ne, zR_ne, zN_ne, bi_T, bi_F, nz16, ↓reduceIte, not_true_eq_false, not_false_eq_true, Bool.false_eq_true, reduceCtorEq, hs, hc]
    · refine ⟨υ, ?_, h3⟩
      have e : sg (.inr R) ≠ 256 := by show (if (hd R).1 < 1000 then _ else _) ≠ _; split <;> omega
      have e3 : sg (.inr R) < 2147483648 := by show (if (hd R).1 < 1000 then _ else _) < _; split <;> omega
      have e2 : fx (.inr R) = nI (hd R).2 := if_neg he
      have h2 : Fp υ (hd R).2 := h2
      rw [e2]
      generalize sg (.inr R) = y at *
      simp (disch := omega) only [l0, l1, l2, l3, l4, l5, l6, l7, l8, l9, l10, l11, l12, l16, l18, l19, l20, l21, l24, l96, l128, l100, l144, l200, l256, l288, l1536, l1728, l1800, bnd, nI_add, pk_mul, pI_sub, pI_m1, pT_le, pF_le, pT_lt, pF_lt, pT_eq, pF_eq, pF_m1, mF_eq, mT_eq, mT_lt, mF_le, lm1, rd_nI, wr_nI, cl_nI, pk_us, un_ne, pk_uLs, uL_ne, zI_uI, zI_uJ, zI_uA, zI_uB, zI_uR, zI_uN, zJ_uI, zJ_uJ, zJ_uA, zJ_uB, zJ_uR, zJ_uN, zA_uI, zA_uJ, zA_uA, zA_uB, zA_uR, zA_uN, zB_uI, zB_uJ, zB_uA, zB_uB, zB_uR, zB_uN, zR_uI, zR_uJ, zR_uA, zR_uB, zR_uR, zR_uN, zN_uI, zN_uJ, zN_uA, zN_uB, zN_uR, zN_uN, zI_ne, zJ_ne, zA_ne, zB_ne, zR_ne, zN_ne, bi_T, bi_F, nz16, ↓reduceIte, not_true_eq_false, not_false_eq_true, Bool.false_eq_true, reduceCtorEq, hs, h1, h2.1]
def Sh (τ : St) (T : List Tk) : Sx → Prop
  | .inl p => Fh τ p
  | .inr R => Ch τ T R ∧ gT R
theorem s_needs_h {τ : St} {T : List Tk} {x : Sx} {v : Nat} (h : Sh τ T x) (hv : v < 256) : ∃ υ, fX5_needs_h τ (nI v) = some υ ∧ Sh υ T (nd v x) ∧ FR [] [] [9, 10] [] τ υ := by
  cases x with
  | inl p => exact ⟨τ, c_needsF_h h (by omega), h, FR.rf _ _ _ _ _⟩
  | inr R =>
    obtain ⟨h, hg⟩ := h
    cases R with
    | nil => exact absurd hg (fun h => h)
    | cons t R =>
      rcases c_needs_h h hg.1 hg.2.1 (show v < 1000 by omega) with ⟨e, k, h1, h2⟩ | ⟨e, h1, h2⟩
      · refine ⟨_, h1, ?_, FR.uI (FR.rf _ _ _ _ _) (by decide)⟩
        have e2 : nd v (.inr (t :: R)) = .inr R := if_pos e
        rw [e2]
        exact ⟨h2, gT_tail hg (by omega)⟩
      · refine ⟨_, h1, ?_, FR.uI (FR.rf _ _ _ _ _) (by decide)⟩
        have e2 : nd v (.inr (t :: R)) = .inl t.2 := if_neg e
        rw [e2]
        exact h2
theorem s_takes_h {τ : St} {T : List Tk} {x : Sx} {v : Nat} (h : Sh τ T x) (hv : v < 256) : ∃ υ, fX5_takes_h τ (nI v) = some (tb v x, υ) ∧ Sh υ T (if tb v x = true then tlx x else x) ∧ FR [] [] [9, 10] [] τ υ := by
  cases x with
  | inl p => exact ⟨τ, c_takesF_h h (by omega), h, FR.rf _ _ _ _ _⟩
  | inr R =>
    obtain ⟨h, hg⟩ := h
    cases R with
    | nil => exact absurd hg (fun h => h)
    | cons t R =>
      rcases c_takes_h h hg.1 (show v < 1000 by omega) with ⟨e, k, h1, h2⟩ | ⟨e, h1⟩
      · refine ⟨uI τ 9 (nI k), ?_, ?_, FR.uI (FR.rf _ _ _ _ _) (by decide)⟩
        · have e2 : tb v (.inr (t :: R)) = true := decide_eq_true e
          rw [e2]
          exact h1
        · have e2 : tb v (.inr (t :: R)) = true := decide_eq_true e
          rw [if_pos e2]
          exact ⟨h2, gT_tail hg (by omega)⟩
      · refine ⟨τ, ?_, ?_, FR.rf _ _ _ _ _⟩
        · have e2 : tb v (.inr (t :: R)) = false := decide_eq_false e
          rw [e2]
          exact h1
        · have e2 : tb v (.inr (t :: R)) = false := decide_eq_false e
          rw [e2]
          exact ⟨h, hg⟩
theorem s_sign_h {τ : St} {T : List Tk} {x : Sx} (h : Sh τ T x) : fX5_sign_h τ = some (nI (sg x)) := by
  cases x with
  | inl p => exact c_signF_h h
  | inr R =>
    obtain ⟨h, hg⟩ := h
    cases R with
    | nil => exact absurd hg (fun h => h)
    | cons t R => exact c_sign_h h hg.1
theorem s_spoil_h {τ : St} {T : List Tk} {x : Sx} (h : Sh τ T x) : ∃ υ, fX5_spoil_h τ = some υ ∧ Sh υ T (slx x) ∧ FR [] [] [10] [] τ υ := by
  cases x with
  | inl p => exact ⟨τ, c_spoilF_h h, h, FR.rf _ _ _ _ _⟩
  | inr R =>
    obtain ⟨h, hg⟩ := h
    cases R with
    | nil => exact absurd hg (fun h => h)
    | cons t R =>
      obtain ⟨h1, h2⟩ := c_spoil_h h hg.2.1
      exact ⟨_, h1, h2, FR.uI (FR.rf _ _ _ _ _) (by decide)⟩
theorem s_step_h {τ : St} {T : List Tk} {R : List Tk} (h : Sh τ T (.inr R)) (hn : (hd R).1 ≠ 256) : ∃ υ, fX5_step_h τ = some υ ∧ Sh υ T (.inr R.tail) ∧ FR [] [] [9] [] τ υ := by
  obtain ⟨h, hg⟩ := h
  cases R with
  | nil => exact absurd hg (fun h => h)
  | cons t R =>
    obtain ⟨k, h1, h2⟩ := c_step_h h
    exact ⟨_, h1, ⟨h2, gT_tail hg hn⟩, FR.uI (FR.rf _ _ _ _ _) (by decide)⟩
theorem Sh.fr {σ τ : St} {T : List Tk} {x : Sx} {A B K N : List Nat} (h : Sh σ T x) (f : FR A B K N σ τ) (hA : 22 ∉ A) (hB : 21 ∉ B) (hK : ∀ q, q ∈ [9, 10] → q ∉ K) : Sh τ T x := by
  cases x with
  | inl p =>
    show zI τ 10 = nI p ∧ p < 1000
    rw [f.2.2.1 10 (hK 10 (by decide))]
    exact h
  | inr R => exact ⟨h.1.fr f hA hB hK, h.2⟩
/-- what the reader says in the end -/
theorem s_end_h {τ : St} {T : List Tk} {x : Sx} (h : Sh τ T x) : ∃ υ, ((fX5_sign_h τ).bind fun x4 => if x4 = (256 : Int32) then (some ((zI τ 10), τ)) else ((fX5_spoil_h τ).bind fun s5 => some ((zI s5 10), s5))) = some (fx x, υ) ∧ FR [] [] [10] [] τ υ := by
  have hs := s_sign_h h
  obtain ⟨υ, h1, h2, h3⟩ := s_spoil_h h
  cases x with
  | inl p =>
    refine ⟨υ, ?_, h3⟩
    have h2 : Fh υ p := h2
    have e : sg (.inl p) = 257 := rfl
    rw [e] at hs
    have e2 : fx (.inl p) = nI p := rfl
    rw [e2]
    simp (disch := omega) only [l0, l1, l2, l3, l4, l5, l6, l7, l8, l9, l10, l11, l12, l16, l18, l19, l20, l21, l24, l96, l128, l100, l144, l200, l256, l288, l1536, l1728, l1800, bnd, nI_add, pk_mul, pI_sub, pI_m1, pT_le, pF_le, pT_lt, pF_lt, pT_eq, pF_eq, pF_m1, mF_eq, mT_eq, mT_lt, mF_le, lm1, rd_nI, wr_nI, cl_nI, pk_us, un_ne, pk_uLs, uL_ne, zI_uI, zI_uJ, zI_uA, zI_uB, zI_uR, zI_uN, zJ_uI, zJ_uJ, zJ_uA, zJ_uB, zJ_uR, zJ_uN, zA_uI, zA_uJ, zA_uA, zA_uB, zA_uR, zA_uN, zB_uI, zB_uJ, zB_uA, zB_uB, zB_uR, zB_uN, zR_uI, zR_uJ, zR_uA, zR_uB, zR_uR, zR_uN, zN_uI, zN_uJ, zN_uA, zN_uB, zN_uR, zN_uN, zI_ne, zJ_ne, zA_ne, zB_ne, zR_ne, zN_ne, bi_T, bi_F, nz16, ↓reduceIte, not_true_eq_false, not_false_eq_true, Bool.false_eq_true, reduceCtorEq, hs, h1, h2.1]
  | inr R =>
    have hc := h.1.2.1
    by_cases he : (hd R).1 = 256
    · refine ⟨τ, ?_, FR.rf _ _ _ _ _⟩
      have e : sg (.inr R) = 256 := by show (if (hd R).1 < 1000 then _ else _) = _; rw [he]; rfl
      have e2 : fx (.inr R) = mI := if_pos he
      rw [e] at hs
      rw [e2]
      simp (disch := omega) only [l0, l1, l2, l3, l4, l5, l6, l7, l8, l9, l10, l11, l12, l16, l18, l19, l20, l21, l24, l96, l128, l100, l144, l200, l256, l288, l1536, l1728, l1800, bnd, nI_add, pk_mul, pI_sub, pI_m1, pT_le, pF_le, pT_lt, pF_lt, pT_eq, pF_eq, pF_m1, mF_eq, mT_eq, mT_lt, mF_le, lm1, rd_nI, wr_nI, cl_nI, pk_us, un_ne, pk_uLs, uL_ne, zI_uI, zI_uJ, zI_uA, zI_uB, zI_uR, zI_uN, zJ_uI, zJ_uJ, zJ_uA, zJ_uB, zJ_uR, zJ_uN, zA_uI, zA_uJ, zA_uA, zA_uB, zA_uR, zA_uN, zB_uI, zB_uJ, zB_uA, zB_uB, zB_uR, zB_uN, zR_uI, zR_uJ, zR_uA, zR_uB, zR_uR, zR_uN, zN_uI, zN_uJ, zN_uA, zN_uB, zN_uR, zN_uN, zI_ne, zJ_ne, zA_ne, zB_ne, zR_ne, zN_ne, bi_T, bi_F, nz16, ↓reduceIte, not_true_eq_false, not_false_eq_true, Bool.false_eq_true, reduceCtorEq, hs, hc]
    · refine ⟨υ, ?_, h3⟩
      have e : sg (.inr R) ≠ 256 := by show (if (hd R).1 < 1000 then _ else _) ≠ _; split <;> omega
      have e3 : sg (.inr R) < 2147483648 := by show (if (hd R).1 < 1000 then _ else _) < _; split <;> omega
      have e2 : fx (.inr R) = nI (hd R).2 := if_neg he
      have h2 : Fh υ (hd R).2 := h2
      rw [e2]
      generalize sg (.inr R) = y at *
      simp (disch := omega) only [l0, l1, l2, l3, l4, l5, l6, l7, l8, l9, l10, l11, l12, l16, l18, l19, l20, l21, l24, l96, l128, l100, l144, l200, l256, l288, l1536, l1728, l1800, bnd, nI_add, pk_mul, pI_sub, pI_m1, pT_le, pF_le, pT_lt, pF_lt, pT_eq, pF_eq, pF_m1, mF_eq, mT_eq, mT_lt, mF_le, lm1, rd_nI, wr_nI, cl_nI, pk_us, un_ne, pk_uLs, uL_ne, zI_uI, zI_uJ, zI_uA, zI_uB, zI_uR, zI_uN, zJ_uI, zJ_uJ, zJ_uA, zJ_uB, zJ_uR, zJ_uN, zA_uI, zA_uJ, zA_uA, zA_uB, zA_uR, zA_uN, zB_uI, zB_uJ, zB_uA, zB_uB, zB_uR, zB_uN, zR_uI, zR_uJ, zR_uA, zR_uB, zR_uR, zR_uN, zN_uI, zN_uJ, zN_uA, zN_uB, zN_uR, zN_uN, zI_ne, zJ_ne, zA_ne, zB_ne, zR_ne, zN_ne, bi_T, bi_F, nz16, ↓reduceIte, not_true_eq_false, not_false_eq_true, Bool.false_eq_true, reduceCtorEq, hs, h1, h2.1]
