/-! the model reads a habit: looks, atoms, terms, sums *-/
def flt (x : Sx) (f : Nat) : Prop := x = .inl f ∨ ∃ R, x = .inr ((257, f) :: R)
def MG (σ : St) (q b0 : Nat) (bs : List Nat) (x : Sx) : Prop := ∃ p, MX σ q b0 bs p ∧ x = .inr (tkR Jh 4 gh bs p)
def MB (σ : St) (x : Sx) : Prop := ∃ f, flt x f ∧ zI σ 38 = nI f ∧ f < 1000
def HM (σ υ : St) : Prop := FR [] [] [37, 38, 39] [] σ υ
theorem flt_sg {x : Sx} {f : Nat} (h : flt x f) : sg x = 257 := by
  rcases h with h | ⟨R, h⟩
  · rw [h]; rfl
  · rw [h]; rfl
theorem flt_nd {x : Sx} {f v : Nat} (h : flt x f) (hv : v ≠ 257) : flt (nd v x) f := by
  rcases h with h | ⟨R, h⟩
  · rw [h]; exact .inl rfl
  · rw [h]
    exact .inl (if_neg (fun e => hv e.symm))
theorem flt_sl {x : Sx} {f : Nat} (h : flt x f) : flt (slx x) f := by
  rcases h with h | ⟨R, h⟩
  · rw [h]; exact .inl rfl
  · rw [h]; exact .inl rfl
theorem flt_fx {x : Sx} {f : Nat} (h : flt x f) : fx x = nI f := by
  rcases h with h | ⟨R, h⟩
  · rw [h]; rfl
  · rw [h]; rfl
theorem MB.m1 {σ : St} {x : Sx} (h : MB σ x) : ¬ zI σ 38 = mI := by
  obtain ⟨f, _, h2, h3⟩ := h
  rw [h2, pF_m1 (by omega)]
  exact fun h => h
theorem MG.m1 {σ : St} {q b0 : Nat} {bs : List Nat} {x : Sx} (h : MG σ q b0 bs x) : zI σ 38 = mI := by
  obtain ⟨p, h, _⟩ := h
  exact h.2.2.2.2.2.1
theorem gX_1 {x : Sx} (h : gX 1 x) : sg x = 256 ∨ sg x = 257 := by
  cases x with
  | inl p => exact .inr rfl
  | inr R =>
    obtain ⟨h1, h2, h3⟩ := h
    cases R with
    | nil => exact absurd h1 (fun h => h)
    | cons t R =>
      cases R with
      | nil =>
        left
        have ht : t.1 = 256 := by
          rcases h1.2.2 with h | h
          · exact h.2
          · exact absurd h (fun h => h)
        show (if t.1 < 1000 then t.1 else 1000) = 256
        rw [ht]
        rfl
      | cons u R =>
        simp only [List.length_cons] at h3
        omega
/-- look, told by the token that stands here -/
theorem m_lookS {σ : St} {q b0 : Nat} {bs : List Nat} {x : Sx} (h : MG σ q b0 bs x) : ∃ p υ, MX υ q b0 bs p ∧ x = .inr (tkR Jh 4 gh bs p) ∧ (p < bs.length → bs.getD p 0 ≠ 32) ∧ FR [] [] [37] [] σ υ ∧ fX12_look σ = some (lk bs p, υ) := by
  obtain ⟨p0, h1, h2⟩ := h
  obtain ⟨p, υ, g1, g2, g3, g4, g5, g6, g7⟩ := m_look h1
  exact ⟨p, υ, g4, by rw [h2, g6 Jh 4 gh (by decide)], g5, g3, g7⟩
theorem lk_sg {σ : St} {q b0 p v : Nat} {bs : List Nat} (hM : MX σ q b0 bs p) (h32 : p < bs.length → bs.getD p 0 ≠ 32) (hv : v < 256) (hj : Jh v = false) : (lk bs p = nI v) ↔ sg (.inr (tkR Jh 4 gh bs p)) = v := by
  have hb := hM.2.2.2.2.2.2.2.2.2
  have hp := hM.2.2.2.2.2.2.2.1
  rw [lk_tok (J := Jh) (M := 4) (gr := gh) hb hp h32 hv hj]
  show _ ↔ (if (hd (tkR Jh 4 gh bs p)).1 < 1000 then (hd (tkR Jh 4 gh bs p)).1 else 1000) = v
  split <;> omega
/-- a sign at a place: what stands behind it -/
theorem sg_next {σ : St} {q b0 p : Nat} {bs : List Nat} (hM : MX σ q b0 bs p) (h32 : p < bs.length → bs.getD p 0 ≠ 32) (hs : sg (.inr (tkR Jh 4 gh bs p)) < 256) : p < bs.length ∧ sg (.inr (tkR Jh 4 gh bs p)) = bs.getD p 0 ∧ Jh (bs.getD p 0) = false ∧ tlx (.inr (tkR Jh 4 gh bs p)) = .inr (tkR Jh 4 gh bs (p + 1)) ∧ MX (uI σ 37 (nI (p + 1))) q b0 bs (p + 1) := by
  have hp := hM.2.2.2.2.2.2.2.1
  obtain ⟨h1, h2⟩ := tk_head (J := Jh) (M := 4) (gr := gh) hp h32
  have hs : (if (hd (tkR Jh 4 gh bs p)).1 < 1000 then (hd (tkR Jh 4 gh bs p)).1 else 1000) < 256 := hs
  rcases h2 with ⟨h3, h4⟩ | ⟨h3, h4, h5⟩ | ⟨h3, h4, h5⟩
  · rw [h4] at hs
    exact absurd hs (by decide)
  · rw [if_neg (by omega)] at hs
    exact absurd hs (by decide)
  · have hb := (hM.2.2.2.2.2.2.2.2.2 _ (getD_mem (d := 0) h3)).2
    refine ⟨h3, ?_, h4, ?_, hM.at (by omega)⟩
    · show (if (hd (tkR Jh 4 gh bs p)).1 < 1000 then (hd (tkR Jh 4 gh bs p)).1 else 1000) = _
      rw [h5]
      show (if bs.getD p 0 < 1000 then bs.getD p 0 else 1000) = _
      rw [if_pos (by omega)]
    · show Sum.inr (tkR Jh 4 gh bs p).tail = _
      rw [h5]
      rfl
theorem m_failS {σ : St} {q b0 p : Nat} {bs : List Nat} (hM : MX σ q b0 bs p) (h32 : p < bs.length → bs.getD p 0 ≠ 32) : fX12_fails σ = some (false, uI σ 38 (nI p)) ∧ MB (uI σ 38 (nI p)) (slx (.inr (tkR Jh 4 gh bs p))) := by
  have hp := hM.2.2.2.2.2.2.2.1
  have h200 := hM.2.2.2.2.2.2.2.2.1
  obtain ⟨h1, _⟩ := tk_head (J := Jh) (M := 4) (gr := gh) hp h32
  refine ⟨m_fails hM, p, .inl ?_, by rw [zI_uI], by omega⟩
  show Sum.inl (hd (tkR Jh 4 gh bs p)).2 = _
  rw [h1]
/-- takes, told by tokens -/
theorem m_takesS {σ : St} {q b0 v : Nat} {bs : List Nat} {x : Sx} (h : MG σ q b0 bs x) (hv : v < 256) (hj : Jh v = false) : (tb v x = true ∧ ∃ υ, fX12_takes σ (nI v) = some (true, υ) ∧ MG υ q b0 bs (nd v x) ∧ FR [] [] [37] [] σ υ) ∨ (tb v x = false ∧ ∃ υ, fX12_takes σ (nI v) = some (false, υ) ∧ MB υ (nd v x) ∧ HM σ υ) := by
  obtain ⟨p, h1, h2⟩ := h
  rcases m_takes (J := Jh) (M := 4) (gr := gh) h1 hv hj (by decide) with ⟨e, p', υ, a1, a2, a3, a4, a5⟩ | ⟨e, υ, a1, a2, a3, a4⟩
  · left
    refine ⟨by rw [h2]; exact decide_eq_true e, υ, a5, ⟨p', a2, ?_⟩, a1⟩
    rw [h2]
    show (if (hd (tkR Jh 4 gh bs p)).1 = v then _ else _) = _
    rw [if_pos e, a3]
  · right
    refine ⟨by rw [h2]; exact decide_eq_false e, υ, a4, ⟨_, .inl ?_, a2, a3⟩, a1.mono (by decide) (by decide) (by decide) (by decide)⟩
    rw [h2]
    show (if (hd (tkR Jh 4 gh bs p)).1 = v then _ else _) = _
    rw [if_neg e]
theorem m_takesB {σ : St} {x : Sx} {c : Int32} {v : Nat} (h : MB σ x) (hv : v ≠ 257) : fX12_takes σ c = some (false, σ) ∧ MB σ (nd v x) := by
  obtain ⟨f, h1, h2, h3⟩ := h
  exact ⟨m_takesF h2 h3, f, flt_nd h1 hv, h2, h3⟩
/-! letters -/
theorem ln201 : fJ0_length_8abf5_201 = some (nI 5) := by decide
theorem ch201 : ∀ k, k < 5 → fJ0_charAt_5068e_201 (nI k) = some (nI ([110, 118, 102, 108, 119].getD k 0)) := by decide
def isA (s : Nat) : Bool := decide (s = 110 ∨ s = 118 ∨ s = 102 ∨ s = 108 ∨ s = 119)
theorem am201 {s : Nat} (hs : s < 1000) : fX12_isAmong_201 (nI s) = some (isA s) := by
  have key := it_for (β := Unit) (body := fun (kb : Int32 → Option Bool) (t : Int32) => fX12_isAmong_201_L2 (nI s) (fun v2 => kb v2) t) 5 (by omega) (fun k _ => nI k) (fun k _ => ∀ j, j < k → s ≠ [110, 118, 102, 108, 119].getD j 0) (fun _ _ z => z = some (isA s)) ?_ 0 () (Nat.zero_le _) (fun j hj => absurd hj (Nat.not_lt_zero _))
  · exact key
  · intro k _ hk hno kb hkb
    show fX12_isAmong_201_L2 (nI s) (fun v2 => kb v2) (nI k) = _
    unfold fX12_isAmong_201_L2
    rw [ln201, bnd]
    by_cases h5 : k = 5
    · rw [h5, if_pos (by rw [pT_le (Nat.le_refl _) (by decide)]; trivial)]
      rw [h5] at hno
      have n0 := hno 0 (by decide)
      have n1 := hno 1 (by decide)
      have n2 := hno 2 (by decide)
      have n3 := hno 3 (by decide)
      have n4 := hno 4 (by decide)
      unfold isA
      rw [decide_eq_false]
      intro h
      rcases h with h | h | h | h | h
      · exact n0 h
      · exact n1 h
      · exact n2 h
      · exact n3 h
      · exact n4 h
    · have hk5 : k < 5 := by omega
      rw [if_neg (by rw [pF_le (by omega) (by omega)]; exact fun h => h), ch201 k hk5, bnd]
      have hlt : ∀ k, k < 5 → [110, 118, 102, 108, 119].getD k 0 < 1000 ∧ isA ([110, 118, 102, 108, 119].getD k 0) = true := by decide
      by_cases e : s = [110, 118, 102, 108, 119].getD k 0
      · rw [if_pos (by rw [e]), e, (hlt k hk5).2]
      · rw [if_neg (fun x => e ((nI_eq (by have := (hlt k hk5).1; omega) (by omega)).mp x).symm), l1, nI_add]
        exact hkb () hk5 (fun j hj => by
          by_cases ej : j = k
          · rw [ej]; exact e
          · exact hno j (by omega))
theorem am201m : fX12_isAmong_201 mI = some false := by
  have key := it_for (β := Unit) (body := fun (kb : Int32 → Option Bool) (t : Int32) => fX12_isAmong_201_L2 mI (fun v2 => kb v2) t) 5 (by omega) (fun k _ => nI k) (fun _ _ => True) (fun _ _ z => z = some false) ?_ 0 () (Nat.zero_le _) trivial
  · exact key
  · intro k _ hk _ kb hkb
    show fX12_isAmong_201_L2 mI (fun v2 => kb v2) (nI k) = _
    unfold fX12_isAmong_201_L2
    rw [ln201, bnd]
    by_cases h5 : k = 5
    · rw [h5, if_pos (by rw [pT_le (Nat.le_refl _) (by decide)]; trivial)]
    · have hk5 : k < 5 := by omega
      have hlt : ∀ k, k < 5 → [110, 118, 102, 108, 119].getD k 0 < 1000 := by decide
      rw [if_neg (by rw [pF_le (by omega) (by omega)]; exact fun h => h), ch201 k hk5, bnd, if_neg (fun x => by rw [pF_m1 (by have := hlt k hk5; omega)] at x; exact x), l1, nI_add]
      exact hkb () hk5 trivial
theorem ev_isA {n v f l w s : Nat} : isA s = true ↔ ∃ z, evS n v f l w s = some z := by
  unfold isA evS
  rw [decide_eq_true_iff]
  refine ⟨fun h => ?_, fun ⟨z, h⟩ => ?_⟩
  · rcases h with h | h | h | h | h <;> rw [h] <;> exact ⟨_, rfl⟩
  · split at h
    · omega
    · split at h
      · omega
      · split at h
        · omega
        · split at h
          · omega
          · split at h
            · omega
            · cases h
