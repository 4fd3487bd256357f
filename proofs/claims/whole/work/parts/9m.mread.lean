/-! the model reads: places in a text, words *-/
def MX (σ : St) (q b0 : Nat) (bs : List Nat) (p : Nat) : Prop := zR σ 3 = q ∧ ((q = 55 ∧ b0 + bs.length ≤ 200) ∨ (q = 57 ∧ b0 + bs.length ≤ 800)) ∧ zI σ 35 = nI b0 ∧ zI σ 36 = nI bs.length ∧ zI σ 37 = nI p ∧ zI σ 38 = mI ∧ (∀ j, j < bs.length → zA σ q (b0 + j) = sbv (bs.getD j 0)) ∧ p ≤ bs.length ∧ bs.length ≤ 200 ∧ ∀ b, b ∈ bs → 1 ≤ b ∧ b < 256
theorem MX.fr {σ τ : St} {q b0 p : Nat} {bs : List Nat} {A B K N : List Nat} (h : MX σ q b0 bs p) (f : FR A B K N σ τ) (hA : q ∉ A) (hK : ∀ k, k ∈ [35, 36, 37, 38] → k ∉ K) : MX τ q b0 bs p := by
  unfold MX
  rw [f.2.2.2.2, f.2.2.1 35 (hK 35 (by decide)), f.2.2.1 36 (hK 36 (by decide)), f.2.2.1 37 (hK 37 (by decide)), f.2.2.1 38 (hK 38 (by decide)), f.1 q hA]
  exact h
theorem MX.at {σ : St} {q b0 p p' : Nat} {bs : List Nat} (h : MX σ q b0 bs p) (hp : p' ≤ bs.length) : MX (uI σ 37 (nI p')) q b0 bs p' := by
  obtain ⟨h1, h2, h3, h4, h5, h6, h7, h8, h9⟩ := h
  refine ⟨h1, h2, ?_, ?_, ?_, ?_, h7, hp, h9⟩
  · rw [zI_ne (by decide)]; exact h3
  · rw [zI_ne (by decide)]; exact h4
  · rw [zI_uI]
  · rw [zI_ne (by decide)]; exact h6
theorem MX.rd {σ : St} {q b0 p : Nat} {bs : List Nat} (h : MX σ q b0 bs p) (hp : p < bs.length) : rd (zA σ (zR σ 3)) (lenY (zR σ 3)) (nI (b0 + p)) = some (sbv (bs.getD p 0)) := by
  obtain ⟨h1, h2, h3, h4, h5, h6, h7, h8, h9⟩ := h
  rw [h1]
  have h10 := h7 p hp
  rcases h2 with ⟨hq, h2⟩ | ⟨hq, h2⟩
  · rw [hq] at h10 ⊢
    rw [show lenY 55 = 200 from rfl, rd_nI (by omega) (by omega), h10]
  · rw [hq] at h10 ⊢
    rw [show lenY 57 = 800 from rfl, rd_nI (by omega) (by omega), h10]
theorem sbv_32 : ∀ b, b < 256 → ((sbv b = nI 32) ↔ b = 32) := by decide +kernel
theorem sbv_let : ∀ b, b < 256 → ((¬ sbv b < nI 97 ∧ ¬ nI 122 < sbv b) ↔ (97 ≤ b ∧ b ≤ 122)) := by decide +kernel
/-- what look sees at a place -/
def lk (bs : List Nat) (p : Nat) : Int32 := if p < bs.length then nI (bs.getD p 0) else mI
theorem m_look {σ : St} {q b0 p : Nat} {bs : List Nat} (h : MX σ q b0 bs p) : ∃ p' υ, p ≤ p' ∧ p' ≤ bs.length ∧ FR [] [] [37] [] σ υ ∧ MX υ q b0 bs p' ∧ (p' < bs.length → bs.getD p' 0 ≠ 32) ∧ (∀ J M gr, J 32 = false → tkR J M gr bs p = tkR J M gr bs p') ∧ fX12_look σ = some (lk bs p', υ) := by
  have hpn := h.2.2.2.2.2.2.2.1
  have h200 := h.2.2.2.2.2.2.2.2.1
  have key := it_for (β := St) (body := fun (kb : St → Option (Int32 × St)) (t : St) => fX12_look_L0 (fun s3 => if (zI s3 36) ≤ (zI s3 37) then (some ((-1 : Int32), s3))
  else ((rd (zA s3 (zR s3 3)) (lenY (zR s3 3)) ((zI s3 35) + (zI s3 37))).bind fun x4 => some ((x4 &&& (255 : Int32)), s3))) (fun σ => kb σ) t) bs.length (by omega) (fun _ τ => τ) (fun i τ => p ≤ i ∧ FR [] [] [37] [] σ τ ∧ MX τ q b0 bs i ∧ ∀ J M gr, J 32 = false → tkR J M gr bs p = tkR J M gr bs i) (fun i τ z => ∃ p' υ, p ≤ p' ∧ p' ≤ bs.length ∧ FR [] [] [37] [] σ υ ∧ MX υ q b0 bs p' ∧ (p' < bs.length → bs.getD p' 0 ≠ 32) ∧ (∀ J M gr, J 32 = false → tkR J M gr bs p = tkR J M gr bs p') ∧ z = some (lk bs p', υ)) ?_ p σ hpn ⟨Nat.le_refl _, FR.rf _ _ _ _ _, h, fun _ _ _ _ => rfl⟩
  · exact key
  · rintro i τ hi ⟨hpi, hF, hM, hT⟩ kb hkb
    show ∃ p' υ, _ ∧ _ ∧ _ ∧ _ ∧ _ ∧ _ ∧ fX12_look_L0 _ (fun σ => kb σ) τ = _
    have h35 := hM.2.2.1
    have h36 := hM.2.2.2.1
    have h37 := hM.2.2.2.2.1
    unfold fX12_look_L0
    by_cases hie : i = bs.length
    · refine ⟨i, τ, hpi, hi, hF, hM, fun x => by omega, hT, ?_⟩
      have e : lk bs i = mI := if_neg (by omega)
      rw [e]
      simp (disch := omega) only [l0, l1, l2, l3, l4, l5, l6, l7, l8, l9, l10, l11, l12, l16, l18, l19, l20, l21, l24, l96, l128, l100, l144, l200, l256, l288, l1536, l1728, l1800, bnd, nI_add, pk_mul, pI_sub, pI_m1, pT_le, pF_le, pT_lt, pF_lt, pT_eq, pF_eq, pF_m1, mF_eq, mT_eq, mT_lt, mF_le, lm1, rd_nI, wr_nI, cl_nI, pk_us, un_ne, pk_uLs, uL_ne, zI_uI, zI_uJ, zI_uA, zI_uB, zI_uR, zI_uN, zJ_uI, zJ_uJ, zJ_uA, zJ_uB, zJ_uR, zJ_uN, zA_uI, zA_uJ, zA_uA, zA_uB, zA_uR, zA_uN, zB_uI, zB_uJ, zB_uA, zB_uB, zB_uR, zB_uN, zR_uI, zR_uJ, zR_uA, zR_uB, zR_uR, zR_uN, zN_uI, zN_uJ, zN_uA, zN_uB, zN_uR, zN_uN, zI_ne, zJ_ne, zA_ne, zB_ne, zR_ne, zN_ne, bi_T, bi_F, nz16, ↓reduceIte, not_true_eq_false, not_false_eq_true, Bool.false_eq_true, reduceCtorEq, h36, h37, hie]
    · have hil : i < bs.length := by omega
      have hrd := hM.rd hil
      have hbb := hM.2.2.2.2.2.2.2.2.2 _ (getD_mem (d := 0) hil)
      have h32 := sbv_32 _ hbb.2
      have h255 := sbv_and _ hbb.2
      by_cases hb : bs.getD i 0 = 32
      · obtain ⟨p', υ, h1, h2, h3, h4, h5, h6, h7⟩ := hkb (uI τ 37 (nI (i + 1))) hil ⟨by omega, FR.uI hF (by decide), hM.at (by omega), fun J M gr hj => by
          rw [hT J M gr hj]
          exact tkR_blank hil hj hb⟩
        refine ⟨p', υ, h1, h2, h3, h4, h5, h6, ?_⟩
        rw [← h7]
        have hb2 := h32.mpr hb
        simp (disch := omega) only [l0, l1, l2, l3, l4, l5, l6, l7, l8, l9, l10, l11, l12, l16, l18, l19, l20, l21, l24, l96, l128, l100, l144, l200, l256, l288, l1536, l1728, l1800, bnd, nI_add, pk_mul, pI_sub, pI_m1, pT_le, pF_le, pT_lt, pF_lt, pT_eq, pF_eq, pF_m1, mF_eq, mT_eq, mT_lt, mF_le, lm1, rd_nI, wr_nI, cl_nI, pk_us, un_ne, pk_uLs, uL_ne, zI_uI, zI_uJ, zI_uA, zI_uB, zI_uR, zI_uN, zJ_uI, zJ_uJ, zJ_uA, zJ_uB, zJ_uR, zJ_uN, zA_uI, zA_uJ, zA_uA, zA_uB, zA_uR, zA_uN, zB_uI, zB_uJ, zB_uA, zB_uB, zB_uR, zB_uN, zR_uI, zR_uJ, zR_uA, zR_uB, zR_uR, zR_uN, zN_uI, zN_uJ, zN_uA, zN_uB, zN_uR, zN_uN, zI_ne, zJ_ne, zA_ne, zB_ne, zR_ne, zN_ne, bi_T, bi_F, nz16, ↓reduceIte, not_true_eq_false, not_false_eq_true, Bool.false_eq_true, reduceCtorEq, h36, h37, h35, hrd, l32, if_pos hb2]
      · refine ⟨i, τ, hpi, hi, hF, hM, fun _ => hb, hT, ?_⟩
        have e : lk bs i = nI (bs.getD i 0) := if_pos hil
        rw [e]
        have hb2 : ¬ sbv (bs.getD i 0) = nI 32 := fun x => hb (h32.mp x)
        simp (disch := omega) only [l0, l1, l2, l3, l4, l5, l6, l7, l8, l9, l10, l11, l12, l16, l18, l19, l20, l21, l24, l96, l128, l100, l144, l200, l256, l288, l1536, l1728, l1800, bnd, nI_add, pk_mul, pI_sub, pI_m1, pT_le, pF_le, pT_lt, pF_lt, pT_eq, pF_eq, pF_m1, mF_eq, mT_eq, mT_lt, mF_le, lm1, rd_nI, wr_nI, cl_nI, pk_us, un_ne, pk_uLs, uL_ne, zI_uI, zI_uJ, zI_uA, zI_uB, zI_uR, zI_uN, zJ_uI, zJ_uJ, zJ_uA, zJ_uB, zJ_uR, zJ_uN, zA_uI, zA_uJ, zA_uA, zA_uB, zA_uR, zA_uN, zB_uI, zB_uJ, zB_uA, zB_uB, zB_uR, zB_uN, zR_uI, zR_uJ, zR_uA, zR_uB, zR_uR, zR_uN, zN_uI, zN_uJ, zN_uA, zN_uB, zN_uR, zN_uN, zI_ne, zJ_ne, zA_ne, zB_ne, zR_ne, zN_ne, bi_T, bi_F, nz16, ↓reduceIte, not_true_eq_false, not_false_eq_true, Bool.false_eq_true, reduceCtorEq, h36, h37, h35, hrd, l32, if_neg hb2]
        rw [h255]
theorem tkW_hd {J : Nat → Bool} {M : Nat} {gr : Nat → Nat → Nat} {bs : List Nat} : ∀ (d p r v s : Nat), bs.length - p = d → ∃ v' R, tkW J M gr bs p r v s = (1000 + v', s) :: R
  | 0, p, r, v, s, h => ⟨v, _, tkW_end (by omega)⟩
  | d + 1, p, r, v, s, h => by
    cases hj : J (bs.getD p 0) with
    | true =>
      by_cases hr : r < M
      · obtain ⟨v', R, e⟩ := tkW_hd (J := J) (M := M) (gr := gr) (bs := bs) d (p + 1) (r + 1) (gr v (bs.getD p 0)) s (by omega)
        exact ⟨v', R, (tkW_join (by omega) hj hr).trans e⟩
      · obtain ⟨R, e⟩ := tkW_over (v := v) (s := s) (M := M) (gr := gr) (show p < bs.length by omega) hj hr
        exact ⟨v, _, e⟩
    | false => exact ⟨v, _, tkW_stop (by omega) hj⟩
/-- the token that stands at a place -/
theorem tk_head {J : Nat → Bool} {M : Nat} {gr : Nat → Nat → Nat} {bs : List Nat} {p : Nat} (hp : p ≤ bs.length) (h32 : p < bs.length → bs.getD p 0 ≠ 32) : (hd (tkR J M gr bs p)).2 = p ∧ ((p = bs.length ∧ (hd (tkR J M gr bs p)).1 = 256) ∨ (p < bs.length ∧ J (bs.getD p 0) = true ∧ 1000 ≤ (hd (tkR J M gr bs p)).1) ∨ (p < bs.length ∧ J (bs.getD p 0) = false ∧ tkR J M gr bs p = (bs.getD p 0, p) :: tkR J M gr bs (p + 1))) := by
  by_cases h : p = bs.length
  · rw [tkR_end (by omega)]
    exact ⟨h.symm, .inl ⟨h, rfl⟩⟩
  · have hl : p < bs.length := by omega
    cases hj : J (bs.getD p 0) with
    | true =>
      obtain ⟨v', R, e⟩ := tkW_hd (J := J) (M := M) (gr := gr) (bs := bs) _ (p + 1) 1 (gr 0 (bs.getD p 0)) p rfl
      rw [tkR_join hl hj, e]
      exact ⟨rfl, .inr (.inl ⟨hl, rfl, Nat.le_add_right _ _⟩)⟩
    | false =>
      have e := tkR_sign (M := M) (gr := gr) hl hj (h32 hl)
      rw [e]
      exact ⟨rfl, .inr (.inr ⟨hl, rfl, rfl⟩)⟩
/-- what look sees is the token -/
theorem lk_tok {J : Nat → Bool} {M : Nat} {gr : Nat → Nat → Nat} {bs : List Nat} {p v : Nat} (hb : ∀ b, b ∈ bs → 1 ≤ b ∧ b < 256) (hp : p ≤ bs.length) (h32 : p < bs.length → bs.getD p 0 ≠ 32) (hv : v < 256) (hj : J v = false) : (lk bs p = nI v) ↔ (hd (tkR J M gr bs p)).1 = v := by
  obtain ⟨_, h⟩ := tk_head (J := J) (M := M) (gr := gr) hp h32
  rcases h with ⟨h1, h2⟩ | ⟨h1, h2, h3⟩ | ⟨h1, h2, h3⟩
  · have e : lk bs p = mI := if_neg (by omega)
    rw [e, h2]
    refine ⟨fun x => ?_, fun x => by omega⟩
    rw [mF_eq (by omega)] at x
    exact x.elim
  · have e : lk bs p = nI (bs.getD p 0) := if_pos h1
    have hbb := hb _ (getD_mem (d := 0) h1)
    rw [e]
    refine ⟨fun x => ?_, fun x => by omega⟩
    have := (nI_eq (by omega) (by omega)).mp x
    rw [this, hj] at h2
    cases h2
  · have e : lk bs p = nI (bs.getD p 0) := if_pos h1
    have hbb := hb _ (getD_mem (d := 0) h1)
    rw [e, h3]
    exact nI_eq (by omega) (by omega)
theorem m_fails {σ : St} {q b0 p : Nat} {bs : List Nat} (h : MX σ q b0 bs p) : fX12_fails σ = some (false, uI σ 38 (nI p)) := by
  unfold fX12_fails
  rw [h.2.2.2.2.1]
  simp (disch := omega) only [l0, l1, l2, l3, l4, l5, l6, l7, l8, l9, l10, l11, l12, l16, l18, l19, l20, l21, l24, l96, l128, l100, l144, l200, l256, l288, l1536, l1728, l1800, bnd, nI_add, pk_mul, pI_sub, pI_m1, pT_le, pF_le, pT_lt, pF_lt, pT_eq, pF_eq, pF_m1, mF_eq, mT_eq, mT_lt, mF_le, lm1, rd_nI, wr_nI, cl_nI, pk_us, un_ne, pk_uLs, uL_ne, zI_uI, zI_uJ, zI_uA, zI_uB, zI_uR, zI_uN, zJ_uI, zJ_uJ, zJ_uA, zJ_uB, zJ_uR, zJ_uN, zA_uI, zA_uJ, zA_uA, zA_uB, zA_uR, zA_uN, zB_uI, zB_uJ, zB_uA, zB_uB, zB_uR, zB_uN, zR_uI, zR_uJ, zR_uA, zR_uB, zR_uR, zR_uN, zN_uI, zN_uJ, zN_uA, zN_uB, zN_uR, zN_uN, zI_ne, zJ_ne, zA_ne, zB_ne, zR_ne, zN_ne, bi_T, bi_F, nz16, ↓reduceIte, not_true_eq_false, not_false_eq_true, Bool.false_eq_true, reduceCtorEq, h.2.2.2.2.2.1, mI_eq]
theorem m_failsF {σ : St} {p : Nat} (h : zI σ 38 = nI p) (hp : p < 1000) : fX12_fails σ = some (false, σ) := by
  unfold fX12_fails
  simp (disch := omega) only [l0, l1, l2, l3, l4, l5, l6, l7, l8, l9, l10, l11, l12, l16, l18, l19, l20, l21, l24, l96, l128, l100, l144, l200, l256, l288, l1536, l1728, l1800, bnd, nI_add, pk_mul, pI_sub, pI_m1, pT_le, pF_le, pT_lt, pF_lt, pT_eq, pF_eq, pF_m1, mF_eq, mT_eq, mT_lt, mF_le, lm1, rd_nI, wr_nI, cl_nI, pk_us, un_ne, pk_uLs, uL_ne, zI_uI, zI_uJ, zI_uA, zI_uB, zI_uR, zI_uN, zJ_uI, zJ_uJ, zJ_uA, zJ_uB, zJ_uR, zJ_uN, zA_uI, zA_uJ, zA_uA, zA_uB, zA_uR, zA_uN, zB_uI, zB_uJ, zB_uA, zB_uB, zB_uR, zB_uN, zR_uI, zR_uJ, zR_uA, zR_uB, zR_uR, zR_uN, zN_uI, zN_uJ, zN_uA, zN_uB, zN_uR, zN_uN, zI_ne, zJ_ne, zA_ne, zB_ne, zR_ne, zN_ne, bi_T, bi_F, nz16, ↓reduceIte, not_true_eq_false, not_false_eq_true, Bool.false_eq_true, reduceCtorEq, h, mI_eq]
/-- takes: a sign that nothing joins -/
theorem m_takes {σ : St} {q b0 p v : Nat} {bs : List Nat} {J : Nat → Bool} {M : Nat} {gr : Nat → Nat → Nat} (h : MX σ q b0 bs p) (hv : v < 256) (hj : J v = false) (hj32 : J 32 = false) : ((hd (tkR J M gr bs p)).1 = v ∧ ∃ p' υ, FR [] [] [37] [] σ υ ∧ MX υ q b0 bs p' ∧ (tkR J M gr bs p).tail = tkR J M gr bs p' ∧ p < p' ∧ fX12_takes σ (nI v) = some (true, υ)) ∨ ((hd (tkR J M gr bs p)).1 ≠ v ∧ ∃ υ, FR [] [] [37, 38] [] σ υ ∧ zI υ 38 = nI (hd (tkR J M gr bs p)).2 ∧ (hd (tkR J M gr bs p)).2 < 1000 ∧ fX12_takes σ (nI v) = some (false, υ)) := by
  obtain ⟨p', υ, h1, h2, h3, h4, h5, h6, h7⟩ := m_look h
  have hb := h.2.2.2.2.2.2.2.2.2
  have h200 := h.2.2.2.2.2.2.2.2.1
  have h38 := h.2.2.2.2.2.1
  have hlk := lk_tok (J := J) (M := M) (gr := gr) hb h2 h5 hv hj
  have htk := tk_head (J := J) (M := M) (gr := gr) h2 h5
  have h37 := h4.2.2.2.2.1
  rw [h6 J M gr hj32]
  by_cases e : (hd (tkR J M gr bs p')).1 = v
  · left
    refine ⟨e, p' + 1, uI υ 37 (nI (p' + 1)), FR.uI h3 (by decide), ?_, ?_, by omega, ?_⟩
    · rcases htk.2 with ⟨h8, h9⟩ | ⟨h8, h9, h10⟩ | ⟨h8, h9, h10⟩
      · omega
      · omega
      · exact h4.at (by omega)
    · rcases htk.2 with ⟨h8, h9⟩ | ⟨h8, h9, h10⟩ | ⟨h8, h9, h10⟩
      · omega
      · omega
      · rw [h10]
        rfl
    · have e2 := hlk.mpr e
      unfold fX12_takes
      simp (disch := omega) only [l0, l1, l2, l3, l4, l5, l6, l7, l8, l9, l10, l11, l12, l16, l18, l19, l20, l21, l24, l96, l128, l100, l144, l200, l256, l288, l1536, l1728, l1800, bnd, nI_add, pk_mul, pI_sub, pI_m1, pT_le, pF_le, pT_lt, pF_lt, pT_eq, pF_eq, pF_m1, mF_eq, mT_eq, mT_lt, mF_le, lm1, rd_nI, wr_nI, cl_nI, pk_us, un_ne, pk_uLs, uL_ne, zI_uI, zI_uJ, zI_uA, zI_uB, zI_uR, zI_uN, zJ_uI, zJ_uJ, zJ_uA, zJ_uB, zJ_uR, zJ_uN, zA_uI, zA_uJ, zA_uA, zA_uB, zA_uR, zA_uN, zB_uI, zB_uJ, zB_uA, zB_uB, zB_uR, zB_uN, zR_uI, zR_uJ, zR_uA, zR_uB, zR_uR, zR_uN, zN_uI, zN_uJ, zN_uA, zN_uB, zN_uR, zN_uN, zI_ne, zJ_ne, zA_ne, zB_ne, zR_ne, zN_ne, bi_T, bi_F, nz16, ↓reduceIte, not_true_eq_false, not_false_eq_true, Bool.false_eq_true, reduceCtorEq, h38, mI_eq, h7, e2, h37]
  · right
    refine ⟨e, uI υ 38 (nI p'), FR.uI (h3.mono (by decide) (by decide) (by decide) (by decide)) (by decide), ?_, ?_, ?_⟩
    · rw [zI_uI, htk.1]
    · rw [htk.1]; omega
    · have hf := m_fails h4
      have e2 : ¬ lk bs p' = nI v := fun x => e (hlk.mp x)
      unfold fX12_takes
      simp (disch := omega) only [l0, l1, l2, l3, l4, l5, l6, l7, l8, l9, l10, l11, l12, l16, l18, l19, l20, l21, l24, l96, l128, l100, l144, l200, l256, l288, l1536, l1728, l1800, bnd, nI_add, pk_mul, pI_sub, pI_m1, pT_le, pF_le, pT_lt, pF_lt, pT_eq, pF_eq, pF_m1, mF_eq, mT_eq, mT_lt, mF_le, lm1, rd_nI, wr_nI, cl_nI, pk_us, un_ne, pk_uLs, uL_ne, zI_uI, zI_uJ, zI_uA, zI_uB, zI_uR, zI_uN, zJ_uI, zJ_uJ, zJ_uA, zJ_uB, zJ_uR, zJ_uN, zA_uI, zA_uJ, zA_uA, zA_uB, zA_uR, zA_uN, zB_uI, zB_uJ, zB_uA, zB_uB, zB_uR, zB_uN, zR_uI, zR_uJ, zR_uA, zR_uB, zR_uR, zR_uN, zN_uI, zN_uJ, zN_uA, zN_uB, zN_uR, zN_uN, zI_ne, zJ_ne, zA_ne, zB_ne, zR_ne, zN_ne, bi_T, bi_F, nz16, ↓reduceIte, not_true_eq_false, not_false_eq_true, Bool.false_eq_true, reduceCtorEq, h38, mI_eq, h7, if_neg e2, hf]
theorem m_takesF {σ : St} {p : Nat} {x : Int32} (h : zI σ 38 = nI p) (hp : p < 1000) : fX12_takes σ x = some (false, σ) := by
  have hf := m_failsF h hp
  unfold fX12_takes
  simp (disch := omega) only [l0, l1, l2, l3, l4, l5, l6, l7, l8, l9, l10, l11, l12, l16, l18, l19, l20, l21, l24, l96, l128, l100, l144, l200, l256, l288, l1536, l1728, l1800, bnd, nI_add, pk_mul, pI_sub, pI_m1, pT_le, pF_le, pT_lt, pF_lt, pT_eq, pF_eq, pF_m1, mF_eq, mT_eq, mT_lt, mF_le, lm1, rd_nI, wr_nI, cl_nI, pk_us, un_ne, pk_uLs, uL_ne, zI_uI, zI_uJ, zI_uA, zI_uB, zI_uR, zI_uN, zJ_uI, zJ_uJ, zJ_uA, zJ_uB, zJ_uR, zJ_uN, zA_uI, zA_uJ, zA_uA, zA_uB, zA_uR, zA_uN, zB_uI, zB_uJ, zB_uA, zB_uB, zB_uR, zB_uN, zR_uI, zR_uJ, zR_uA, zR_uB, zR_uR, zR_uN, zN_uI, zN_uJ, zN_uA, zN_uB, zN_uR, zN_uN, zI_ne, zJ_ne, zA_ne, zB_ne, zR_ne, zN_ne, bi_T, bi_F, nz16, ↓reduceIte, not_true_eq_false, not_false_eq_true, Bool.false_eq_true, reduceCtorEq, h, mI_eq, hf]
theorem m_isLetter {σ : St} {q b0 p : Nat} {bs : List Nat} (h : MX σ q b0 bs p) : fX12_isLetter σ = some (decide (p < bs.length ∧ Jr (bs.getD p 0) = true)) := by
  have h35 := h.2.2.1
  have h36 := h.2.2.2.1
  have h37 := h.2.2.2.2.1
  have h200 := h.2.2.2.2.2.2.2.2.1
  have hpn := h.2.2.2.2.2.2.2.1
  unfold fX12_isLetter
  by_cases hp : p < bs.length
  · have hrd := h.rd hp
    have hbb := h.2.2.2.2.2.2.2.2.2 _ (getD_mem (d := 0) hp)
    have hl := sbv_let _ hbb.2
    by_cases hj : Jr (bs.getD p 0) = true
    · rw [decide_eq_true ⟨hp, hj⟩]
      obtain ⟨h1, h2⟩ := hl.mpr (of_decide_eq_true hj)
      simp (disch := omega) only [l0, l1, l2, l3, l4, l5, l6, l7, l8, l9, l10, l11, l12, l16, l18, l19, l20, l21, l24, l96, l128, l100, l144, l200, l256, l288, l1536, l1728, l1800, bnd, nI_add, pk_mul, pI_sub, pI_m1, pT_le, pF_le, pT_lt, pF_lt, pT_eq, pF_eq, pF_m1, mF_eq, mT_eq, mT_lt, mF_le, lm1, rd_nI, wr_nI, cl_nI, pk_us, un_ne, pk_uLs, uL_ne, zI_uI, zI_uJ, zI_uA, zI_uB, zI_uR, zI_uN, zJ_uI, zJ_uJ, zJ_uA, zJ_uB, zJ_uR, zJ_uN, zA_uI, zA_uJ, zA_uA, zA_uB, zA_uR, zA_uN, zB_uI, zB_uJ, zB_uA, zB_uB, zB_uR, zB_uN, zR_uI, zR_uJ, zR_uA, zR_uB, zR_uR, zR_uN, zN_uI, zN_uJ, zN_uA, zN_uB, zN_uR, zN_uN, zI_ne, zJ_ne, zA_ne, zB_ne, zR_ne, zN_ne, bi_T, bi_F, nz16, ↓reduceIte, not_true_eq_false, not_false_eq_true, Bool.false_eq_true, reduceCtorEq, h36, h37, h35, hrd, l97, l122, if_neg h1, if_neg h2]
    · rw [decide_eq_false (fun x => hj x.2)]
      by_cases h1 : sbv (bs.getD p 0) < nI 97
      · simp (disch := omega) only [l0, l1, l2, l3, l4, l5, l6, l7, l8, l9, l10, l11, l12, l16, l18, l19, l20, l21, l24, l96, l128, l100, l144, l200, l256, l288, l1536, l1728, l1800, bnd, nI_add, pk_mul, pI_sub, pI_m1, pT_le, pF_le, pT_lt, pF_lt, pT_eq, pF_eq, pF_m1, mF_eq, mT_eq, mT_lt, mF_le, lm1, rd_nI, wr_nI, cl_nI, pk_us, un_ne, pk_uLs, uL_ne, zI_uI, zI_uJ, zI_uA, zI_uB, zI_uR, zI_uN, zJ_uI, zJ_uJ, zJ_uA, zJ_uB, zJ_uR, zJ_uN, zA_uI, zA_uJ, zA_uA, zA_uB, zA_uR, zA_uN, zB_uI, zB_uJ, zB_uA, zB_uB, zB_uR, zB_uN, zR_uI, zR_uJ, zR_uA, zR_uB, zR_uR, zR_uN, zN_uI, zN_uJ, zN_uA, zN_uB, zN_uR, zN_uN, zI_ne, zJ_ne, zA_ne, zB_ne, zR_ne, zN_ne, bi_T, bi_F, nz16, ↓reduceIte, not_true_eq_false, not_false_eq_true, Bool.false_eq_true, reduceCtorEq, h36, h37, h35, hrd, l97, if_pos h1]
      · by_cases h2 : nI 122 < sbv (bs.getD p 0)
        · simp (disch := omega) only [l0, l1, l2, l3, l4, l5, l6, l7, l8, l9, l10, l11, l12, l16, l18, l19, l20, l21, l24, l96, l128, l100, l144, l200, l256, l288, l1536, l1728, l1800, bnd, nI_add, pk_mul, pI_sub, pI_m1, pT_le, pF_le, pT_lt, pF_lt, pT_eq, pF_eq, pF_m1, mF_eq, mT_eq, mT_lt, mF_le, lm1, rd_nI, wr_nI, cl_nI, pk_us, un_ne, pk_uLs, uL_ne, zI_uI, zI_uJ, zI_uA, zI_uB, zI_uR, zI_uN, zJ_uI, zJ_uJ, zJ_uA, zJ_uB, zJ_uR, zJ_uN, zA_uI, zA_uJ, zA_uA, zA_uB, zA_uR, zA_uN, zB_uI, zB_uJ, zB_uA, zB_uB, zB_uR, zB_uN, zR_uI, zR_uJ, zR_uA, zR_uB, zR_uR, zR_uN, zN_uI, zN_uJ, zN_uA, zN_uB, zN_uR, zN_uN, zI_ne, zJ_ne, zA_ne, zB_ne, zR_ne, zN_ne, bi_T, bi_F, nz16, ↓reduceIte, not_true_eq_false, not_false_eq_true, Bool.false_eq_true, reduceCtorEq, h36, h37, h35, hrd, l97, l122, if_neg h1, if_pos h2]
        · exact absurd (decide_eq_true (hl.mp ⟨h1, h2⟩)) hj
  · rw [decide_eq_false (fun x => hp x.1)]
    simp (disch := omega) only [l0, l1, l2, l3, l4, l5, l6, l7, l8, l9, l10, l11, l12, l16, l18, l19, l20, l21, l24, l96, l128, l100, l144, l200, l256, l288, l1536, l1728, l1800, bnd, nI_add, pk_mul, pI_sub, pI_m1, pT_le, pF_le, pT_lt, pF_lt, pT_eq, pF_eq, pF_m1, mF_eq, mT_eq, mT_lt, mF_le, lm1, rd_nI, wr_nI, cl_nI, pk_us, un_ne, pk_uLs, uL_ne, zI_uI, zI_uJ, zI_uA, zI_uB, zI_uR, zI_uN, zJ_uI, zJ_uJ, zJ_uA, zJ_uB, zJ_uR, zJ_uN, zA_uI, zA_uJ, zA_uA, zA_uB, zA_uR, zA_uN, zB_uI, zB_uJ, zB_uA, zB_uB, zB_uR, zB_uN, zR_uI, zR_uJ, zR_uA, zR_uB, zR_uR, zR_uN, zN_uI, zN_uJ, zN_uA, zN_uB, zN_uR, zN_uN, zI_ne, zJ_ne, zA_ne, zB_ne, zR_ne, zN_ne, bi_T, bi_F, nz16, ↓reduceIte, not_true_eq_false, not_false_eq_true, Bool.false_eq_true, reduceCtorEq, h36, h37]
/-- a word, where one begins, and where none does -/
theorem m_readWord {σ : St} {q b0 p : Nat} {bs : List Nat} (h : MX σ q b0 bs p) (hl : p < bs.length) (hj : Jr (bs.getD p 0) = true) : ∃ (w : Wd) (υ : St), okW w ∧ p + w.length ≤ bs.length ∧ (∀ j, j < w.length → bs.getD (p + j) 0 = 96 + w.getD j 0) ∧ FR [] [] [37, 38] [] σ υ ∧ fX12_readWord σ = some (nI w.length, υ) ∧ ((MX υ q b0 bs (p + w.length) ∧ tkR Jr 8 gr bs p = (1000 + enc w, p) :: tkR Jr 8 gr bs (p + w.length)) ∨ (zI υ 38 = nI (p + 8) ∧ ∃ R, tkR Jr 8 gr bs p = (1000 + enc w, p) :: (257, p + 8) :: R)) := by
  have h200 := h.2.2.2.2.2.2.2.2.1
  have key := it_for (β := St × Wd) (body := fun (kb : (St × Int32) → Option (Int32 × St)) (t : St × Int32) => fX12_readWord_L2 (fun s3 x4 => (fX12_fails s3).bind fun r5 => some (x4, r5.2)) (fun s6 x7 => if x7 = 0 then ((fX12_fails s6).bind fun r8 => some (x7, r8.2))
  else (some (x7, s6))) (fun σ v1 => kb (σ, v1)) t.1 t.2) 8 (by omega) (fun i b => (b.1, nI i)) (fun i b => b.2.length = i ∧ (∀ c, c ∈ b.2 → 1 ≤ c ∧ c ≤ 26) ∧ p + i ≤ bs.length ∧ (∀ j, j < i → bs.getD (p + j) 0 = 96 + b.2.getD j 0) ∧ FR [] [] [37, 38] [] σ b.1 ∧ MX b.1 q b0 bs (p + i) ∧ (0 < i → tkR Jr 8 gr bs p = tkW Jr 8 gr bs (p + i) i (enc b.2) p)) (fun i b z => ∃ (w : Wd) (υ : St), okW w ∧ p + w.length ≤ bs.length ∧ (∀ j, j < w.length → bs.getD (p + j) 0 = 96 + w.getD j 0) ∧ FR [] [] [37, 38] [] σ υ ∧ z = some (nI w.length, υ) ∧ ((MX υ q b0 bs (p + w.length) ∧ tkR Jr 8 gr bs p = (1000 + enc w, p) :: tkR Jr 8 gr bs (p + w.length)) ∨ (zI υ 38 = nI (p + 8) ∧ ∃ R, tkR Jr 8 gr bs p = (1000 + enc w, p) :: (257, p + 8) :: R))) ?_ 0 (σ, []) (Nat.zero_le _) ⟨rfl, (fun c hc => nomatch hc), by omega, (fun j hj => absurd hj (Nat.not_lt_zero _)), FR.rf _ _ _ _ _, h, fun hx => absurd hx (Nat.lt_irrefl _)⟩
  · exact key
  · rintro i ⟨τ, w⟩ hi ⟨jw, jc, jp, jb, jF, jM, jt⟩ kb hkb
    have hw : w.length = i := jw
    have hc : ∀ c, c ∈ w → 1 ≤ c ∧ c ≤ 26 := jc
    have hp : p + i ≤ bs.length := jp
    have hb : ∀ j, j < i → bs.getD (p + j) 0 = 96 + w.getD j 0 := jb
    have hF : FR [] [] [37, 38] [] σ τ := jF
    have hM : MX τ q b0 bs (p + i) := jM
    have ht : 0 < i → tkR Jr 8 gr bs p = tkW Jr 8 gr bs (p + i) i (enc w) p := jt
    clear jw jc jp jb jF jM jt
    show ∃ w υ, _ ∧ _ ∧ _ ∧ _ ∧ fX12_readWord_L2 _ _ (fun σ v1 => kb (σ, v1)) τ (nI i) = _ ∧ _
    have hil := m_isLetter hM
    have h37 := hM.2.2.2.2.1
    unfold fX12_readWord_L2
    by_cases hx : p + i < bs.length ∧ Jr (bs.getD (p + i) 0) = true
    · rw [decide_eq_true hx] at hil
      by_cases h8 : i = 8
      · have hf := m_fails hM
        obtain ⟨R, eR⟩ := tkW_over (v := enc w) (s := p) (M := 8) (gr := gr) (r := i) hx.1 hx.2 (by omega)
        refine ⟨w, uI τ 38 (nI (p + i)), ⟨by omega, by omega, hc⟩, by omega, fun j hj => hb j (by omega), FR.uI hF (by decide), ?_, .inr ⟨by rw [zI_uI, h8], R, ?_⟩⟩
        · rw [hw]
          simp (disch := omega) only [l0, l1, l2, l3, l4, l5, l6, l7, l8, l9, l10, l11, l12, l16, l18, l19, l20, l21, l24, l96, l128, l100, l144, l200, l256, l288, l1536, l1728, l1800, bnd, nI_add, pk_mul, pI_sub, pI_m1, pT_le, pF_le, pT_lt, pF_lt, pT_eq, pF_eq, pF_m1, mF_eq, mT_eq, mT_lt, mF_le, lm1, rd_nI, wr_nI, cl_nI, pk_us, un_ne, pk_uLs, uL_ne, zI_uI, zI_uJ, zI_uA, zI_uB, zI_uR, zI_uN, zJ_uI, zJ_uJ, zJ_uA, zJ_uB, zJ_uR, zJ_uN, zA_uI, zA_uJ, zA_uA, zA_uB, zA_uR, zA_uN, zB_uI, zB_uJ, zB_uA, zB_uB, zB_uR, zB_uN, zR_uI, zR_uJ, zR_uA, zR_uB, zR_uR, zR_uN, zN_uI, zN_uJ, zN_uA, zN_uB, zN_uR, zN_uN, zI_ne, zJ_ne, zA_ne, zB_ne, zR_ne, zN_ne, bi_T, bi_F, nz16, ↓reduceIte, not_true_eq_false, not_false_eq_true, Bool.false_eq_true, reduceCtorEq, hil, h8]
          rw [h8] at hf
          simp (disch := omega) only [l0, l1, l2, l3, l4, l5, l6, l7, l8, l9, l10, l11, l12, l16, l18, l19, l20, l21, l24, l96, l128, l100, l144, l200, l256, l288, l1536, l1728, l1800, bnd, nI_add, pk_mul, pI_sub, pI_m1, pT_le, pF_le, pT_lt, pF_lt, pT_eq, pF_eq, pF_m1, mF_eq, mT_eq, mT_lt, mF_le, lm1, rd_nI, wr_nI, cl_nI, pk_us, un_ne, pk_uLs, uL_ne, zI_uI, zI_uJ, zI_uA, zI_uB, zI_uR, zI_uN, zJ_uI, zJ_uJ, zJ_uA, zJ_uB, zJ_uR, zJ_uN, zA_uI, zA_uJ, zA_uA, zA_uB, zA_uR, zA_uN, zB_uI, zB_uJ, zB_uA, zB_uB, zB_uR, zB_uN, zR_uI, zR_uJ, zR_uA, zR_uB, zR_uR, zR_uN, zN_uI, zN_uJ, zN_uA, zN_uB, zN_uR, zN_uN, zI_ne, zJ_ne, zA_ne, zB_ne, zR_ne, zN_ne, bi_T, bi_F, nz16, ↓reduceIte, not_true_eq_false, not_false_eq_true, Bool.false_eq_true, reduceCtorEq, hf]
        · rw [ht (by omega), eR, h8]
      · have hjd := of_decide_eq_true hx.2
        have hcc : 1 ≤ bs.getD (p + i) 0 - 96 ∧ bs.getD (p + i) 0 - 96 ≤ 26 := by omega
        obtain ⟨w', υ, h1, h2, h3, h4, h5, h6⟩ := hkb (uI τ 37 (nI (p + i + 1)), w ++ [bs.getD (p + i) 0 - 96]) (by omega) ⟨by
          show (w ++ [_]).length = i + 1
          rw [List.length_append, List.length_singleton, hw], fun c hcm => by
          rw [List.mem_append, List.mem_singleton] at hcm
          rcases hcm with hcm | hcm
          · exact hc c hcm
          · rw [hcm]; exact hcc, by omega, fun j hj => by
          show _ = 96 + (w ++ [_]).getD j 0
          by_cases e : j = i
          · rw [e, ← hw, getD_snoc_eq', hw]
            omega
          · rw [getD_snoc_lt' (by omega)]
            exact hb j (by omega), FR.uI hF (by decide), hM.at (by omega), fun _ => by
          show _ = tkW Jr 8 gr bs (p + (i + 1)) (i + 1) (enc (w ++ [_])) p
          have eg : gr (enc w) (bs.getD (p + i) 0) = enc (w ++ [bs.getD (p + i) 0 - 96]) := by
            rw [enc_snoc]
            unfold gr
            rw [Nat.mul_comm]
          by_cases e0 : i = 0
          · have hw0 : w = [] := List.eq_nil_of_length_eq_zero (by omega)
            rw [tkR_join hl hj]
            rw [hw0] at eg
            have eg : gr 0 (bs.getD (p + i) 0) = _ := eg
            rw [hw0, e0] at *
            rw [Nat.add_zero] at eg
            rw [eg]
            rfl
          · rw [ht (by omega), tkW_join hx.1 hx.2 (by omega), eg]
            rfl⟩
        refine ⟨w', υ, h1, h2, h3, h4, ?_, h6⟩
        rw [← h5]
        simp (disch := omega) only [l0, l1, l2, l3, l4, l5, l6, l7, l8, l9, l10, l11, l12, l16, l18, l19, l20, l21, l24, l96, l128, l100, l144, l200, l256, l288, l1536, l1728, l1800, bnd, nI_add, pk_mul, pI_sub, pI_m1, pT_le, pF_le, pT_lt, pF_lt, pT_eq, pF_eq, pF_m1, mF_eq, mT_eq, mT_lt, mF_le, lm1, rd_nI, wr_nI, cl_nI, pk_us, un_ne, pk_uLs, uL_ne, zI_uI, zI_uJ, zI_uA, zI_uB, zI_uR, zI_uN, zJ_uI, zJ_uJ, zJ_uA, zJ_uB, zJ_uR, zJ_uN, zA_uI, zA_uJ, zA_uA, zA_uB, zA_uR, zA_uN, zB_uI, zB_uJ, zB_uA, zB_uB, zB_uR, zB_uN, zR_uI, zR_uJ, zR_uA, zR_uB, zR_uR, zR_uN, zN_uI, zN_uJ, zN_uA, zN_uB, zN_uR, zN_uN, zI_ne, zJ_ne, zA_ne, zB_ne, zR_ne, zN_ne, bi_T, bi_F, nz16, ↓reduceIte, not_true_eq_false, not_false_eq_true, Bool.false_eq_true, reduceCtorEq, hil, h37]
    · rw [decide_eq_false hx] at hil
      have hi0 : i ≠ 0 := fun e => by
        rw [e] at hx
        exact hx ⟨hl, hj⟩
      refine ⟨w, τ, ⟨by omega, by omega, hc⟩, by omega, fun j hj => hb j (by omega), hF, ?_, .inl ⟨by rw [hw]; exact hM, ?_⟩⟩
      · rw [hw]
        simp (disch := omega) only [l0, l1, l2, l3, l4, l5, l6, l7, l8, l9, l10, l11, l12, l16, l18, l19, l20, l21, l24, l96, l128, l100, l144, l200, l256, l288, l1536, l1728, l1800, bnd, nI_add, pk_mul, pI_sub, pI_m1, pT_le, pF_le, pT_lt, pF_lt, pT_eq, pF_eq, pF_m1, mF_eq, mT_eq, mT_lt, mF_le, lm1, rd_nI, wr_nI, cl_nI, pk_us, un_ne, pk_uLs, uL_ne, zI_uI, zI_uJ, zI_uA, zI_uB, zI_uR, zI_uN, zJ_uI, zJ_uJ, zJ_uA, zJ_uB, zJ_uR, zJ_uN, zA_uI, zA_uJ, zA_uA, zA_uB, zA_uR, zA_uN, zB_uI, zB_uJ, zB_uA, zB_uB, zB_uR, zB_uN, zR_uI, zR_uJ, zR_uA, zR_uB, zR_uR, zR_uN, zN_uI, zN_uJ, zN_uA, zN_uB, zN_uR, zN_uN, zI_ne, zJ_ne, zA_ne, zB_ne, zR_ne, zN_ne, bi_T, bi_F, nz16, ↓reduceIte, not_true_eq_false, not_false_eq_true, Bool.false_eq_true, reduceCtorEq, hil]
      · rw [ht (by omega), hw]
        by_cases he : p + i < bs.length
        · exact tkW_stop he (by
            cases hjj : Jr (bs.getD (p + i) 0) with
            | true => exact absurd ⟨he, hjj⟩ hx
            | false => rfl)
        · exact tkW_end (by omega)
theorem m_readWord0 {σ : St} {q b0 p : Nat} {bs : List Nat} (h : MX σ q b0 bs p) (hj : ¬ (p < bs.length ∧ Jr (bs.getD p 0) = true)) : fX12_readWord σ = some (nI 0, uI σ 38 (nI p)) := by
  have hil := m_isLetter h
  rw [decide_eq_false hj] at hil
  have hf := m_fails h
  have key := it_for (β := Unit) (body := fun (kb : (St × Int32) → Option (Int32 × St)) (t : St × Int32) => fX12_readWord_L2 (fun s3 x4 => (fX12_fails s3).bind fun r5 => some (x4, r5.2)) (fun s6 x7 => if x7 = 0 then ((fX12_fails s6).bind fun r8 => some (x7, r8.2))
  else (some (x7, s6))) (fun σ v1 => kb (σ, v1)) t.1 t.2) 0 (by omega) (fun i _ => (σ, nI i)) (fun i _ => True) (fun _ _ z => z = some (nI 0, uI σ 38 (nI p))) ?_ 0 () (Nat.zero_le _) trivial
  · exact key
  · intro i _ hi _ kb _
    show fX12_readWord_L2 _ _ (fun σ v1 => kb (σ, v1)) σ (nI i) = _
    have hi0 : i = 0 := by omega
    unfold fX12_readWord_L2
    simp (disch := omega) only [l0, l1, l2, l3, l4, l5, l6, l7, l8, l9, l10, l11, l12, l16, l18, l19, l20, l21, l24, l96, l128, l100, l144, l200, l256, l288, l1536, l1728, l1800, bnd, nI_add, pk_mul, pI_sub, pI_m1, pT_le, pF_le, pT_lt, pF_lt, pT_eq, pF_eq, pF_m1, mF_eq, mT_eq, mT_lt, mF_le, lm1, rd_nI, wr_nI, cl_nI, pk_us, un_ne, pk_uLs, uL_ne, zI_uI, zI_uJ, zI_uA, zI_uB, zI_uR, zI_uN, zJ_uI, zJ_uJ, zJ_uA, zJ_uB, zJ_uR, zJ_uN, zA_uI, zA_uJ, zA_uA, zA_uB, zA_uR, zA_uN, zB_uI, zB_uJ, zB_uA, zB_uB, zB_uR, zB_uN, zR_uI, zR_uJ, zR_uA, zR_uB, zR_uR, zR_uN, zN_uI, zN_uJ, zN_uA, zN_uB, zN_uR, zN_uN, zI_ne, zJ_ne, zA_ne, zB_ne, zR_ne, zN_ne, bi_T, bi_F, nz16, ↓reduceIte, not_true_eq_false, not_false_eq_true, Bool.false_eq_true, reduceCtorEq, hil, hi0, hf]
