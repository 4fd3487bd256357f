/-! the model reads cues and speeches *-/
def on1 (σ τ : St) (q s : Nat) : Prop := ∀ j, j ≠ s → zA τ q j = zA σ q j
def onm (σ τ : St) (q m s : Nat) : Prop := ∀ j, j / m ≠ s → zA τ q j = zA σ q j
def RC (y : St) (bs : List Nat) (s : Nat) (ws : List Wd) (a f l m : Nat) : Prop := zA y a s = nI ws.length ∧ ∀ k, k < ws.length → ∃ p, p + (ws.getD k []).length ≤ bs.length ∧ zA y f (m * s + k) = nI p ∧ zA y l (m * s + k) = nI (ws.getD k []).length ∧ ∀ j, j < (ws.getD k []).length → bs.getD (p + j) 0 = 96 + (ws.getD k []).getD j 0
theorem pW_stop {m : Nat} {R : List Tk} (h : (hd R).1 < 1000) : pW m R = ([], R) := by
  cases m with
  | zero => rfl
  | succ m =>
    cases R with
    | nil => rfl
    | cons t R =>
      show (if 1000 ≤ t.1 then _ else _) = _
      have h : t.1 < 1000 := h
      rw [if_neg (by omega)]
/-- look where a fault was found: it goes on over blanks, no more -/
theorem m_lookF {σ : St} {bs : List Nat} {p : Nat} (h36 : zI σ 36 = nI bs.length) (h37 : zI σ 37 = nI p) (h35 : zI σ 35 = nI 0) (h3 : zR σ 3 = 55) (h200 : bs.length ≤ 200) (hp : p ≤ bs.length) : ∃ x υ, fX12_look σ = some (x, υ) ∧ FR [] [] [37] [] σ υ := by
  have key := it_for (β := St) (body := fun (kb : St → Option (Int32 × St)) (t : St) => fX12_look_L0 (fun s3 => if (zI s3 36) ≤ (zI s3 37) then (some ((-1 : Int32), s3))
  else ((rd (zA s3 (zR s3 3)) (lenY (zR s3 3)) ((zI s3 35) + (zI s3 37))).bind fun x4 => some ((x4 &&& (255 : Int32)), s3))) (fun σ => kb σ) t) bs.length (by omega) (fun _ τ => τ) (fun i τ => FR [] [] [37] [] σ τ ∧ zI τ 37 = nI i) (fun i τ z => ∃ x υ, z = some (x, υ) ∧ FR [] [] [37] [] σ υ) ?_ p σ hp ⟨FR.rf _ _ _ _ _, h37⟩
  · exact key
  · rintro i τ hi ⟨hF, hz⟩ kb hkb
    show ∃ x υ, fX12_look_L0 _ (fun σ => kb σ) τ = _ ∧ _
    have g36 : zI τ 36 = nI bs.length := (hF.2.2.1 36 (by decide)).trans h36
    have g35 : zI τ 35 = nI 0 := (hF.2.2.1 35 (by decide)).trans h35
    have g3 : zR τ 3 = 55 := by rw [hF.2.2.2.2]; exact h3
    unfold fX12_look_L0
    rw [g3, show lenY 55 = 200 from rfl]
    by_cases hie : i = bs.length
    · refine ⟨mI, τ, ?_, hF⟩
      simp (disch := omega) only [l0, l1, l2, l3, l4, l5, l6, l7, l8, l9, l10, l11, l12, l16, l18, l19, l20, l21, l24, l96, l128, l100, l144, l200, l256, l288, l1536, l1728, l1800, bnd, nI_add, pk_mul, pI_sub, pI_m1, pT_le, pF_le, pT_lt, pF_lt, pT_eq, pF_eq, pF_m1, mF_eq, mT_eq, mT_lt, mF_le, lm1, rd_nI, wr_nI, cl_nI, pk_us, un_ne, pk_uLs, uL_ne, zI_uI, zI_uJ, zI_uA, zI_uB, zI_uR, zI_uN, zJ_uI, zJ_uJ, zJ_uA, zJ_uB, zJ_uR, zJ_uN, zA_uI, zA_uJ, zA_uA, zA_uB, zA_uR, zA_uN, zB_uI, zB_uJ, zB_uA, zB_uB, zB_uR, zB_uN, zR_uI, zR_uJ, zR_uA, zR_uB, zR_uR, zR_uN, zN_uI, zN_uJ, zN_uA, zN_uB, zN_uR, zN_uN, zI_ne, zJ_ne, zA_ne, zB_ne, zR_ne, zN_ne, bi_T, bi_F, nz16, ↓reduceIte, not_true_eq_false, not_false_eq_true, Bool.false_eq_true, reduceCtorEq, g36, hz, hie]
    · by_cases hb : zA τ 55 i = nI 32
      · obtain ⟨x, υ, h1, h2⟩ := hkb (uI τ 37 (nI (i + 1))) (by omega) ⟨FR.uI hF (by decide), by rw [zI_uI]⟩
        refine ⟨x, υ, ?_, h2⟩
        rw [← h1]
        simp (disch := omega) only [l0, l1, l2, l3, l4, l5, l6, l7, l8, l9, l10, l11, l12, l16, l18, l19, l20, l21, l24, l96, l128, l100, l144, l200, l256, l288, l1536, l1728, l1800, bnd, nI_add, pk_mul, pI_sub, pI_m1, pT_le, pF_le, pT_lt, pF_lt, pT_eq, pF_eq, pF_m1, mF_eq, mT_eq, mT_lt, mF_le, lm1, rd_nI, wr_nI, cl_nI, pk_us, un_ne, pk_uLs, uL_ne, zI_uI, zI_uJ, zI_uA, zI_uB, zI_uR, zI_uN, zJ_uI, zJ_uJ, zJ_uA, zJ_uB, zJ_uR, zJ_uN, zA_uI, zA_uJ, zA_uA, zA_uB, zA_uR, zA_uN, zB_uI, zB_uJ, zB_uA, zB_uB, zB_uR, zB_uN, zR_uI, zR_uJ, zR_uA, zR_uB, zR_uR, zR_uN, zN_uI, zN_uJ, zN_uA, zN_uB, zN_uR, zN_uN, zI_ne, zJ_ne, zA_ne, zB_ne, zR_ne, zN_ne, bi_T, bi_F, nz16, ↓reduceIte, not_true_eq_false, not_false_eq_true, Bool.false_eq_true, reduceCtorEq, g36, hz, g35, Nat.zero_add, l32, if_pos hb]
      · refine ⟨zA τ 55 i &&& 255, τ, ?_, hF⟩
        simp (disch := omega) only [l0, l1, l2, l3, l4, l5, l6, l7, l8, l9, l10, l11, l12, l16, l18, l19, l20, l21, l24, l96, l128, l100, l144, l200, l256, l288, l1536, l1728, l1800, bnd, nI_add, pk_mul, pI_sub, pI_m1, pT_le, pF_le, pT_lt, pF_lt, pT_eq, pF_eq, pF_m1, mF_eq, mT_eq, mT_lt, mF_le, lm1, rd_nI, wr_nI, cl_nI, pk_us, un_ne, pk_uLs, uL_ne, zI_uI, zI_uJ, zI_uA, zI_uB, zI_uR, zI_uN, zJ_uI, zJ_uJ, zJ_uA, zJ_uB, zJ_uR, zJ_uN, zA_uI, zA_uJ, zA_uA, zA_uB, zA_uR, zA_uN, zB_uI, zB_uJ, zB_uA, zB_uB, zB_uR, zB_uN, zR_uI, zR_uJ, zR_uA, zR_uB, zR_uR, zR_uN, zN_uI, zN_uJ, zN_uA, zN_uB, zN_uR, zN_uN, zI_ne, zJ_ne, zA_ne, zB_ne, zR_ne, zN_ne, bi_T, bi_F, nz16, ↓reduceIte, not_true_eq_false, not_false_eq_true, Bool.false_eq_true, reduceCtorEq, g36, hz, g35, Nat.zero_add, l32, if_neg hb, g3, show lenY 55 = 200 from rfl]
theorem m_rw37 {σ υ : St} {bs : List Nat} {p n : Nat} (h : MX σ 55 0 bs p) (he : fX12_readWord σ = some (nI n, υ)) : ∃ p3, p3 ≤ bs.length ∧ zI υ 37 = nI p3 := by
  have h200 := h.2.2.2.2.2.2.2.2.1
  have hpn := h.2.2.2.2.2.2.2.1
  have key := it_for (β := St × Nat) (body := fun (kb : (St × Int32) → Option (Int32 × St)) (t : St × Int32) => fX12_readWord_L2 (fun s3 x4 => (fX12_fails s3).bind fun r5 => some (x4, r5.2)) (fun s6 x7 => if x7 = 0 then ((fX12_fails s6).bind fun r8 => some (x7, r8.2))
  else (some (x7, s6))) (fun σ v1 => kb (σ, v1)) t.1 t.2) 8 (by omega) (fun i b => (b.1, nI i)) (fun i b => MX b.1 55 0 bs b.2) (fun i b z => ∃ x w p3, z = some (x, w) ∧ p3 ≤ bs.length ∧ zI w 37 = nI p3) ?_ 0 (σ, p) (Nat.zero_le _) h
  · have key : ∃ x w p3, fX12_readWord σ = some (x, w) ∧ p3 ≤ bs.length ∧ zI w 37 = nI p3 := key
    obtain ⟨x, w, p3, h1, h2, h3⟩ := key
    rw [he] at h1
    cases h1
    exact ⟨p3, h2, h3⟩
  · rintro i ⟨τ, p1⟩ hi hM kb hkb
    have hM : MX τ 55 0 bs p1 := hM
    show ∃ x w p3, fX12_readWord_L2 _ _ (fun σ v1 => kb (σ, v1)) τ (nI i) = some (x, w) ∧ _
    have hil := m_isLetter hM
    have hf := m_fails hM
    have h37 := hM.2.2.2.2.1
    have hp1 := hM.2.2.2.2.2.2.2.1
    unfold fX12_readWord_L2
    by_cases hx : p1 < bs.length ∧ Jr (bs.getD p1 0) = true
    · rw [decide_eq_true hx] at hil
      by_cases h8 : i = 8
      · refine ⟨nI 8, uI τ 38 (nI p1), p1, ?_, hp1, by rw [zI_ne (by decide)]; exact h37⟩
        simp (disch := omega) only [l0, l1, l2, l3, l4, l5, l6, l7, l8, l9, l10, l11, l12, l16, l18, l19, l20, l21, l24, l96, l128, l100, l144, l200, l256, l288, l1536, l1728, l1800, bnd, nI_add, pk_mul, pI_sub, pI_m1, pT_le, pF_le, pT_lt, pF_lt, pT_eq, pF_eq, pF_m1, mF_eq, mT_eq, mT_lt, mF_le, lm1, rd_nI, wr_nI, cl_nI, pk_us, un_ne, pk_uLs, uL_ne, zI_uI, zI_uJ, zI_uA, zI_uB, zI_uR, zI_uN, zJ_uI, zJ_uJ, zJ_uA, zJ_uB, zJ_uR, zJ_uN, zA_uI, zA_uJ, zA_uA, zA_uB, zA_uR, zA_uN, zB_uI, zB_uJ, zB_uA, zB_uB, zB_uR, zB_uN, zR_uI, zR_uJ, zR_uA, zR_uB, zR_uR, zR_uN, zN_uI, zN_uJ, zN_uA, zN_uB, zN_uR, zN_uN, zI_ne, zJ_ne, zA_ne, zB_ne, zR_ne, zN_ne, bi_T, bi_F, nz16, ↓reduceIte, not_true_eq_false, not_false_eq_true, Bool.false_eq_true, reduceCtorEq, hil, h8, hf]
      · obtain ⟨x, w, p3, h1, h2, h3⟩ := hkb (uI τ 37 (nI (p1 + 1)), p1 + 1) (by omega) (hM.at (by omega))
        refine ⟨x, w, p3, ?_, h2, h3⟩
        rw [← h1]
        simp (disch := omega) only [l0, l1, l2, l3, l4, l5, l6, l7, l8, l9, l10, l11, l12, l16, l18, l19, l20, l21, l24, l96, l128, l100, l144, l200, l256, l288, l1536, l1728, l1800, bnd, nI_add, pk_mul, pI_sub, pI_m1, pT_le, pF_le, pT_lt, pF_lt, pT_eq, pF_eq, pF_m1, mF_eq, mT_eq, mT_lt, mF_le, lm1, rd_nI, wr_nI, cl_nI, pk_us, un_ne, pk_uLs, uL_ne, zI_uI, zI_uJ, zI_uA, zI_uB, zI_uR, zI_uN, zJ_uI, zJ_uJ, zJ_uA, zJ_uB, zJ_uR, zJ_uN, zA_uI, zA_uJ, zA_uA, zA_uB, zA_uR, zA_uN, zB_uI, zB_uJ, zB_uA, zB_uB, zB_uR, zB_uN, zR_uI, zR_uJ, zR_uA, zR_uB, zR_uR, zR_uN, zN_uI, zN_uJ, zN_uA, zN_uB, zN_uR, zN_uN, zI_ne, zJ_ne, zA_ne, zB_ne, zR_ne, zN_ne, bi_T, bi_F, nz16, ↓reduceIte, not_true_eq_false, not_false_eq_true, Bool.false_eq_true, reduceCtorEq, hil, h37]
    · rw [decide_eq_false hx] at hil
      by_cases h0 : i = 0
      · refine ⟨nI 0, uI τ 38 (nI p1), p1, ?_, hp1, by rw [zI_ne (by decide)]; exact h37⟩
        simp (disch := omega) only [l0, l1, l2, l3, l4, l5, l6, l7, l8, l9, l10, l11, l12, l16, l18, l19, l20, l21, l24, l96, l128, l100, l144, l200, l256, l288, l1536, l1728, l1800, bnd, nI_add, pk_mul, pI_sub, pI_m1, pT_le, pF_le, pT_lt, pF_lt, pT_eq, pF_eq, pF_m1, mF_eq, mT_eq, mT_lt, mF_le, lm1, rd_nI, wr_nI, cl_nI, pk_us, un_ne, pk_uLs, uL_ne, zI_uI, zI_uJ, zI_uA, zI_uB, zI_uR, zI_uN, zJ_uI, zJ_uJ, zJ_uA, zJ_uB, zJ_uR, zJ_uN, zA_uI, zA_uJ, zA_uA, zA_uB, zA_uR, zA_uN, zB_uI, zB_uJ, zB_uA, zB_uB, zB_uR, zB_uN, zR_uI, zR_uJ, zR_uA, zR_uB, zR_uR, zR_uN, zN_uI, zN_uJ, zN_uA, zN_uB, zN_uR, zN_uN, zI_ne, zJ_ne, zA_ne, zB_ne, zR_ne, zN_ne, bi_T, bi_F, nz16, ↓reduceIte, not_true_eq_false, not_false_eq_true, Bool.false_eq_true, reduceCtorEq, hil, h0, hf]
      · refine ⟨nI i, τ, p1, ?_, hp1, h37⟩
        simp (disch := omega) only [l0, l1, l2, l3, l4, l5, l6, l7, l8, l9, l10, l11, l12, l16, l18, l19, l20, l21, l24, l96, l128, l100, l144, l200, l256, l288, l1536, l1728, l1800, bnd, nI_add, pk_mul, pI_sub, pI_m1, pT_le, pF_le, pT_lt, pF_lt, pT_eq, pF_eq, pF_m1, mF_eq, mT_eq, mT_lt, mF_le, lm1, rd_nI, wr_nI, cl_nI, pk_us, un_ne, pk_uLs, uL_ne, zI_uI, zI_uJ, zI_uA, zI_uB, zI_uR, zI_uN, zJ_uI, zJ_uJ, zJ_uA, zJ_uB, zJ_uR, zJ_uN, zA_uI, zA_uJ, zA_uA, zA_uB, zA_uR, zA_uN, zB_uI, zB_uJ, zB_uA, zB_uB, zB_uR, zB_uN, zR_uI, zR_uJ, zR_uA, zR_uB, zR_uR, zR_uN, zN_uI, zN_uJ, zN_uA, zN_uB, zN_uR, zN_uN, zI_ne, zJ_ne, zA_ne, zB_ne, zR_ne, zN_ne, bi_T, bi_F, nz16, ↓reduceIte, not_true_eq_false, not_false_eq_true, Bool.false_eq_true, reduceCtorEq, hil]
theorem m_words_61 {τ : St} {bs : List Nat} {p s : Nat} (h : MX τ 55 0 bs p) (hs : s < 144) (h32 : p < bs.length → bs.getD p 0 ≠ 32) (h0 : zA τ 61 s = nI 0) : ∃ υ, FR [61, 63, 64] [] [37, 38] [] τ υ ∧ on1 τ υ 61 s ∧ onm τ υ 63 2 s ∧ onm τ υ 64 2 s ∧ fX12_readCue_P29 (nI s) (fun s13 => (fX12_fails s13).bind fun r14 => some r14.2) τ = some υ ∧ ((∃ p' ws, MX υ 55 0 bs p' ∧ RC υ bs s ws 61 63 64 2 ∧ (∀ w, w ∈ ws → okW w) ∧ ws ≠ [] ∧ ws.length ≤ 2 ∧ pW 2 (tkR Jr 8 gr bs p) = (ws.map enc, tkR Jr 8 gr bs p')) ∨ (∃ f, zI υ 38 = nI f ∧ f < 1000 ∧ (((pW 2 (tkR Jr 8 gr bs p)).1 = [] ∧ (hd (tkR Jr 8 gr bs p)).2 = f) ∨ ((pW 2 (tkR Jr 8 gr bs p)).1 ≠ [] ∧ (hd (pW 2 (tkR Jr 8 gr bs p)).2).2 = f ∧ 257 ≤ (hd (pW 2 (tkR Jr 8 gr bs p)).2).1)))) := by
  have key := it_for (β := St × Nat × List Wd) (body := fun (kb : St → Option St) (t : St) => fX12_readCue_L29 (nI s) (fun s13 => (fX12_fails s13).bind fun r14 => some r14.2) (fun σ => kb σ) t) 2 (by omega) (fun _ b => b.1) (fun k b => b.2.2.length = k ∧ MX b.1 55 0 bs b.2.1 ∧ RC b.1 bs s b.2.2 61 63 64 2 ∧ (∀ w, w ∈ b.2.2 → okW w) ∧ FR [61, 63, 64] [] [37, 38] [] τ b.1 ∧ on1 τ b.1 61 s ∧ onm τ b.1 63 2 s ∧ onm τ b.1 64 2 s ∧ (k = 0 → b.2.1 = p) ∧ (0 < k → b.2.1 < bs.length ∧ Jr (bs.getD b.2.1 0) = true) ∧ (b.2.1 < bs.length → bs.getD b.2.1 0 ≠ 32) ∧ pW 2 (tkR Jr 8 gr bs p) = (b.2.2.map enc ++ (pW (2 - k) (tkR Jr 8 gr bs b.2.1)).1, (pW (2 - k) (tkR Jr 8 gr bs b.2.1)).2)) (fun k b z => ∃ υ, FR [61, 63, 64] [] [37, 38] [] τ υ ∧ on1 τ υ 61 s ∧ onm τ υ 63 2 s ∧ onm τ υ 64 2 s ∧ z = some υ ∧ ((∃ p' ws, MX υ 55 0 bs p' ∧ RC υ bs s ws 61 63 64 2 ∧ (∀ w, w ∈ ws → okW w) ∧ ws ≠ [] ∧ ws.length ≤ 2 ∧ pW 2 (tkR Jr 8 gr bs p) = (ws.map enc, tkR Jr 8 gr bs p')) ∨ (∃ f, zI υ 38 = nI f ∧ f < 1000 ∧ (((pW 2 (tkR Jr 8 gr bs p)).1 = [] ∧ (hd (tkR Jr 8 gr bs p)).2 = f) ∨ ((pW 2 (tkR Jr 8 gr bs p)).1 ≠ [] ∧ (hd (pW 2 (tkR Jr 8 gr bs p)).2).2 = f ∧ 257 ≤ (hd (pW 2 (tkR Jr 8 gr bs p)).2).1))))) ?_ 0 (τ, p, []) (Nat.zero_le _) ⟨rfl, h, ⟨h0, fun k hk => absurd hk (Nat.not_lt_zero _)⟩, (fun w hw => nomatch hw), FR.rf _ _ _ _ _, (fun j _ => rfl), (fun j _ => rfl), (fun j _ => rfl), fun _ => rfl, (fun hx => absurd hx (Nat.lt_irrefl _)), h32, rfl⟩
  · exact key
  · rintro k ⟨y, p', ws⟩ hk ⟨jl, jM, jR, jo, jF, j1, j2, j3, jp, jj, jb, jt⟩ kb hkb
    have hl : ws.length = k := jl
    have hM : MX y 55 0 bs p' := jM
    have hR : RC y bs s ws 61 63 64 2 := jR
    have ho : ∀ w, w ∈ ws → okW w := jo
    have hF : FR [61, 63, 64] [] [37, 38] [] τ y := jF
    have h1 : on1 τ y 61 s := j1
    have h2 : onm τ y 63 2 s := j2
    have h3 : onm τ y 64 2 s := j3
    have hp : k = 0 → p' = p := jp
    have hj : 0 < k → p' < bs.length ∧ Jr (bs.getD p' 0) = true := jj
    have hb : p' < bs.length → bs.getD p' 0 ≠ 32 := jb
    have ht : pW 2 (tkR Jr 8 gr bs p) = (ws.map enc ++ (pW (2 - k) (tkR Jr 8 gr bs p')).1, (pW (2 - k) (tkR Jr 8 gr bs p')).2) := jt
    clear jl jM jR jo jF j1 j2 j3 jp jj jb jt
    have h200 := hM.2.2.2.2.2.2.2.2.1
    have hpn := hM.2.2.2.2.2.2.2.1
    have h37 := hM.2.2.2.2.1
    have h61 := hR.1
    rw [hl] at h61
    have htk := tk_head (J := Jr) (M := 8) (gr := gr) hpn hb
    show ∃ υ, _ ∧ _ ∧ _ ∧ _ ∧ fX12_readCue_L29 (nI s) _ (fun σ => kb σ) y = some υ ∧ _
    unfold fX12_readCue_L29
    by_cases hkm : k = 2
    · have hf := m_fails hM
      have hjj := hj (by omega)
      refine ⟨uI y 38 (nI p'), FR.uI hF (by decide), h1, h2, h3, ?_, .inr ⟨p', by rw [zI_uI], by omega, .inr ⟨?_, ?_, ?_⟩⟩⟩
      · rw [hkm] at h61
        simp (disch := omega) only [l0, l1, l2, l3, l4, l5, l6, l7, l8, l9, l10, l11, l12, l16, l18, l19, l20, l21, l24, l96, l128, l100, l144, l200, l256, l288, l1536, l1728, l1800, bnd, nI_add, pk_mul, pI_sub, pI_m1, pT_le, pF_le, pT_lt, pF_lt, pT_eq, pF_eq, pF_m1, mF_eq, mT_eq, mT_lt, mF_le, lm1, rd_nI, wr_nI, cl_nI, pk_us, un_ne, pk_uLs, uL_ne, zI_uI, zI_uJ, zI_uA, zI_uB, zI_uR, zI_uN, zJ_uI, zJ_uJ, zJ_uA, zJ_uB, zJ_uR, zJ_uN, zA_uI, zA_uJ, zA_uA, zA_uB, zA_uR, zA_uN, zB_uI, zB_uJ, zB_uA, zB_uB, zB_uR, zB_uN, zR_uI, zR_uJ, zR_uA, zR_uB, zR_uR, zR_uN, zN_uI, zN_uJ, zN_uA, zN_uB, zN_uR, zN_uN, zI_ne, zJ_ne, zA_ne, zB_ne, zR_ne, zN_ne, bi_T, bi_F, nz16, ↓reduceIte, not_true_eq_false, not_false_eq_true, Bool.false_eq_true, reduceCtorEq, h61, l2, hf]
      · rw [ht, hkm, Nat.sub_self]
        intro e
        have e := congrArg List.length e
        rw [List.length_append, List.length_map] at e
        have e3 : ([] : List Nat).length = 0 := rfl
        omega
      · rw [ht, hkm, Nat.sub_self]
        exact htk.1
      · rw [ht, hkm, Nat.sub_self]
        show 257 ≤ (hd (tkR Jr 8 gr bs p')).1
        rcases htk.2 with ⟨h4, h5⟩ | ⟨h4, h5, h6⟩ | ⟨h4, h5, h6⟩
        · omega
        · omega
        · rw [hjj.2] at h5
          cases h5
    · have hkl : k < 2 := by omega
      obtain ⟨y1, hy1⟩ : ∃ y1, y1 = uA y 63 (upd (zA y 63) (2 * s + k) (nI p')) := ⟨_, rfl⟩
      have hF1 : FR [63] [] [] [] y y1 := by rw [hy1]; exact FR.uA (FR.rf _ _ _ _ _) (by decide)
      have hM1 : MX y1 55 0 bs p' := hM.fr hF1 (by decide) (by decide)
      have h61b : zA y1 61 s = nI k := by rw [hF1.1 61 (by decide)]; exact h61
      have hdiv : (2 * s + k) / 2 = s := by omega
      have hms : 2 - k = (2 - (k + 1)) + 1 := by omega
      by_cases hjr : p' < bs.length ∧ Jr (bs.getD p' 0) = true
      · obtain ⟨w, y2, hw1, hw2, hw3, hw4, hw5, hw6⟩ := m_readWord hM1 hjr.1 hjr.2
        obtain ⟨y4, hy4⟩ : ∃ y4, y4 = uA (uA y2 64 (upd (zA y2 64) (2 * s + k) (nI w.length))) 61 (upd (zA y2 61) s (nI (k + 1))) := ⟨_, rfl⟩
        have hF4 : FR [64, 61] [] [] [] y2 y4 := by rw [hy4]; exact FR.uA (FR.uA (FR.rf _ _ _ _ _) (by decide)) (by decide)
        have h61c : zA y2 61 s = nI k := by rw [hw4.1 61 (by decide)]; exact h61b
        have eA : zA y4 61 = upd (zA y 61) s (nI (k + 1)) := by rw [hy4, zA_uA, hw4.1 61 (by decide), hF1.1 61 (by decide)]
        have eF : zA y4 63 = upd (zA y 63) (2 * s + k) (nI p') := by rw [hF4.1 63 (by decide), hw4.1 63 (by decide), hy1, zA_uA]
        have eL : zA y4 64 = upd (zA y 64) (2 * s + k) (nI w.length) := by rw [hy4, zA_ne (by decide), zA_uA, hw4.1 64 (by decide), hF1.1 64 (by decide)]
        have hFt : FR [61, 63, 64] [] [37, 38] [] τ y4 := ((hF.tr (hF1.mono (by decide) (by decide) (by decide) (by decide))).tr (hw4.mono (by decide) (by decide) (by decide) (by decide))).tr (hF4.mono (by decide) (by decide) (by decide) (by decide))
        have g1 : on1 τ y4 61 s := fun j hj => by rw [eA, un_ne hj]; exact h1 j hj
        have g2 : onm τ y4 63 2 s := fun j hj => by rw [eF, un_ne (fun e => hj (by rw [e]; exact hdiv))]; exact h2 j hj
        have g3 : onm τ y4 64 2 s := fun j hj => by rw [eL, un_ne (fun e => hj (by rw [e]; exact hdiv))]; exact h3 j hj
        have g4 : RC y4 bs s (ws ++ [w]) 61 63 64 2 := by
          refine ⟨by rw [eA, pk_us, List.length_append, List.length_singleton, hl], fun j hj => ?_⟩
          rw [List.length_append, List.length_singleton, hl] at hj
          rw [eF, eL]
          by_cases e : j = k
          · rw [e, pk_us, pk_us, ← hl, getD_snoc_eq']
            exact ⟨p', hw2, rfl, rfl, hw3⟩
          · rw [un_ne (by omega), un_ne (by omega), getD_snoc_lt' (by omega)]
            exact hR.2 j (by omega)
        have go : ∀ w', w' ∈ ws ++ [w] → okW w' := fun w' hw' => by
          rw [List.mem_append, List.mem_singleton] at hw'
          rcases hw' with hw' | hw'
          · exact ho w' hw'
          · rw [hw']; exact hw1
        have hw5r := hw5
        rw [hy1] at hw5 h61b
        rcases hw6 with ⟨hw6, hw7⟩ | ⟨hw6, R, hw7⟩
        · have hM4 : MX y4 55 0 bs (p' + w.length) := hw6.fr hF4 (by decide) (by decide)
          obtain ⟨p2, y5, h4, h5, h6, h7, h8, h9, h10⟩ := m_look hM4
          have hil := m_isLetter h7
          have h38 := h7.2.2.2.2.2.1
          have et : tkR Jr 8 gr bs (p' + w.length) = tkR Jr 8 gr bs p2 := h9 Jr 8 gr (by decide)
          have htk2 := tk_head (J := Jr) (M := 8) (gr := gr) h5 h8
          rw [et] at hw7
          have ePW : pW (2 - k) (tkR Jr 8 gr bs p') = (enc w :: (pW (2 - (k + 1)) (tkR Jr 8 gr bs p2)).1, (pW (2 - (k + 1)) (tkR Jr 8 gr bs p2)).2) := by
            rw [hms, hw7]
            show (if 1000 ≤ 1000 + enc w then _ else _) = _
            rw [if_pos (Nat.le_add_right _ _), show 1000 + enc w - 1000 = enc w by omega]
          rw [ePW] at ht
          have ht2 : pW 2 (tkR Jr 8 gr bs p) = ((ws ++ [w]).map enc ++ (pW (2 - (k + 1)) (tkR Jr 8 gr bs p2)).1, (pW (2 - (k + 1)) (tkR Jr 8 gr bs p2)).2) := by
            rw [ht, List.map_append, List.append_assoc]
            rfl
          have hF5 : FR [61, 63, 64] [] [37, 38] [] τ y5 := hFt.tr (h6.mono (by decide) (by decide) (by decide) (by decide))
          have q1 : on1 τ y5 61 s := fun j hj => by rw [h6.1 61 (by decide)]; exact g1 j hj
          have q2 : onm τ y5 63 2 s := fun j hj => by rw [h6.1 63 (by decide)]; exact g2 j hj
          have q3 : onm τ y5 64 2 s := fun j hj => by rw [h6.1 64 (by decide)]; exact g3 j hj
          have q4 : RC y5 bs s (ws ++ [w]) 61 63 64 2 := by
            unfold RC
            rw [h6.1 61 (by decide), h6.1 63 (by decide), h6.1 64 (by decide)]
            exact g4
          by_cases hjr2 : p2 < bs.length ∧ Jr (bs.getD p2 0) = true
          · rw [decide_eq_true hjr2] at hil
            obtain ⟨υ, h11, h12, h13, h14, h15, h16⟩ := hkb (y5, p2, ws ++ [w]) hkl ⟨by show (ws ++ [w]).length = k + 1; rw [List.length_append, List.length_singleton, hl], h7, q4, go, hF5, q1, q2, q3, (fun hx => by omega), fun _ => hjr2, h8, ht2⟩
            refine ⟨υ, h11, h12, h13, h14, ?_, h16⟩
            rw [← h15]
            rw [hy4] at h10
            simp (disch := omega) only [l0, l1, l2, l3, l4, l5, l6, l7, l8, l9, l10, l11, l12, l16, l18, l19, l20, l21, l24, l96, l128, l100, l144, l200, l256, l288, l1536, l1728, l1800, bnd, nI_add, pk_mul, pI_sub, pI_m1, pT_le, pF_le, pT_lt, pF_lt, pT_eq, pF_eq, pF_m1, mF_eq, mT_eq, mT_lt, mF_le, lm1, rd_nI, wr_nI, cl_nI, pk_us, un_ne, pk_uLs, uL_ne, zI_uI, zI_uJ, zI_uA, zI_uB, zI_uR, zI_uN, zJ_uI, zJ_uJ, zJ_uA, zJ_uB, zJ_uR, zJ_uN, zA_uI, zA_uJ, zA_uA, zA_uB, zA_uR, zA_uN, zB_uI, zB_uJ, zB_uA, zB_uB, zB_uR, zB_uN, zR_uI, zR_uJ, zR_uA, zR_uB, zR_uR, zR_uN, zN_uI, zN_uJ, zN_uA, zN_uB, zN_uR, zN_uN, zI_ne, zJ_ne, zA_ne, zB_ne, zR_ne, zN_ne, bi_T, bi_F, nz16, ↓reduceIte, not_true_eq_false, not_false_eq_true, Bool.false_eq_true, reduceCtorEq, h61, l2, h37, h61b, hw5, h61c, h10, h38, mI_eq, hil]
          · rw [decide_eq_false hjr2] at hil
            have eP0 : pW (2 - (k + 1)) (tkR Jr 8 gr bs p2) = ([], tkR Jr 8 gr bs p2) := by
              apply pW_stop
              rcases htk2.2 with ⟨h11, h12⟩ | ⟨h11, h12, h13⟩ | ⟨h11, h12, h13⟩
              · omega
              · exact absurd ⟨h11, h12⟩ hjr2
              · rw [h13]
                have := hM.2.2.2.2.2.2.2.2.2 _ (getD_mem (d := 0) h11)
                show bs.getD p2 0 < 1000
                omega
            rw [eP0, List.append_nil] at ht2
            refine ⟨y5, hF5, q1, q2, q3, ?_, .inl ⟨p2, ws ++ [w], h7, q4, go, by simp, by rw [List.length_append, List.length_singleton]; omega, ht2⟩⟩
            rw [hy4] at h10
            simp (disch := omega) only [l0, l1, l2, l3, l4, l5, l6, l7, l8, l9, l10, l11, l12, l16, l18, l19, l20, l21, l24, l96, l128, l100, l144, l200, l256, l288, l1536, l1728, l1800, bnd, nI_add, pk_mul, pI_sub, pI_m1, pT_le, pF_le, pT_lt, pF_lt, pT_eq, pF_eq, pF_m1, mF_eq, mT_eq, mT_lt, mF_le, lm1, rd_nI, wr_nI, cl_nI, pk_us, un_ne, pk_uLs, uL_ne, zI_uI, zI_uJ, zI_uA, zI_uB, zI_uR, zI_uN, zJ_uI, zJ_uJ, zJ_uA, zJ_uB, zJ_uR, zJ_uN, zA_uI, zA_uJ, zA_uA, zA_uB, zA_uR, zA_uN, zB_uI, zB_uJ, zB_uA, zB_uB, zB_uR, zB_uN, zR_uI, zR_uJ, zR_uA, zR_uB, zR_uR, zR_uN, zN_uI, zN_uJ, zN_uA, zN_uB, zN_uR, zN_uN, zI_ne, zJ_ne, zA_ne, zB_ne, zR_ne, zN_ne, bi_T, bi_F, nz16, ↓reduceIte, not_true_eq_false, not_false_eq_true, Bool.false_eq_true, reduceCtorEq, h61, l2, h37, h61b, hw5, h61c, h10, h38, mI_eq, hil]
        · have hw37 : ∃ p3, p3 ≤ bs.length ∧ zI y2 37 = nI p3 := m_rw37 hM1 hw5r
          obtain ⟨p3, hp3, hw37⟩ := hw37
          obtain ⟨x, y5, h4, h5⟩ := m_lookF (σ := y4) (bs := bs) (p := p3) (by rw [hF4.2.2.1 36 (by decide), hw4.2.2.1 36 (by decide)]; exact hM1.2.2.2.1) (by rw [hF4.2.2.1 37 (by decide)]; exact hw37) (by rw [hF4.2.2.1 35 (by decide), hw4.2.2.1 35 (by decide)]; exact hM1.2.2.1) (by rw [hF4.2.2.2.2, hw4.2.2.2.2]; exact hM1.1) h200 hp3
          have h38 : zI y5 38 = nI (p' + 8) := by rw [h5.2.2.1 38 (by decide), hF4.2.2.1 38 (by decide)]; exact hw6
          have hf8 : p' + 8 < 1000 := by omega
          have ePW : pW (2 - k) (tkR Jr 8 gr bs p') = ([enc w], (257, p' + 8) :: R) := by
            rw [hms, hw7]
            show (if 1000 ≤ 1000 + enc w then _ else _) = _
            have e2 : pW (2 - (k + 1)) ((257, p' + 8) :: R) = ([], (257, p' + 8) :: R) := pW_stop (by show 257 < 1000; decide)
            rw [if_pos (Nat.le_add_right _ _), show 1000 + enc w - 1000 = enc w by omega, e2]
          rw [ePW] at ht
          refine ⟨y5, hFt.tr (h5.mono (by decide) (by decide) (by decide) (by decide)), (fun j hj => by rw [h5.1 61 (by decide)]; exact g1 j hj), (fun j hj => by rw [h5.1 63 (by decide)]; exact g2 j hj), (fun j hj => by rw [h5.1 64 (by decide)]; exact g3 j hj), ?_, .inr ⟨p' + 8, h38, hf8, .inr ⟨?_, ?_, ?_⟩⟩⟩
          · rw [hy4] at h4
            simp (disch := omega) only [l0, l1, l2, l3, l4, l5, l6, l7, l8, l9, l10, l11, l12, l16, l18, l19, l20, l21, l24, l96, l128, l100, l144, l200, l256, l288, l1536, l1728, l1800, bnd, nI_add, pk_mul, pI_sub, pI_m1, pT_le, pF_le, pT_lt, pF_lt, pT_eq, pF_eq, pF_m1, mF_eq, mT_eq, mT_lt, mF_le, lm1, rd_nI, wr_nI, cl_nI, pk_us, un_ne, pk_uLs, uL_ne, zI_uI, zI_uJ, zI_uA, zI_uB, zI_uR, zI_uN, zJ_uI, zJ_uJ, zJ_uA, zJ_uB, zJ_uR, zJ_uN, zA_uI, zA_uJ, zA_uA, zA_uB, zA_uR, zA_uN, zB_uI, zB_uJ, zB_uA, zB_uB, zB_uR, zB_uN, zR_uI, zR_uJ, zR_uA, zR_uB, zR_uR, zR_uN, zN_uI, zN_uJ, zN_uA, zN_uB, zN_uR, zN_uN, zI_ne, zJ_ne, zA_ne, zB_ne, zR_ne, zN_ne, bi_T, bi_F, nz16, ↓reduceIte, not_true_eq_false, not_false_eq_true, Bool.false_eq_true, reduceCtorEq, h61, l2, h37, h61b, hw5, h61c, h4, h38, mI_eq]
          · rw [ht]
            simp
          · rw [ht]
            rfl
          · rw [ht]
            show 257 ≤ 257
            exact Nat.le_refl _
      · have hk0 : k = 0 := by
          apply Decidable.byContradiction
          intro hx
          exact hjr (hj (by omega))
        have hw5 := m_readWord0 hM1 hjr
        have epp := hp hk0
        obtain ⟨y4, hy4⟩ : ∃ y4, y4 = uA (uA (uI y1 38 (nI p')) 64 (upd (zA y1 64) (2 * s + k) (nI 0))) 61 (upd (zA y1 61) s (nI (k + 1))) := ⟨_, rfl⟩
        have hF4 : FR [64, 61] [] [38] [] y1 y4 := by rw [hy4]; exact FR.uA (FR.uA (FR.uI (FR.rf _ _ _ _ _) (by decide)) (by decide)) (by decide)
        have eA : zA y4 61 = upd (zA y 61) s (nI (k + 1)) := by rw [hy4, zA_uA, hF1.1 61 (by decide)]
        have eF : zA y4 63 = upd (zA y 63) (2 * s + k) (nI p') := by rw [hF4.1 63 (by decide), hy1, zA_uA]
        have eL : zA y4 64 = upd (zA y 64) (2 * s + k) (nI 0) := by rw [hy4, zA_ne (by decide), zA_uA, hF1.1 64 (by decide)]
        obtain ⟨x, y5, h4, h5⟩ := m_lookF (σ := y4) (bs := bs) (p := p') (by rw [hF4.2.2.1 36 (by decide)]; exact hM1.2.2.2.1) (by rw [hF4.2.2.1 37 (by decide)]; exact hM1.2.2.2.2.1) (by rw [hF4.2.2.1 35 (by decide)]; exact hM1.2.2.1) (by rw [hF4.2.2.2.2]; exact hM1.1) h200 hpn
        have h38 : zI y5 38 = nI p' := by rw [h5.2.2.1 38 (by decide), hy4, zI_uA, zI_uA, zI_uI]
        have ePW : pW 2 (tkR Jr 8 gr bs p) = ([], tkR Jr 8 gr bs p) := by
          apply pW_stop
          rw [← epp]
          rcases htk.2 with ⟨h11, h12⟩ | ⟨h11, h12, h13⟩ | ⟨h11, h12, h13⟩
          · omega
          · exact absurd ⟨h11, h12⟩ hjr
          · rw [h13]
            have := hM.2.2.2.2.2.2.2.2.2 _ (getD_mem (d := 0) h11)
            show bs.getD p' 0 < 1000
            omega
        refine ⟨y5, ((hF.tr (hF1.mono (by decide) (by decide) (by decide) (by decide))).tr (hF4.mono (by decide) (by decide) (by decide) (by decide))).tr (h5.mono (by decide) (by decide) (by decide) (by decide)), (fun j hj => by rw [h5.1 61 (by decide), eA, un_ne hj]; exact h1 j hj), (fun j hj => by rw [h5.1 63 (by decide), eF, un_ne (fun e => hj (by rw [e]; exact hdiv))]; exact h2 j hj), (fun j hj => by rw [h5.1 64 (by decide), eL, un_ne (fun e => hj (by rw [e]; exact hdiv))]; exact h3 j hj), ?_, .inr ⟨p', h38, by omega, .inl ⟨by rw [ePW], by rw [← epp]; exact htk.1⟩⟩⟩
        rw [hy1] at hw5 h61b
        rw [hy4, hy1] at h4
        simp (disch := omega) only [l0, l1, l2, l3, l4, l5, l6, l7, l8, l9, l10, l11, l12, l16, l18, l19, l20, l21, l24, l96, l128, l100, l144, l200, l256, l288, l1536, l1728, l1800, bnd, nI_add, pk_mul, pI_sub, pI_m1, pT_le, pF_le, pT_lt, pF_lt, pT_eq, pF_eq, pF_m1, mF_eq, mT_eq, mT_lt, mF_le, lm1, rd_nI, wr_nI, cl_nI, pk_us, un_ne, pk_uLs, uL_ne, zI_uI, zI_uJ, zI_uA, zI_uB, zI_uR, zI_uN, zJ_uI, zJ_uJ, zJ_uA, zJ_uB, zJ_uR, zJ_uN, zA_uI, zA_uJ, zA_uA, zA_uB, zA_uR, zA_uN, zB_uI, zB_uJ, zB_uA, zB_uB, zB_uR, zB_uN, zR_uI, zR_uJ, zR_uA, zR_uB, zR_uR, zR_uN, zN_uI, zN_uJ, zN_uA, zN_uB, zN_uR, zN_uN, zI_ne, zJ_ne, zA_ne, zB_ne, zR_ne, zN_ne, bi_T, bi_F, nz16, ↓reduceIte, not_true_eq_false, not_false_eq_true, Bool.false_eq_true, reduceCtorEq] at h4
        simp (disch := omega) only [l0, l1, l2, l3, l4, l5, l6, l7, l8, l9, l10, l11, l12, l16, l18, l19, l20, l21, l24, l96, l128, l100, l144, l200, l256, l288, l1536, l1728, l1800, bnd, nI_add, pk_mul, pI_sub, pI_m1, pT_le, pF_le, pT_lt, pF_lt, pT_eq, pF_eq, pF_m1, mF_eq, mT_eq, mT_lt, mF_le, lm1, rd_nI, wr_nI, cl_nI, pk_us, un_ne, pk_uLs, uL_ne, zI_uI, zI_uJ, zI_uA, zI_uB, zI_uR, zI_uN, zJ_uI, zJ_uJ, zJ_uA, zJ_uB, zJ_uR, zJ_uN, zA_uI, zA_uJ, zA_uA, zA_uB, zA_uR, zA_uN, zB_uI, zB_uJ, zB_uA, zB_uB, zB_uR, zB_uN, zR_uI, zR_uJ, zR_uA, zR_uB, zR_uR, zR_uN, zN_uI, zN_uJ, zN_uA, zN_uB, zN_uR, zN_uN, zI_ne, zJ_ne, zA_ne, zB_ne, zR_ne, zN_ne, bi_T, bi_F, nz16, ↓reduceIte, not_true_eq_false, not_false_eq_true, Bool.false_eq_true, reduceCtorEq, h61, l2, h37, h61b, hw5, h4, h38, mI_eq]
theorem m_words_62 {τ : St} {bs : List Nat} {p s : Nat} (h : MX τ 55 0 bs p) (hs : s < 144) (h32 : p < bs.length → bs.getD p 0 ≠ 32) (h0 : zA τ 62 s = nI 0) : ∃ υ, FR [62, 65, 66] [] [37, 38] [] τ υ ∧ on1 τ υ 62 s ∧ onm τ υ 65 12 s ∧ onm τ υ 66 12 s ∧ fX12_readSpeech_P12 (nI s) (fun s13 => (fX12_fails s13).bind fun r14 => some r14.2) τ = some υ ∧ ((∃ p' ws, MX υ 55 0 bs p' ∧ RC υ bs s ws 62 65 66 12 ∧ (∀ w, w ∈ ws → okW w) ∧ ws ≠ [] ∧ ws.length ≤ 12 ∧ pW 12 (tkR Jr 8 gr bs p) = (ws.map enc, tkR Jr 8 gr bs p')) ∨ (∃ f, zI υ 38 = nI f ∧ f < 1000 ∧ (((pW 12 (tkR Jr 8 gr bs p)).1 = [] ∧ (hd (tkR Jr 8 gr bs p)).2 = f) ∨ ((pW 12 (tkR Jr 8 gr bs p)).1 ≠ [] ∧ (hd (pW 12 (tkR Jr 8 gr bs p)).2).2 = f ∧ 257 ≤ (hd (pW 12 (tkR Jr 8 gr bs p)).2).1)))) := by
  have key := it_for (β := St × Nat × List Wd) (body := fun (kb : St → Option St) (t : St) => fX12_readSpeech_L12 (nI s) (fun s13 => (fX12_fails s13).bind fun r14 => some r14.2) (fun σ => kb σ) t) 12 (by omega) (fun _ b => b.1) (fun k b => b.2.2.length = k ∧ MX b.1 55 0 bs b.2.1 ∧ RC b.1 bs s b.2.2 62 65 66 12 ∧ (∀ w, w ∈ b.2.2 → okW w) ∧ FR [62, 65, 66] [] [37, 38] [] τ b.1 ∧ on1 τ b.1 62 s ∧ onm τ b.1 65 12 s ∧ onm τ b.1 66 12 s ∧ (k = 0 → b.2.1 = p) ∧ (0 < k → b.2.1 < bs.length ∧ Jr (bs.getD b.2.1 0) = true) ∧ (b.2.1 < bs.length → bs.getD b.2.1 0 ≠ 32) ∧ pW 12 (tkR Jr 8 gr bs p) = (b.2.2.map enc ++ (pW (12 - k) (tkR Jr 8 gr bs b.2.1)).1, (pW (12 - k) (tkR Jr 8 gr bs b.2.1)).2)) (fun k b z => ∃ υ, FR [62, 65, 66] [] [37, 38] [] τ υ ∧ on1 τ υ 62 s ∧ onm τ υ 65 12 s ∧ onm τ υ 66 12 s ∧ z = some υ ∧ ((∃ p' ws, MX υ 55 0 bs p' ∧ RC υ bs s ws 62 65 66 12 ∧ (∀ w, w ∈ ws → okW w) ∧ ws ≠ [] ∧ ws.length ≤ 12 ∧ pW 12 (tkR Jr 8 gr bs p) = (ws.map enc, tkR Jr 8 gr bs p')) ∨ (∃ f, zI υ 38 = nI f ∧ f < 1000 ∧ (((pW 12 (tkR Jr 8 gr bs p)).1 = [] ∧ (hd (tkR Jr 8 gr bs p)).2 = f) ∨ ((pW 12 (tkR Jr 8 gr bs p)).1 ≠ [] ∧ (hd (pW 12 (tkR Jr 8 gr bs p)).2).2 = f ∧ 257 ≤ (hd (pW 12 (tkR Jr 8 gr bs p)).2).1))))) ?_ 0 (τ, p, []) (Nat.zero_le _) ⟨rfl, h, ⟨h0, fun k hk => absurd hk (Nat.not_lt_zero _)⟩, (fun w hw => nomatch hw), FR.rf _ _ _ _ _, (fun j _ => rfl), (fun j _ => rfl), (fun j _ => rfl), fun _ => rfl, (fun hx => absurd hx (Nat.lt_irrefl _)), h32, rfl⟩
  · exact key
  · rintro k ⟨y, p', ws⟩ hk ⟨jl, jM, jR, jo, jF, j1, j2, j3, jp, jj, jb, jt⟩ kb hkb
    have hl : ws.length = k := jl
    have hM : MX y 55 0 bs p' := jM
    have hR : RC y bs s ws 62 65 66 12 := jR
    have ho : ∀ w, w ∈ ws → okW w := jo
    have hF : FR [62, 65, 66] [] [37, 38] [] τ y := jF
    have h1 : on1 τ y 62 s := j1
    have h2 : onm τ y 65 12 s := j2
    have h3 : onm τ y 66 12 s := j3
    have hp : k = 0 → p' = p := jp
    have hj : 0 < k → p' < bs.length ∧ Jr (bs.getD p' 0) = true := jj
    have hb : p' < bs.length → bs.getD p' 0 ≠ 32 := jb
    have ht : pW 12 (tkR Jr 8 gr bs p) = (ws.map enc ++ (pW (12 - k) (tkR Jr 8 gr bs p')).1, (pW (12 - k) (tkR Jr 8 gr bs p')).2) := jt
    clear jl jM jR jo jF j1 j2 j3 jp jj jb jt
    have h200 := hM.2.2.2.2.2.2.2.2.1
    have hpn := hM.2.2.2.2.2.2.2.1
    have h37 := hM.2.2.2.2.1
    have h61 := hR.1
    rw [hl] at h61
    have htk := tk_head (J := Jr) (M := 8) (gr := gr) hpn hb
    show ∃ υ, _ ∧ _ ∧ _ ∧ _ ∧ fX12_readSpeech_L12 (nI s) _ (fun σ => kb σ) y = some υ ∧ _
    unfold fX12_readSpeech_L12
    by_cases hkm : k = 12
    · have hf := m_fails hM
      have hjj := hj (by omega)
      refine ⟨uI y 38 (nI p'), FR.uI hF (by decide), h1, h2, h3, ?_, .inr ⟨p', by rw [zI_uI], by omega, .inr ⟨?_, ?_, ?_⟩⟩⟩
      · rw [hkm] at h61
        simp (disch := omega) only [l0, l1, l2, l3, l4, l5, l6, l7, l8, l9, l10, l11, l12, l16, l18, l19, l20, l21, l24, l96, l128, l100, l144, l200, l256, l288, l1536, l1728, l1800, bnd, nI_add, pk_mul, pI_sub, pI_m1, pT_le, pF_le, pT_lt, pF_lt, pT_eq, pF_eq, pF_m1, mF_eq, mT_eq, mT_lt, mF_le, lm1, rd_nI, wr_nI, cl_nI, pk_us, un_ne, pk_uLs, uL_ne, zI_uI, zI_uJ, zI_uA, zI_uB, zI_uR, zI_uN, zJ_uI, zJ_uJ, zJ_uA, zJ_uB, zJ_uR, zJ_uN, zA_uI, zA_uJ, zA_uA, zA_uB, zA_uR, zA_uN, zB_uI, zB_uJ, zB_uA, zB_uB, zB_uR, zB_uN, zR_uI, zR_uJ, zR_uA, zR_uB, zR_uR, zR_uN, zN_uI, zN_uJ, zN_uA, zN_uB, zN_uR, zN_uN, zI_ne, zJ_ne, zA_ne, zB_ne, zR_ne, zN_ne, bi_T, bi_F, nz16, ↓reduceIte, not_true_eq_false, not_false_eq_true, Bool.false_eq_true, reduceCtorEq, h61, l12, hf]
      · rw [ht, hkm, Nat.sub_self]
        intro e
        have e := congrArg List.length e
        rw [List.length_append, List.length_map] at e
        have e3 : ([] : List Nat).length = 0 := rfl
        omega
      · rw [ht, hkm, Nat.sub_self]
        exact htk.1
      · rw [ht, hkm, Nat.sub_self]
        show 257 ≤ (hd (tkR Jr 8 gr bs p')).1
        rcases htk.2 with ⟨h4, h5⟩ | ⟨h4, h5, h6⟩ | ⟨h4, h5, h6⟩
        · omega
        · omega
        · rw [hjj.2] at h5
          cases h5
    · have hkl : k < 12 := by omega
      obtain ⟨y1, hy1⟩ : ∃ y1, y1 = uA y 65 (upd (zA y 65) (12 * s + k) (nI p')) := ⟨_, rfl⟩
      have hF1 : FR [65] [] [] [] y y1 := by rw [hy1]; exact FR.uA (FR.rf _ _ _ _ _) (by decide)
      have hM1 : MX y1 55 0 bs p' := hM.fr hF1 (by decide) (by decide)
      have h61b : zA y1 62 s = nI k := by rw [hF1.1 62 (by decide)]; exact h61
      have hdiv : (12 * s + k) / 12 = s := by omega
      have hms : 12 - k = (12 - (k + 1)) + 1 := by omega
      by_cases hjr : p' < bs.length ∧ Jr (bs.getD p' 0) = true
      · obtain ⟨w, y2, hw1, hw2, hw3, hw4, hw5, hw6⟩ := m_readWord hM1 hjr.1 hjr.2
        obtain ⟨y4, hy4⟩ : ∃ y4, y4 = uA (uA y2 66 (upd (zA y2 66) (12 * s + k) (nI w.length))) 62 (upd (zA y2 62) s (nI (k + 1))) := ⟨_, rfl⟩
        have hF4 : FR [66, 62] [] [] [] y2 y4 := by rw [hy4]; exact FR.uA (FR.uA (FR.rf _ _ _ _ _) (by decide)) (by decide)
        have h61c : zA y2 62 s = nI k := by rw [hw4.1 62 (by decide)]; exact h61b
        have eA : zA y4 62 = upd (zA y 62) s (nI (k + 1)) := by rw [hy4, zA_uA, hw4.1 62 (by decide), hF1.1 62 (by decide)]
        have eF : zA y4 65 = upd (zA y 65) (12 * s + k) (nI p') := by rw [hF4.1 65 (by decide), hw4.1 65 (by decide), hy1, zA_uA]
        have eL : zA y4 66 = upd (zA y 66) (12 * s + k) (nI w.length) := by rw [hy4, zA_ne (by decide), zA_uA, hw4.1 66 (by decide), hF1.1 66 (by decide)]
        have hFt : FR [62, 65, 66] [] [37, 38] [] τ y4 := ((hF.tr (hF1.mono (by decide) (by decide) (by decide) (by decide))).tr (hw4.mono (by decide) (by decide) (by decide) (by decide))).tr (hF4.mono (by decide) (by decide) (by decide) (by decide))
        have g1 : on1 τ y4 62 s := fun j hj => by rw [eA, un_ne hj]; exact h1 j hj
        have g2 : onm τ y4 65 12 s := fun j hj => by rw [eF, un_ne (fun e => hj (by rw [e]; exact hdiv))]; exact h2 j hj
        have g3 : onm τ y4 66 12 s := fun j hj => by rw [eL, un_ne (fun e => hj (by rw [e]; exact hdiv))]; exact h3 j hj
        have g4 : RC y4 bs s (ws ++ [w]) 62 65 66 12 := by
          refine ⟨by rw [eA, pk_us, List.length_append, List.length_singleton, hl], fun j hj => ?_⟩
          rw [List.length_append, List.length_singleton, hl] at hj
          rw [eF, eL]
          by_cases e : j = k
          · rw [e, pk_us, pk_us, ← hl, getD_snoc_eq']
            exact ⟨p', hw2, rfl, rfl, hw3⟩
          · rw [un_ne (by omega), un_ne (by omega), getD_snoc_lt' (by omega)]
            exact hR.2 j (by omega)
        have go : ∀ w', w' ∈ ws ++ [w] → okW w' := fun w' hw' => by
          rw [List.mem_append, List.mem_singleton] at hw'
          rcases hw' with hw' | hw'
          · exact ho w' hw'
          · rw [hw']; exact hw1
        have hw5r := hw5
        rw [hy1] at hw5 h61b
        rcases hw6 with ⟨hw6, hw7⟩ | ⟨hw6, R, hw7⟩
        · have hM4 : MX y4 55 0 bs (p' + w.length) := hw6.fr hF4 (by decide) (by decide)
          obtain ⟨p2, y5, h4, h5, h6, h7, h8, h9, h10⟩ := m_look hM4
          have hil := m_isLetter h7
          have h38 := h7.2.2.2.2.2.1
          have et : tkR Jr 8 gr bs (p' + w.length) = tkR Jr 8 gr bs p2 := h9 Jr 8 gr (by decide)
          have htk2 := tk_head (J := Jr) (M := 8) (gr := gr) h5 h8
          rw [et] at hw7
          have ePW : pW (12 - k) (tkR Jr 8 gr bs p') = (enc w :: (pW (12 - (k + 1)) (tkR Jr 8 gr bs p2)).1, (pW (12 - (k + 1)) (tkR Jr 8 gr bs p2)).2) := by
            rw [hms, hw7]
            show (if 1000 ≤ 1000 + enc w then _ else _) = _
            rw [if_pos (Nat.le_add_right _ _), show 1000 + enc w - 1000 = enc w by omega]
          rw [ePW] at ht
          have ht2 : pW 12 (tkR Jr 8 gr bs p) = ((ws ++ [w]).map enc ++ (pW (12 - (k + 1)) (tkR Jr 8 gr bs p2)).1, (pW (12 - (k + 1)) (tkR Jr 8 gr bs p2)).2) := by
            rw [ht, List.map_append, List.append_assoc]
            rfl
          have hF5 : FR [62, 65, 66] [] [37, 38] [] τ y5 := hFt.tr (h6.mono (by decide) (by decide) (by decide) (by decide))
          have q1 : on1 τ y5 62 s := fun j hj => by rw [h6.1 62 (by decide)]; exact g1 j hj
          have q2 : onm τ y5 65 12 s := fun j hj => by rw [h6.1 65 (by decide)]; exact g2 j hj
          have q3 : onm τ y5 66 12 s := fun j hj => by rw [h6.1 66 (by decide)]; exact g3 j hj
          have q4 : RC y5 bs s (ws ++ [w]) 62 65 66 12 := by
            unfold RC
            rw [h6.1 62 (by decide), h6.1 65 (by decide), h6.1 66 (by decide)]
            exact g4
          by_cases hjr2 : p2 < bs.length ∧ Jr (bs.getD p2 0) = true
          · rw [decide_eq_true hjr2] at hil
            obtain ⟨υ, h11, h12, h13, h14, h15, h16⟩ := hkb (y5, p2, ws ++ [w]) hkl ⟨by show (ws ++ [w]).length = k + 1; rw [List.length_append, List.length_singleton, hl], h7, q4, go, hF5, q1, q2, q3, (fun hx => by omega), fun _ => hjr2, h8, ht2⟩
            refine ⟨υ, h11, h12, h13, h14, ?_, h16⟩
            rw [← h15]
            rw [hy4] at h10
            simp (disch := omega) only [l0, l1, l2, l3, l4, l5, l6, l7, l8, l9, l10, l11, l12, l16, l18, l19, l20, l21, l24, l96, l128, l100, l144, l200, l256, l288, l1536, l1728, l1800, bnd, nI_add, pk_mul, pI_sub, pI_m1, pT_le, pF_le, pT_lt, pF_lt, pT_eq, pF_eq, pF_m1, mF_eq, mT_eq, mT_lt, mF_le, lm1, rd_nI, wr_nI, cl_nI, pk_us, un_ne, pk_uLs, uL_ne, zI_uI, zI_uJ, zI_uA, zI_uB, zI_uR, zI_uN, zJ_uI, zJ_uJ, zJ_uA, zJ_uB, zJ_uR, zJ_uN, zA_uI, zA_uJ, zA_uA, zA_uB, zA_uR, zA_uN, zB_uI, zB_uJ, zB_uA, zB_uB, zB_uR, zB_uN, zR_uI, zR_uJ, zR_uA, zR_uB, zR_uR, zR_uN, zN_uI, zN_uJ, zN_uA, zN_uB, zN_uR, zN_uN, zI_ne, zJ_ne, zA_ne, zB_ne, zR_ne, zN_ne, bi_T, bi_F, nz16, ↓reduceIte, not_true_eq_false, not_false_eq_true, Bool.false_eq_true, reduceCtorEq, h61, l12, h37, h61b, hw5, h61c, h10, h38, mI_eq, hil]
          · rw [decide_eq_false hjr2] at hil
            have eP0 : pW (12 - (k + 1)) (tkR Jr 8 gr bs p2) = ([], tkR Jr 8 gr bs p2) := by
              apply pW_stop
              rcases htk2.2 with ⟨h11, h12⟩ | ⟨h11, h12, h13⟩ | ⟨h11, h12, h13⟩
              · omega
              · exact absurd ⟨h11, h12⟩ hjr2
              · rw [h13]
                have := hM.2.2.2.2.2.2.2.2.2 _ (getD_mem (d := 0) h11)
                show bs.getD p2 0 < 1000
                omega
            rw [eP0, List.append_nil] at ht2
            refine ⟨y5, hF5, q1, q2, q3, ?_, .inl ⟨p2, ws ++ [w], h7, q4, go, by simp, by rw [List.length_append, List.length_singleton]; omega, ht2⟩⟩
            rw [hy4] at h10
            simp (disch := omega) only [l0, l1, l2, l3, l4, l5, l6, l7, l8, l9, l10, l11, l12, l16, l18, l19, l20, l21, l24, l96, l128, l100, l144, l200, l256, l288, l1536, l1728, l1800, bnd, nI_add, pk_mul, pI_sub, pI_m1, pT_le, pF_le, pT_lt, pF_lt, pT_eq, pF_eq, pF_m1, mF_eq, mT_eq, mT_lt, mF_le, lm1, rd_nI, wr_nI, cl_nI, pk_us, un_ne, pk_uLs, uL_ne, zI_uI, zI_uJ, zI_uA, zI_uB, zI_uR, zI_uN, zJ_uI, zJ_uJ, zJ_uA, zJ_uB, zJ_uR, zJ_uN, zA_uI, zA_uJ, zA_uA, zA_uB, zA_uR, zA_uN, zB_uI, zB_uJ, zB_uA, zB_uB, zB_uR, zB_uN, zR_uI, zR_uJ, zR_uA, zR_uB, zR_uR, zR_uN, zN_uI, zN_uJ, zN_uA, zN_uB, zN_uR, zN_uN, zI_ne, zJ_ne, zA_ne, zB_ne, zR_ne, zN_ne, bi_T, bi_F, nz16, ↓reduceIte, not_true_eq_false, not_false_eq_true, Bool.false_eq_true, reduceCtorEq, h61, l12, h37, h61b, hw5, h61c, h10, h38, mI_eq, hil]
        · have hw37 : ∃ p3, p3 ≤ bs.length ∧ zI y2 37 = nI p3 := m_rw37 hM1 hw5r
          obtain ⟨p3, hp3, hw37⟩ := hw37
          obtain ⟨x, y5, h4, h5⟩ := m_lookF (σ := y4) (bs := bs) (p := p3) (by rw [hF4.2.2.1 36 (by decide), hw4.2.2.1 36 (by decide)]; exact hM1.2.2.2.1) (by rw [hF4.2.2.1 37 (by decide)]; exact hw37) (by rw [hF4.2.2.1 35 (by decide), hw4.2.2.1 35 (by decide)]; exact hM1.2.2.1) (by rw [hF4.2.2.2.2, hw4.2.2.2.2]; exact hM1.1) h200 hp3
          have h38 : zI y5 38 = nI (p' + 8) := by rw [h5.2.2.1 38 (by decide), hF4.2.2.1 38 (by decide)]; exact hw6
          have hf8 : p' + 8 < 1000 := by omega
          have ePW : pW (12 - k) (tkR Jr 8 gr bs p') = ([enc w], (257, p' + 8) :: R) := by
            rw [hms, hw7]
            show (if 1000 ≤ 1000 + enc w then _ else _) = _
            have e2 : pW (12 - (k + 1)) ((257, p' + 8) :: R) = ([], (257, p' + 8) :: R) := pW_stop (by show 257 < 1000; decide)
            rw [if_pos (Nat.le_add_right _ _), show 1000 + enc w - 1000 = enc w by omega, e2]
          rw [ePW] at ht
          refine ⟨y5, hFt.tr (h5.mono (by decide) (by decide) (by decide) (by decide)), (fun j hj => by rw [h5.1 62 (by decide)]; exact g1 j hj), (fun j hj => by rw [h5.1 65 (by decide)]; exact g2 j hj), (fun j hj => by rw [h5.1 66 (by decide)]; exact g3 j hj), ?_, .inr ⟨p' + 8, h38, hf8, .inr ⟨?_, ?_, ?_⟩⟩⟩
          · rw [hy4] at h4
            simp (disch := omega) only [l0, l1, l2, l3, l4, l5, l6, l7, l8, l9, l10, l11, l12, l16, l18, l19, l20, l21, l24, l96, l128, l100, l144, l200, l256, l288, l1536, l1728, l1800, bnd, nI_add, pk_mul, pI_sub, pI_m1, pT_le, pF_le, pT_lt, pF_lt, pT_eq, pF_eq, pF_m1, mF_eq, mT_eq, mT_lt, mF_le, lm1, rd_nI, wr_nI, cl_nI, pk_us, un_ne, pk_uLs, uL_ne, zI_uI, zI_uJ, zI_uA, zI_uB, zI_uR, zI_uN, zJ_uI, zJ_uJ, zJ_uA, zJ_uB, zJ_uR, zJ_uN, zA_uI, zA_uJ, zA_uA, zA_uB, zA_uR, zA_uN, zB_uI, zB_uJ, zB_uA, zB_uB, zB_uR, zB_uN, zR_uI, zR_uJ, zR_uA, zR_uB, zR_uR, zR_uN, zN_uI, zN_uJ, zN_uA, zN_uB, zN_uR, zN_uN, zI_ne, zJ_ne, zA_ne, zB_ne, zR_ne, zN_ne, bi_T, bi_F, nz16, ↓reduceIte, not_true_eq_false, not_false_eq_true, Bool.false_eq_true, reduceCtorEq, h61, l12, h37, h61b, hw5, h61c, h4, h38, mI_eq]
          · rw [ht]
            simp
          · rw [ht]
            rfl
          · rw [ht]
            show 257 ≤ 257
            exact Nat.le_refl _
      · have hk0 : k = 0 := by
          apply Decidable.byContradiction
          intro hx
          exact hjr (hj (by omega))
        have hw5 := m_readWord0 hM1 hjr
        have epp := hp hk0
        obtain ⟨y4, hy4⟩ : ∃ y4, y4 = uA (uA (uI y1 38 (nI p')) 66 (upd (zA y1 66) (12 * s + k) (nI 0))) 62 (upd (zA y1 62) s (nI (k + 1))) := ⟨_, rfl⟩
        have hF4 : FR [66, 62] [] [38] [] y1 y4 := by rw [hy4]; exact FR.uA (FR.uA (FR.uI (FR.rf _ _ _ _ _) (by decide)) (by decide)) (by decide)
        have eA : zA y4 62 = upd (zA y 62) s (nI (k + 1)) := by rw [hy4, zA_uA, hF1.1 62 (by decide)]
        have eF : zA y4 65 = upd (zA y 65) (12 * s + k) (nI p') := by rw [hF4.1 65 (by decide), hy1, zA_uA]
        have eL : zA y4 66 = upd (zA y 66) (12 * s + k) (nI 0) := by rw [hy4, zA_ne (by decide), zA_uA, hF1.1 66 (by decide)]
        obtain ⟨x, y5, h4, h5⟩ := m_lookF (σ := y4) (bs := bs) (p := p') (by rw [hF4.2.2.1 36 (by decide)]; exact hM1.2.2.2.1) (by rw [hF4.2.2.1 37 (by decide)]; exact hM1.2.2.2.2.1) (by rw [hF4.2.2.1 35 (by decide)]; exact hM1.2.2.1) (by rw [hF4.2.2.2.2]; exact hM1.1) h200 hpn
        have h38 : zI y5 38 = nI p' := by rw [h5.2.2.1 38 (by decide), hy4, zI_uA, zI_uA, zI_uI]
        have ePW : pW 12 (tkR Jr 8 gr bs p) = ([], tkR Jr 8 gr bs p) := by
          apply pW_stop
          rw [← epp]
          rcases htk.2 with ⟨h11, h12⟩ | ⟨h11, h12, h13⟩ | ⟨h11, h12, h13⟩
          · omega
          · exact absurd ⟨h11, h12⟩ hjr
          · rw [h13]
            have := hM.2.2.2.2.2.2.2.2.2 _ (getD_mem (d := 0) h11)
            show bs.getD p' 0 < 1000
            omega
        refine ⟨y5, ((hF.tr (hF1.mono (by decide) (by decide) (by decide) (by decide))).tr (hF4.mono (by decide) (by decide) (by decide) (by decide))).tr (h5.mono (by decide) (by decide) (by decide) (by decide)), (fun j hj => by rw [h5.1 62 (by decide), eA, un_ne hj]; exact h1 j hj), (fun j hj => by rw [h5.1 65 (by decide), eF, un_ne (fun e => hj (by rw [e]; exact hdiv))]; exact h2 j hj), (fun j hj => by rw [h5.1 66 (by decide), eL, un_ne (fun e => hj (by rw [e]; exact hdiv))]; exact h3 j hj), ?_, .inr ⟨p', h38, by omega, .inl ⟨by rw [ePW], by rw [← epp]; exact htk.1⟩⟩⟩
        rw [hy1] at hw5 h61b
        rw [hy4, hy1] at h4
        simp (disch := omega) only [l0, l1, l2, l3, l4, l5, l6, l7, l8, l9, l10, l11, l12, l16, l18, l19, l20, l21, l24, l96, l128, l100, l144, l200, l256, l288, l1536, l1728, l1800, bnd, nI_add, pk_mul, pI_sub, pI_m1, pT_le, pF_le, pT_lt, pF_lt, pT_eq, pF_eq, pF_m1, mF_eq, mT_eq, mT_lt, mF_le, lm1, rd_nI, wr_nI, cl_nI, pk_us, un_ne, pk_uLs, uL_ne, zI_uI, zI_uJ, zI_uA, zI_uB, zI_uR, zI_uN, zJ_uI, zJ_uJ, zJ_uA, zJ_uB, zJ_uR, zJ_uN, zA_uI, zA_uJ, zA_uA, zA_uB, zA_uR, zA_uN, zB_uI, zB_uJ, zB_uA, zB_uB, zB_uR, zB_uN, zR_uI, zR_uJ, zR_uA, zR_uB, zR_uR, zR_uN, zN_uI, zN_uJ, zN_uA, zN_uB, zN_uR, zN_uN, zI_ne, zJ_ne, zA_ne, zB_ne, zR_ne, zN_ne, bi_T, bi_F, nz16, ↓reduceIte, not_true_eq_false, not_false_eq_true, Bool.false_eq_true, reduceCtorEq] at h4
        simp (disch := omega) only [l0, l1, l2, l3, l4, l5, l6, l7, l8, l9, l10, l11, l12, l16, l18, l19, l20, l21, l24, l96, l128, l100, l144, l200, l256, l288, l1536, l1728, l1800, bnd, nI_add, pk_mul, pI_sub, pI_m1, pT_le, pF_le, pT_lt, pF_lt, pT_eq, pF_eq, pF_m1, mF_eq, mT_eq, mT_lt, mF_le, lm1, rd_nI, wr_nI, cl_nI, pk_us, un_ne, pk_uLs, uL_ne, zI_uI, zI_uJ, zI_uA, zI_uB, zI_uR, zI_uN, zJ_uI, zJ_uJ, zJ_uA, zJ_uB, zJ_uR, zJ_uN, zA_uI, zA_uJ, zA_uA, zA_uB, zA_uR, zA_uN, zB_uI, zB_uJ, zB_uA, zB_uB, zB_uR, zB_uN, zR_uI, zR_uJ, zR_uA, zR_uB, zR_uR, zR_uN, zN_uI, zN_uJ, zN_uA, zN_uB, zN_uR, zN_uN, zI_ne, zJ_ne, zA_ne, zB_ne, zR_ne, zN_ne, bi_T, bi_F, nz16, ↓reduceIte, not_true_eq_false, not_false_eq_true, Bool.false_eq_true, reduceCtorEq, h61, l12, h37, h61b, hw5, h4, h38, mI_eq]
