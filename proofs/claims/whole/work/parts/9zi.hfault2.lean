/-! fault of a habit: both sides; fault and text of no kind *-/
theorem sf_fr22 {σ τ : St} {B K : List Nat} {k v : Nat} (f : FR [22] B K [] (uR σ k v) τ) (hv : v ≠ 45 ∧ v ≠ 46) (hB : ∀ q, q ∈ B → q ∉ pB) (hK : ∀ q, q ∈ K → q ∉ pI) (hp : P22 τ) : SF σ τ :=
  ⟨fun q _ hn => f.1 q (fun x => hn (by
      rw [List.mem_singleton] at x
      rw [x]
      decide)), fun q hq => f.2.1 q (fun x => hB q x hq), fun q hq => f.2.2.1 q (fun x => hK q x hq), by
    funext j
    exact f.2.2.2.1 j (by intro x; cases x), fun r j => by
    rw [f.2.2.2.2]
    exact (rOk_uR hv r) j, eqOn.of (f.1 60 (by decide)), eqOn.of (f.1 61 (by decide)), eqOn.of (f.1 62 (by decide)), eqOn.of (f.1 63 (by decide)), eqOn.of (f.1 64 (by decide)), eqOn.of (f.1 65 (by decide)), eqOn.of (f.1 66 (by decide)), eqOn.of (f.1 67 (by decide)), eqOn.of (f.1 68 (by decide)), fun _ => hp⟩
theorem bnd6_n {n : Nat} (h : n < 1000) : bnd6 (n : Int) := by
  unfold bnd6
  omega
theorem m_fault_h {σ : St} {bs : List Nat} {n v f l w : Nat} (h : TP σ bs) (hX : (tkF Jh 4 gh bs).length ≤ 201) (h1 : n < 1000) (h2 : v < 1000) (h3 : f < 1000) (h4 : l < 1000) (h5 : w < 1000) (heb : eB (evS n v f l w)) : ∃ υ, fX12_fault σ (nI 2) = some (fx (pHab (evS n v f l w) bs).2, υ) ∧ SE σ υ := by
  have hda : ∀ j, j < bs.length → zA (uI σ 30 (nI 0)) 55 (0 + j) = sbv (bs.getD j 0) := by
    intro j hj
    rw [Nat.zero_add, zA_uI]
    exact h.2.2.2.2.2 j hj
  obtain ⟨υ, a1, a2, a3, _⟩ := m_go_55 (σ := uI σ 30 (nI 0)) (b0 := 0) (bs := bs) ⟨bnd6_n h1, bnd6_n h2, bnd6_n h3, bnd6_n h4, bnd6_n h5⟩ heb (by have := h.1; omega) hda h.1 h.2.1 (gX_F h.1 h.2.1 hX)
  refine ⟨υ, ?_, (se30 σ (nI 0)).tr (se_fr a2 (by decide) (by decide) (by decide) (by decide))⟩
  have hin := m_isIn (a := 2) (b := 0) (c := 2) (by decide) (by decide) (by decide)
  rw [decide_eq_true (show 0 ≤ 2 ∧ 2 ≤ 2 by decide)] at hin
  have h31 := h.2.2.2.1
  unfold fX12_fault
  simp (disch := omega) only [l0, l1, l2, l3, l4, l5, l6, l7, l8, l9, l10, l11, l12, l16, l18, l19, l20, l21, l24, l96, l128, l100, l144, l200, l256, l288, l1536, l1728, l1800, bnd, nI_add, pk_mul, pI_sub, pI_m1, pT_le, pF_le, pT_lt, pF_lt, pT_eq, pF_eq, pF_m1, mF_eq, mT_eq, mT_lt, mF_le, lm1, rd_nI, wr_nI, cl_nI, pk_us, un_ne, pk_uLs, uL_ne, zI_uI, zI_uJ, zI_uA, zI_uB, zI_uR, zI_uN, zJ_uI, zJ_uJ, zJ_uA, zJ_uB, zJ_uR, zJ_uN, zA_uI, zA_uJ, zA_uA, zA_uB, zA_uR, zA_uN, zB_uI, zB_uJ, zB_uA, zB_uB, zB_uR, zB_uN, zR_uI, zR_uJ, zR_uA, zR_uB, zR_uR, zR_uN, zN_uI, zN_uJ, zN_uA, zN_uB, zN_uR, zN_uN, zI_ne, zJ_ne, zA_ne, zB_ne, zR_ne, zN_ne, bi_T, bi_F, nz16, ↓reduceIte, not_true_eq_false, not_false_eq_true, Bool.false_eq_true, reduceCtorEq, hin, h31, a1, a3]
theorem t_fault_h {σ : St} {bs : List Nat} (h : TP σ bs) (h22 : P22 σ) (h15 : E15 σ) : ∃ τ υ n v f l w, n < 1000 ∧ v < 1000 ∧ f < 1000 ∧ l < 1000 ∧ w < 1000 ∧ eB (evS n v f l w) ∧ fX5_faultOf_h σ = some (fx (pHab (evS n v f l w) bs).2, τ) ∧ SF σ τ ∧ RW τ 21 22 (tkF Jh 4 gh bs) ∧ (tkF Jh 4 gh bs).length ≤ 201 ∧ FR [22] [21] [9, 10, 16] [] (uR σ 2 21) τ ∧ fX12_fault τ (nI 2) = some (fx (pHab (evS n v f l w) bs).2, υ) ∧ SE τ υ := by
  obtain ⟨n, v, f, l, w, h1, h2, h3, h4, h5, hE⟩ := h15.ec
  obtain ⟨τ, a1, a2, a3, a4, a5⟩ := c_faultOf_h h.2.2.1 h.2.2.2.2.1 h.1 h.2.1 h22 hE
  have hsf : SF σ τ := sf_fr22 a1 (by decide) (by decide) (by decide) a3
  obtain ⟨υ, b1, b2⟩ := m_fault_h (h.sf hsf) a5 h1 h2 h3 h4 h5 hE.eb
  exact ⟨τ, υ, n, v, f, l, w, h1, h2, h3, h4, h5, hE.eb, a2, hsf, a4, a5, a1, b1, b2⟩
theorem m_isIn3 {p : Int32} (h0 : p ≠ nI 0) (h1 : p ≠ nI 1) (h2 : p ≠ nI 2) : fX12_isIn p (nI 0) (nI 2) = some false := by
  rcases i32_of p with hn | ⟨k, hk, rfl⟩
  · exact m_isInN hn
  · rw [m_isIn (by omega) (by decide) (by decide), decide_eq_false]
    intro h
    have h3 : k = 0 ∨ k = 1 ∨ k = 2 := by omega
    rcases h3 with h3 | h3 | h3
    · exact h0 (by rw [h3])
    · exact h1 (by rw [h3])
    · exact h2 (by rw [h3])
theorem l_m2 : (-2 : Int32) = -nI 2 := nrfl rfl
theorem t_fault_o {σ : St} {p : Int32} (h0 : p ≠ nI 0) (h1 : p ≠ nI 1) (h2 : p ≠ nI 2) : ∃ r υ, fX11_fault σ p = some (r, σ) ∧ fX12_fault σ p = some (r, υ) ∧ SE σ υ := by
  refine ⟨-2, uI σ 30 (nI 0), ?_, ?_, se30 σ _⟩
  · unfold fX11_fault
    rw [l0, l1, l2, if_neg h0, if_neg h1, if_neg h2]
  · have hin := m_isIn3 h0 h1 h2
    unfold fX12_fault
    rw [bnd, l0, l2, hin, bnd, if_pos bi_F]
theorem t_text_o {σ : St} {p : Int32} (h0 : p ≠ nI 0) (h1 : p ≠ nI 1) (h2 : p ≠ nI 2) : ∃ r υ, fX11_text σ p = some (r, σ) ∧ fX12_text σ p = some (r, υ) ∧ SE σ υ := by
  refine ⟨-1, uI σ 30 (nI 0), ?_, ?_, se30 σ _⟩
  · unfold fX11_text
    rw [l0, l1, l2, if_neg h0, if_neg h1, if_neg h2]
  · have hin := m_isIn3 h0 h1 h2
    unfold fX12_text
    rw [bnd, l0, l2, hin, bnd, if_pos bi_F]
/-- where a habit ends doesn't hang on the letters' values *-/
def sD (e e' : En) : Prop := ∀ s, (e s = none ↔ e' s = none)
def sT (s s' : Sx → Int × Sx) : Prop := ∀ x, (s x).2 = (s' x).2
def sB (s s' : Sx → Bool × Sx) : Prop := ∀ x, (s x).2 = (s' x).2
theorem tmL_s {a a' : Sx → Int × Sx} (h : sT a a') : ∀ (n : Nat) (v v' : Int) (x : Sx), (tmL a n v x).2 = (tmL a' n v' x).2
  | 0, v, v', x => rfl
  | n + 1, v, v', x => by
    unfold tmL
    split
    · rw [h (tlx x)]; exact tmL_s h n _ _ _
    · split
      · rw [h (tlx x)]; exact tmL_s h n _ _ _
      · rfl
theorem tmS_s {a a' : Sx → Int × Sx} (h : sT a a') : sT (tmS a) (tmS a') := by
  intro x
  unfold tmS
  rw [h x]
  exact tmL_s h 200 _ _ _
theorem smL_s {a a' : Sx → Int × Sx} (h : sT a a') : ∀ (n : Nat) (v v' : Int) (x : Sx), (smL a n v x).2 = (smL a' n v' x).2
  | 0, v, v', x => rfl
  | n + 1, v, v', x => by
    unfold smL
    split
    · rw [h (tlx x)]; exact smL_s h n _ _ _
    · split
      · rw [h (tlx x)]; exact smL_s h n _ _ _
      · rfl
theorem smS_s {a a' : Sx → Int × Sx} (h : sT a a') : sT (smS a) (smS a') := by
  intro x
  unfold smS
  rw [tmS_s h x]
  exact smL_s (tmS_s h) 200 _ _ _
theorem atB_s {e e' : En} (he : sD e e') {sm sm' : Nat → Sx → Int × Sx} (h : ∀ dp, sT (sm dp) (sm' dp)) (dp : Nat) : sT (atB sm e dp) (atB sm' e' dp) := by
  intro x
  unfold atB
  split
  · show nd 93 _ = nd 93 _
    rw [h (dp + 1) (tlx x)]
  · split
    · rfl
    · cases h1 : e (sg x) with
      | none =>
        rw [(he _).mp h1]
      | some v =>
        cases h2 : e' (sg x) with
        | none => rw [(he _).mpr h2] at h1; cases h1
        | some v' => rfl
theorem atS_s {e e' : En} (he : sD e e') : ∀ (k dp : Nat), sT (atS e k dp) (atS e' k dp)
  | 0, dp => fun x => rfl
  | k + 1, dp => atB_s he (fun dp => smS_s (atS_s he k dp)) dp
theorem smD_s {e e' : En} (he : sD e e') (dp : Nat) : sT (smD e dp) (smD e' dp) := smS_s (atS_s he 8 dp)
theorem cmS_s {e e' : En} (he : sD e e') (dp : Nat) (l l' : Int) : sB (cmS e dp l) (cmS e' dp l') := by
  intro x
  unfold cmS
  split
  · exact smD_s he dp (tlx x)
  · rfl
theorem bsS_s {e e' : En} (he : sD e e') {cd cd' : Nat → Sx → Bool × Sx} (h : ∀ dp, sB (cd dp) (cd' dp)) (dp : Nat) : sB (bsS cd e dp) (bsS cd' e' dp) := by
  intro x
  unfold bsS
  split
  · show nd 41 _ = nd 41 _
    rw [h (dp + 1) (tlx x)]
  · rw [smD_s he dp x]
    exact cmS_s he dp _ _ _
theorem unN_s {e e' : En} (he : sD e e') {cd cd' : Nat → Sx → Bool × Sx} (h : ∀ dp, sB (cd dp) (cd' dp)) : ∀ (n dp : Nat), sB (unN cd e n dp) (unN cd' e' n dp)
  | 0, dp => bsS_s he h dp
  | n + 1, dp => by
    intro x
    unfold unN
    split
    · exact unN_s he h n (dp + 1) (tlx x)
    · exact bsS_s he h dp x
theorem ulL_s {u u' : Sx → Bool × Sx} (h : sB u u') : ∀ (n : Nat) (a a' : Bool) (x : Sx), (ulL u n a x).2 = (ulL u' n a' x).2
  | 0, a, a', x => rfl
  | n + 1, a, a', x => by
    unfold ulL
    split
    · rw [h (tlx x)]; exact ulL_s h n _ _ _
    · rfl
theorem ptS_s {u u' : Sx → Bool × Sx} (h : sB u u') : sB (ptS u) (ptS u') := by
  intro x
  unfold ptS
  rw [h x]
  exact ulL_s h 200 _ _ _
theorem trL_s {u u' : Sx → Bool × Sx} (h : sB u u') : ∀ (n : Nat) (a a' : Bool) (x : Sx), (trL u n a x).2 = (trL u' n a' x).2
  | 0, a, a', x => rfl
  | n + 1, a, a', x => by
    unfold trL
    split
    · rw [ptS_s h (tlx x)]; exact trL_s h n _ _ _
    · rfl
theorem hcS_s {u u' : Sx → Bool × Sx} (h : sB u u') : sB (hcS u) (hcS u') := by
  intro x
  unfold hcS
  rw [ptS_s h x]
  exact trL_s h 200 _ _ _
theorem unS_s {e e' : En} (he : sD e e') : ∀ (k dp : Nat), sB (unS e k dp) (unS e' k dp)
  | 0, dp => fun x => rfl
  | k + 1, dp => unN_s he (fun dp => hcS_s (unS_s he k dp)) (6 - dp) dp
theorem cls_s {e e' : En} (he : sD e e') (x : Sx) : (cls e x).2.2 = (cls e' x).2.2 := by
  have h1 : (clC1 e x).2 = (clC1 e' x).2 := hcS_s (unS_s he 8 0) (clX x)
  have h2 : (clV0 e x).2 = (clV0 e' x).2 := smD_s he 0 (clX x)
  have h3 : (clC0 e x).2 = (clC0 e' x).2 := by
    unfold clC0 clC0.ptS2
    rw [h2, cmS_s he 0 (clV0 e x).1 (clV0 e' x).1 (clV0 e' x).2]
    exact ulL_s (unS_s he 8 0) 200 _ _ _
  have h4 : (clC2 e x).2 = (clC2 e' x).2 := by
    unfold clC2
    rw [h3]
    exact trL_s (unS_s he 8 0) 200 _ _ _
  unfold cls
  rw [h2]
  split
  · show (clV e (clC1 e x)).2 = (clV e' (clC1 e' x)).2
    unfold clV
    rw [h1]
    exact smD_s he 0 _
  · split
    · show (clV e (clC2 e x)).2 = (clV e' (clC2 e' x)).2
      unfold clV
      rw [h4]
      exact smD_s he 0 _
    · exact h2
theorem clL_e (e : En) (n : Nat) (h : Bool) (w : Int) (x : Sx) : clL e (n + 1) h w x = if tb 59 (cls e x).2.2 = true then clL e n (h || (cls e x).1) (if ((cls e x).1 && !h) = true then (cls e x).2.1 else w) (tlx (cls e x).2.2) else (if ((cls e x).1 && !h) = true then (cls e x).2.1 else w, (cls e x).2.2) := rfl
theorem clL_s {e e' : En} (he : sD e e') (n : Nat) : ∀ (h h' : Bool) (w w' : Int) (x : Sx), (clL e n h w x).2 = (clL e' n h' w' x).2 := by
  induction n with
  | zero => intro h h' w w' x; rfl
  | succ n ih =>
    intro h h' w w' x
    have hc := cls_s he x
    rw [clL_e, clL_e]
    by_cases hb : tb 59 (cls e' x).2.2 = true
    · have hb2 : tb 59 (cls e x).2.2 = true := by rw [hc]; exact hb
      rw [if_pos hb, if_pos hb2, hc]
      exact ih _ _ _ _ _
    · have hb2 : ¬ tb 59 (cls e x).2.2 = true := by rw [hc]; exact hb
      rw [if_neg hb, if_neg hb2]
      exact hc
theorem pHab_s {e e' : En} (he : sD e e') (bs : List Nat) : (pHab e bs).2 = (pHab e' bs).2 := clL_s he 200 _ _ _ _ _
theorem evS_s (n v f l w n' v' f' l' w' : Nat) : sD (evS n v f l w) (evS n' v' f' l' w') := by
  have go : ∀ (n v f l w n' v' f' l' w' s : Nat), evS n v f l w s = none → evS n' v' f' l' w' s = none := by
    intro n v f l w n' v' f' l' w' s h
    cases h2 : evS n' v' f' l' w' s with
    | none => rfl
    | some z =>
      obtain ⟨z', hz⟩ := (ev_isA (n := n) (v := v) (f := f) (l := l) (w := w)).mp (ev_isA.mpr ⟨z, h2⟩)
      rw [h] at hz
      cases hz
  exact fun s => ⟨go _ _ _ _ _ _ _ _ _ _ s, go _ _ _ _ _ _ _ _ _ _ s⟩
