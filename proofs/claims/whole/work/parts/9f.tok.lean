/-! tokens (no program here); rows of tokens *-/
abbrev Tk : Type := Nat × Nat
def tk (J : Nat → Bool) (M : Nat) (gr : Nat → Nat → Nat) : List Nat → Nat → Nat → Option Tk → List Tk
  | [], _, _, none => []
  | [], _, _, some p => [(1000 + p.1, p.2)]
  | c :: l, pos, run, some p => if J c = true then (if run < M then tk J M gr l (pos + 1) (run + 1) (some (gr p.1 c, p.2)) else (1000 + p.1, p.2) :: (257, pos) :: tk J M gr l (pos + 1) (run + 1) none) else (1000 + p.1, p.2) :: (if c = 32 then tk J M gr l (pos + 1) 0 none else (c, pos) :: tk J M gr l (pos + 1) 0 none)
  | c :: l, pos, run, none => if J c = true then (if 0 < run then (257, pos) :: tk J M gr l (pos + 1) (run + 1) none else tk J M gr l (pos + 1) 1 (some (gr 0 c, pos))) else (if c = 32 then tk J M gr l (pos + 1) 0 none else (c, pos) :: tk J M gr l (pos + 1) 0 none)
theorem tk_cN (J : Nat → Bool) (M : Nat) (gr : Nat → Nat → Nat) (c : Nat) (l : List Nat) (pos run : Nat) : tk J M gr (c :: l) pos run none = if J c = true then (if 0 < run then (257, pos) :: tk J M gr l (pos + 1) (run + 1) none else tk J M gr l (pos + 1) 1 (some (gr 0 c, pos))) else (if c = 32 then tk J M gr l (pos + 1) 0 none else (c, pos) :: tk J M gr l (pos + 1) 0 none) := by rw [tk]
theorem tk_cS (J : Nat → Bool) (M : Nat) (gr : Nat → Nat → Nat) (c : Nat) (l : List Nat) (pos run : Nat) (p : Tk) : tk J M gr (c :: l) pos run (some p) = if J c = true then (if run < M then tk J M gr l (pos + 1) (run + 1) (some (gr p.1 c, p.2)) else (1000 + p.1, p.2) :: (257, pos) :: tk J M gr l (pos + 1) (run + 1) none) else (1000 + p.1, p.2) :: (if c = 32 then tk J M gr l (pos + 1) 0 none else (c, pos) :: tk J M gr l (pos + 1) 0 none) := by rw [tk]
/-- all tokens of a text, the end behind them -/
def tkF (J : Nat → Bool) (M : Nat) (gr : Nat → Nat → Nat) (bs : List Nat) : List Tk := tk J M gr bs 0 0 none ++ [(256, bs.length)]
/-- the tokens from a place on where none is under way -/
def tkR (J : Nat → Bool) (M : Nat) (gr : Nat → Nat → Nat) (bs : List Nat) (p : Nat) : List Tk := tk J M gr (bs.drop p) p 0 none ++ [(256, bs.length)]
/-- the same within joined bytes: r of them from place s on, of value v -/
def tkW (J : Nat → Bool) (M : Nat) (gr : Nat → Nat → Nat) (bs : List Nat) (p r v s : Nat) : List Tk := tk J M gr (bs.drop p) p r (some (v, s)) ++ [(256, bs.length)]
def rows (D : List Tk) : Option Tk → List Tk
  | none => D
  | some p => D ++ [(1000 + p.1, p.2)]
def RW (τ : St) (q pl : Nat) (T : List Tk) : Prop := ∀ k, k < T.length → zB τ q k = lN (T.getD k (0, 0)).1 ∧ zA τ pl k = nI (T.getD k (0, 0)).2
theorem getD_snoc_eq' {α : Type} {l : List α} {a d : α} : (l ++ [a]).getD l.length d = a := by
  rw [List.getD_eq_getElem?_getD, List.getElem?_append_right (Nat.le_refl _), Nat.sub_self]
  rfl
theorem getD_snoc_lt' {α : Type} {l m : List α} {d : α} {j : Nat} (h : j < l.length) : (l ++ m).getD j d = l.getD j d := by
  rw [List.getD_eq_getElem?_getD, List.getElem?_append_left h, List.getD_eq_getElem?_getD]
theorem RW_add {τ : St} {q pl v s : Nat} {T : List Tk} (h : RW τ q pl T) : RW (uA (uB τ q (vp_updL (zB τ q) T.length (lN v))) pl (upd (zA τ pl) T.length (nI s))) q pl (T ++ [(v, s)]) := by
  intro k hk
  rw [List.length_append, List.length_singleton] at hk
  rw [zB_uA, zB_uB, zA_uA]
  by_cases e : k = T.length
  · rw [e, pk_uLs, pk_us, getD_snoc_eq']
    exact ⟨rfl, rfl⟩
  · rw [uL_ne e, un_ne e, getD_snoc_lt' (by omega)]
    exact h k (by omega)
theorem RW_last {τ : St} {q pl v s w : Nat} {D : List Tk} (h : RW τ q pl (D ++ [(v, s)])) : RW (uB τ q (vp_updL (zB τ q) D.length (lN w))) q pl (D ++ [(w, s)]) := by
  intro k hk
  rw [List.length_append, List.length_singleton] at hk
  have h2 := h k (by rw [List.length_append, List.length_singleton]; exact hk)
  rw [zB_uB, zA_uB]
  by_cases e : k = D.length
  · rw [e, getD_snoc_eq'] at h2
    rw [e, pk_uLs, getD_snoc_eq']
    exact ⟨rfl, h2.2⟩
  · rw [getD_snoc_lt' (by omega)] at h2
    rw [uL_ne e, getD_snoc_lt' (by omega)]
    exact h2
theorem RW.fr {σ τ : St} {q pl : Nat} {T : List Tk} {A B K N : List Nat} (h : RW σ q pl T) (f : FR A B K N σ τ) (hA : pl ∉ A) (hB : q ∉ B) : RW τ q pl T := by
  unfold RW
  rw [f.1 pl hA, f.2.1 q hB]
  exact h
theorem sbv_and : ∀ b, b < 256 → sbv b &&& 255 = nI b := by decide +kernel
theorem l255 : (255 : Int32) = nI 255 := nrfl rfl
theorem l256L : (256 : Int64) = lN 256 := nrfl rfl
theorem l257L : (257 : Int64) = lN 257 := nrfl rfl
theorem l1000L : (1000 : Int64) = lN 1000 := nrfl rfl
theorem lN_subl {a b : Nat} : lN (a + b) - lN a = lN b := by
  apply wb_inj
  show BitVec.ofNat 64 (a + b) - BitVec.ofNat 64 a = BitVec.ofNat 64 b
  rw [BitVec.ofNat_add, BitVec.add_comm, BitVec.add_sub_cancel]
theorem c_at {τ : St} {bs : List Nat} {p : Nat} (h2 : zI τ 2 = nI bs.length) (h11 : hB (zA τ 11) bs) (hl : bs.length ≤ 200) (hb : ∀ b, b ∈ bs → 1 ≤ b ∧ b < 256) (hp : p < bs.length) : fX9_at τ (nI p) = some (nI (bs.getD p 0)) := by
  have h3 := h11 p hp
  have h4 := sbv_and _ (hb _ (getD_mem (d := 0) hp)).2
  unfold fX9_at
  simp (disch := omega) only [l0, l1, l2, l3, l4, l5, l6, l7, l8, l9, l10, l11, l12, l16, l18, l19, l20, l21, l24, l96, l128, l100, l144, l200, l256, l288, l1536, l1728, l1800, bnd, nI_add, pk_mul, pI_sub, pI_m1, pT_le, pF_le, pT_lt, pF_lt, pT_eq, pF_eq, pF_m1, mF_eq, mT_eq, mT_lt, mF_le, lm1, rd_nI, wr_nI, cl_nI, pk_us, un_ne, pk_uLs, uL_ne, zI_uI, zI_uJ, zI_uA, zI_uB, zI_uR, zI_uN, zJ_uI, zJ_uJ, zJ_uA, zJ_uB, zJ_uR, zJ_uN, zA_uI, zA_uJ, zA_uA, zA_uB, zA_uR, zA_uN, zB_uI, zB_uJ, zB_uA, zB_uB, zB_uR, zB_uN, zR_uI, zR_uJ, zR_uA, zR_uB, zR_uR, zR_uN, zN_uI, zN_uJ, zN_uA, zN_uB, zN_uR, zN_uN, zI_ne, zJ_ne, zA_ne, zB_ne, zR_ne, zN_ne, bi_T, bi_F, nz16, ↓reduceIte, not_true_eq_false, not_false_eq_true, Bool.false_eq_true, reduceCtorEq, h2, h3]
  rw [h4]
/-- what every token's number is below -/
theorem tk_lt {J : Nat → Bool} {M : Nat} {gr : Nat → Nat → Nat} {B : Nat → Nat} {K : Nat} (hB : ∀ r v c, J c = true → v < B r → r < M → gr v c < B (r + 1)) (h0 : 0 < B 0) (hM : 0 < M ∨ ∀ c, J c = false) (hK : ∀ r, r ≤ M → B r + 1000 ≤ K) (h257 : 257 < K) : ∀ (l : List Nat) (pos run : Nat) (pend : Option Tk), (∀ b, b ∈ l → b < 256) → (∀ p, pend = some p → p.1 < B run ∧ run ≤ M) → ∀ t, t ∈ tk J M gr l pos run pend → t.1 < K
  | [], _, _, none, _, _, t, ht => nomatch ht
  | [], _, run, some p, _, hp, t, ht => by
    have h1 := hp p rfl
    have h2 := hK run h1.2
    rw [show tk J M gr [] _ run (some p) = [(1000 + p.1, p.2)] from rfl, List.mem_singleton] at ht
    rw [ht]
    show 1000 + p.1 < K
    omega
  | c :: l, pos, run, some p, hl, hp, t, ht => by
    have h1 := hp p rfl
    have h2 := hK run h1.2
    have hc := hl c List.mem_cons_self
    have hl2 : ∀ b, b ∈ l → b < 256 := fun b hb => hl b (List.mem_cons_of_mem _ hb)
    unfold tk at ht
    split at ht
    · rename_i hj
      split at ht
      · rename_i hr
        exact tk_lt hB h0 hM hK h257 l _ _ _ hl2 (fun q hq => by cases hq; exact ⟨hB run p.1 c hj h1.1 hr, hr⟩) t ht
      · rw [List.mem_cons, List.mem_cons] at ht
        rcases ht with ht | ht | ht
        · rw [ht]; show 1000 + p.1 < K; omega
        · rw [ht]; exact h257
        · exact tk_lt hB h0 hM hK h257 l _ _ _ hl2 (fun q hq => by cases hq) t ht
    · rw [List.mem_cons] at ht
      rcases ht with ht | ht
      · rw [ht]; show 1000 + p.1 < K; omega
      · split at ht
        · exact tk_lt hB h0 hM hK h257 l _ _ _ hl2 (fun q hq => by cases hq) t ht
        · rw [List.mem_cons] at ht
          rcases ht with ht | ht
          · rw [ht]; show c < K; omega
          · exact tk_lt hB h0 hM hK h257 l _ _ _ hl2 (fun q hq => by cases hq) t ht
  | c :: l, pos, run, none, hl, hp, t, ht => by
    have hc := hl c List.mem_cons_self
    have hl2 : ∀ b, b ∈ l → b < 256 := fun b hb => hl b (List.mem_cons_of_mem _ hb)
    unfold tk at ht
    split at ht
    · rename_i hj
      split at ht
      · rw [List.mem_cons] at ht
        rcases ht with ht | ht
        · rw [ht]; exact h257
        · exact tk_lt hB h0 hM hK h257 l _ _ _ hl2 (fun q hq => by cases hq) t ht
      · exact tk_lt hB h0 hM hK h257 l _ _ _ hl2 (fun q hq => by
          cases hq
          rcases hM with hM | hM
          · exact ⟨hB 0 0 c hj h0 hM, hM⟩
          · rw [hM c] at hj
            cases hj) t ht
    · split at ht
      · exact tk_lt hB h0 hM hK h257 l _ _ _ hl2 (fun q hq => by cases hq) t ht
      · rw [List.mem_cons] at ht
        rcases ht with ht | ht
        · rw [ht]; show c < K; omega
        · exact tk_lt hB h0 hM hK h257 l _ _ _ hl2 (fun q hq => by cases hq) t ht
/-! the tokens from a place on -/
theorem drop_get' {l : List Nat} {k : Nat} (h : k < l.length) : l.drop k = l.getD k 0 :: l.drop (k + 1) := drop_get h
theorem drop_end {l : List Nat} {k : Nat} (h : l.length ≤ k) : l.drop k = [] := List.drop_eq_nil_of_le h
theorem tkR_end {J : Nat → Bool} {M : Nat} {gr : Nat → Nat → Nat} {bs : List Nat} {p : Nat} (h : bs.length ≤ p) : tkR J M gr bs p = [(256, bs.length)] := by
  unfold tkR
  rw [drop_end h]
  rfl
theorem tkR_blank {J : Nat → Bool} {M : Nat} {gr : Nat → Nat → Nat} {bs : List Nat} {p : Nat} (h : p < bs.length) (hj : J 32 = false) (hb : bs.getD p 0 = 32) : tkR J M gr bs p = tkR J M gr bs (p + 1) := by
  unfold tkR
  rw [drop_get' h, hb, tk_cN, if_neg (by rw [hj]; decide), if_pos rfl]
theorem tkR_sign {J : Nat → Bool} {M : Nat} {gr : Nat → Nat → Nat} {bs : List Nat} {p : Nat} (h : p < bs.length) (hj : J (bs.getD p 0) = false) (hb : bs.getD p 0 ≠ 32) : tkR J M gr bs p = (bs.getD p 0, p) :: tkR J M gr bs (p + 1) := by
  unfold tkR
  rw [drop_get' h, tk_cN, if_neg (by rw [hj]; decide), if_neg hb]
  rfl
theorem tkR_join {J : Nat → Bool} {M : Nat} {gr : Nat → Nat → Nat} {bs : List Nat} {p : Nat} (h : p < bs.length) (hj : J (bs.getD p 0) = true) : tkR J M gr bs p = tkW J M gr bs (p + 1) 1 (gr 0 (bs.getD p 0)) p := by
  unfold tkR tkW
  rw [drop_get' h, tk_cN, if_pos hj, if_neg (Nat.lt_irrefl 0)]
theorem tkW_end {J : Nat → Bool} {M : Nat} {gr : Nat → Nat → Nat} {bs : List Nat} {p r v s : Nat} (h : bs.length ≤ p) : tkW J M gr bs p r v s = (1000 + v, s) :: tkR J M gr bs p := by
  unfold tkW
  rw [tkR_end h, drop_end h]
  rfl
theorem tkW_join {J : Nat → Bool} {M : Nat} {gr : Nat → Nat → Nat} {bs : List Nat} {p r v s : Nat} (h : p < bs.length) (hj : J (bs.getD p 0) = true) (hr : r < M) : tkW J M gr bs p r v s = tkW J M gr bs (p + 1) (r + 1) (gr v (bs.getD p 0)) s := by
  unfold tkW
  rw [drop_get' h, tk_cS, if_pos hj, if_pos hr]
theorem tkW_over {J : Nat → Bool} {M : Nat} {gr : Nat → Nat → Nat} {bs : List Nat} {p r v s : Nat} (h : p < bs.length) (hj : J (bs.getD p 0) = true) (hr : ¬ r < M) : ∃ R, tkW J M gr bs p r v s = (1000 + v, s) :: (257, p) :: R := by
  unfold tkW
  rw [drop_get' h, tk_cS, if_pos hj, if_neg hr]
  exact ⟨_, rfl⟩
theorem tkW_stop {J : Nat → Bool} {M : Nat} {gr : Nat → Nat → Nat} {bs : List Nat} {p r v s : Nat} (h : p < bs.length) (hj : J (bs.getD p 0) = false) : tkW J M gr bs p r v s = (1000 + v, s) :: tkR J M gr bs p := by
  unfold tkW tkR
  have hn : ¬ J (bs.getD p 0) = true := by rw [hj]; decide
  rw [drop_get' h, tk_cS, if_neg hn, tk_cN, if_neg hn]
  rfl
