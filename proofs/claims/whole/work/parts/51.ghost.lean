/-! what rolls are, apart from both sides; what each side's store has of them -/
abbrev Wd : Type := List Nat
abbrev Gh : Type := Nat × (Nat → Nat) × (Nat → List Wd) × (Nat → List Wd)
def gN (g : Gh) : Nat := g.1
def gS (g : Gh) : Nat → Nat := g.2.1
def gC (g : Gh) : Nat → List Wd := g.2.2.1
def gW (g : Gh) : Nat → List Wd := g.2.2.2
def vd (g : Gh) (s : Nat) : Bool := decide (s / 16 < gN g ∧ s % 16 < gS g (s / 16))
def sp (g : Gh) : List Nat := (List.range 128).filter (vd g)
def enc (w : Wd) : Nat := w.foldl (fun a c => 32 * a + c) 0
def okW (w : Wd) : Prop := 1 ≤ w.length ∧ w.length ≤ 8 ∧ ∀ c, c ∈ w → 1 ≤ c ∧ c ≤ 26
def okS (c w : List Wd) : Prop := c.length ≤ 2 ∧ 1 ≤ w.length ∧ w.length ≤ 12 ∧ (∀ x, x ∈ c → okW x) ∧ ∀ x, x ∈ w → okW x
def okG (g : Gh) : Prop := gN g ≤ 8 ∧ (∀ r, r < gN g → 1 ≤ gS g r ∧ gS g r ≤ 12) ∧ ∀ s, vd g s = true → okS (gC g s) (gW g s)
def JC (σ : St) (g : Gh) : Prop :=
  zI σ 18 = nI (gN g) ∧ (∀ r, r < gN g → zA σ 23 r = nI (gS g r)) ∧
  (∀ s, vd g s = true → zA σ 25 s = nI (gC g s).length ∧ zA σ 27 s = nI (gW g s).length ∧
     (∀ k, k < (gC g s).length → zB σ 26 (2 * s + k) = lN (enc ((gC g s).getD k []))) ∧
     (∀ k, k < (gW g s).length → zB σ 28 (12 * s + k) = lN (enc ((gW g s).getD k [])))) ∧
  zI σ 17 = nI (sp g).length ∧ ∀ i, i < (sp g).length → zA σ 29 i = nI ((sp g).getD i 0)
def wAt (σ : St) (r qf ql i : Nat) (w : Wd) : Prop :=
  ∃ f : Nat, f + w.length ≤ 200 ∧ zA σ qf i = nI f ∧ zA σ ql i = nI w.length ∧ ∀ j, j < w.length → zA σ 56 (200 * r + (f + j)) = nI (96 + w.getD j 0)
def JM (σ : St) (g : Gh) : Prop :=
  zI σ 32 = nI (gN g) ∧ (∀ r, r < gN g → zA σ 60 r = nI (gS g r)) ∧
  (∀ s, vd g s = true → zA σ 61 s = nI (gC g s).length ∧ zA σ 62 s = nI (gW g s).length ∧
     (∀ k, k < (gC g s).length → wAt σ (s / 16) 63 64 (2 * s + k) ((gC g s).getD k [])) ∧
     (∀ k, k < (gW g s).length → wAt σ (s / 16) 65 66 (12 * s + k) ((gW g s).getD k [])))
theorem vd_iff {g : Gh} {s : Nat} : vd g s = true ↔ s / 16 < gN g ∧ s % 16 < gS g (s / 16) := decide_eq_true_iff
theorem vd_lt {g : Gh} {s : Nat} (hg : okG g) (h : vd g s = true) : s < 128 := by
  have h1 := (vd_iff.mp h).1
  have h2 := hg.1
  omega
theorem vd_ok {g : Gh} {s : Nat} (hg : okG g) (h : vd g s = true) : okS (gC g s) (gW g s) := hg.2.2 s h
theorem getD_mem {α : Type} {l : List α} {k : Nat} {d : α} (h : k < l.length) : l.getD k d ∈ l := by
  rw [List.getD_eq_getElem?_getD, List.getElem?_eq_getElem h]
  exact List.getElem_mem h
theorem sp_mem {g : Gh} {s : Nat} : s ∈ sp g ↔ s < 128 ∧ vd g s = true := by
  unfold sp
  rw [List.mem_filter, List.mem_range]
theorem sp_at {g : Gh} {i : Nat} (h : i < (sp g).length) : vd g ((sp g).getD i 0) = true := (sp_mem.mp (getD_mem h)).2
theorem filter_len : ∀ (l : List Nat) (p : Nat → Bool), (l.filter p).length = l.countP p := fun l p => (List.countP_eq_length_filter).symm
/-- speeches are 96 at most -/
theorem sp_len {g : Gh} (hg : okG g) : (sp g).length ≤ 96 := by
  unfold sp
  rw [filter_len]
  have h1 : ∀ s, vd g s = true → decide (s % 16 < 12) = true := by
    intro s hs
    have h2 := vd_iff.mp hs
    have h3 := (hg.2.1 _ h2.1).2
    exact decide_eq_true (by omega)
  refine Nat.le_trans (List.countP_mono_left (fun s _ hs => h1 s hs)) ?_
  decide +kernel
/-! words as numbers -/
theorem enc_cons (a : Nat) (w : Wd) : ∀ k, w.foldl (fun a c => 32 * a + c) k = 32 ^ w.length * k + w.foldl (fun a c => 32 * a + c) 0 := by
  induction w with
  | nil => intro k; simp
  | cons c w ih =>
    intro k
    show w.foldl (fun a c => 32 * a + c) (32 * k + c) = 32 ^ (w.length + 1) * k + w.foldl (fun a c => 32 * a + c) (32 * 0 + c)
    rw [ih (32 * k + c), ih (32 * 0 + c), Nat.pow_succ, Nat.mul_add]
    have : 32 ^ w.length * (32 * k) = 32 ^ w.length * 32 * k := by rw [Nat.mul_assoc]
    rw [this]
    simp only [Nat.mul_zero, Nat.zero_add]
    omega
theorem enc_snoc (w : Wd) (c : Nat) : enc (w ++ [c]) = 32 * enc w + c := by
  unfold enc
  rw [List.foldl_append]
  rfl
theorem enc_lt {w : Wd} (h : ∀ c, c ∈ w → c < 32) : enc w < 32 ^ w.length := by
  unfold enc
  induction w with
  | nil => simp
  | cons c w ih =>
    show w.foldl (fun a c => 32 * a + c) (32 * 0 + c) < 32 ^ (w.length + 1)
    rw [enc_cons 0 w, Nat.pow_succ]
    have h1 := ih (fun c hc => h c (List.mem_cons_of_mem _ hc))
    have h2 := h c List.mem_cons_self
    have h3 : 32 ^ w.length * (32 * 0 + c) + 32 ^ w.length ≤ 32 ^ w.length * 32 := by
      rw [← Nat.mul_succ]
      exact Nat.mul_le_mul_left _ (by omega)
    omega
theorem enc_take {w : Wd} (h : ∀ c, c ∈ w → c < 32) : ∀ b, b ≤ w.length → enc w / 32 ^ b = enc (w.take (w.length - b)) := by
  intro b
  induction b with
  | zero => intro _; simp
  | succ b ih =>
    intro hb
    have e : w.length - b = (w.length - (b + 1)) + 1 := by omega
    have hl : w.length - (b + 1) < w.length := by omega
    rw [Nat.pow_succ, ← Nat.div_div_eq_div_mul, ih (by omega), e, List.take_succ_eq_append_getElem hl, enc_snoc]
    have hc := h _ (List.getElem_mem hl)
    omega
theorem enc_letter {w : Wd} (h : ∀ c, c ∈ w → c < 32) {b : Nat} (hb : b < w.length) : enc w / 32 ^ b % 32 = w.getD (w.length - 1 - b) 0 := by
  rw [enc_take h b (by omega)]
  have e : w.length - b = (w.length - 1 - b) + 1 := by omega
  have hl : w.length - 1 - b < w.length := by omega
  rw [e, List.take_succ_eq_append_getElem hl, enc_snoc, List.getD_eq_getElem?_getD, List.getElem?_eq_getElem hl]
  have hc := h _ (List.getElem_mem hl)
  show (32 * _ + w[w.length - 1 - b]) % 32 = w[w.length - 1 - b]
  omega
theorem enc_pos {w : Wd} (h : ∀ c, c ∈ w → 1 ≤ c) (hn : w ≠ []) : 0 < enc w := by
  rcases List.eq_nil_or_concat w with rfl | ⟨l, b, rfl⟩
  · exact absurd rfl hn
  · rw [List.concat_eq_append, enc_snoc]
    have := h b (by simp)
    omega
theorem enc_div_pos {w : Wd} (h : ∀ c, c ∈ w → 1 ≤ c ∧ c < 32) {b : Nat} (hb : b < w.length) : 0 < enc w / 32 ^ b := by
  rw [enc_take (fun c hc => (h c hc).2) b (by omega)]
  apply enc_pos (fun c hc => (h c (List.mem_of_mem_take hc)).1)
  intro e
  have h2 := congrArg List.length e
  rw [List.length_take, List.length_nil] at h2
  omega
theorem enc_div_zero {w : Wd} (h : ∀ c, c ∈ w → c < 32) {b : Nat} (hb : w.length ≤ b) : enc w / 32 ^ b = 0 :=
  Nat.div_eq_of_lt (Nat.lt_of_lt_of_le (enc_lt h) (Nat.pow_le_pow_right (by decide) hb))
theorem enc_inj {w v : Wd} (hw : ∀ c, c ∈ w → 1 ≤ c ∧ c < 32) (hv : ∀ c, c ∈ v → 1 ≤ c ∧ c < 32) (e : enc w = enc v) : w = v := by
  have hl : w.length = v.length := by
    rcases Nat.lt_trichotomy w.length v.length with h | h | h
    · have h1 := enc_div_pos hv h
      rw [← e, enc_div_zero (fun c hc => (hw c hc).2) (Nat.le_refl _)] at h1
      omega
    · exact h
    · have h1 := enc_div_pos hw h
      rw [e, enc_div_zero (fun c hc => (hv c hc).2) (Nat.le_refl _)] at h1
      omega
  apply List.ext_getElem hl
  intro i h1 h2
  have a1 := enc_letter (fun c hc => (hw c hc).2) (b := w.length - 1 - i) (by omega)
  have a2 := enc_letter (fun c hc => (hv c hc).2) (b := w.length - 1 - i) (by omega)
  rw [e] at a1
  rw [a1] at a2
  have e1 : w.length - 1 - (w.length - 1 - i) = i := by omega
  have e2 : v.length - 1 - (w.length - 1 - i) = i := by omega
  rw [e1, e2, List.getD_eq_getElem?_getD, List.getD_eq_getElem?_getD, List.getElem?_eq_getElem h1, List.getElem?_eq_getElem h2] at a2
  exact a2
/-- a word, or none -/
def okL (w : Wd) : Prop := w.length ≤ 8 ∧ ∀ c, c ∈ w → 1 ≤ c ∧ c ≤ 26
theorem okL_of {w : Wd} (h : okW w) : okL w := ⟨h.2.1, h.2.2⟩
theorem okL_nil : okL [] := ⟨by decide, fun _ h => by cases h⟩
theorem okL.l {w : Wd} (h : okL w) : ∀ c, c ∈ w → 1 ≤ c ∧ c < 32 := fun c hc => by have := h.2 c hc; omega
theorem okL.l2 {w : Wd} (h : okL w) : ∀ c, c ∈ w → c < 32 := fun c hc => (h.l c hc).2
theorem okL.lt {w : Wd} (h : okL w) : enc w < 1099511627776 :=
  Nat.lt_of_lt_of_le (enc_lt h.l2) (Nat.le_trans (Nat.pow_le_pow_right (by decide) h.1) (by decide))
theorem enc_iff {w v : Wd} (hw : okL w) (hv : okL v) : enc w = enc v ↔ w = v := ⟨fun e => enc_inj hw.l hv.l e, fun e => by rw [e]⟩
theorem getD_oob {α : Type} {l : List α} {k : Nat} {d : α} (h : l.length ≤ k) : l.getD k d = d := by
  rw [List.getD_eq_getElem?_getD, List.getElem?_eq_none h]
  rfl
theorem okL_at {l : List Wd} (h : ∀ x, x ∈ l → okW x) (k : Nat) : okL (l.getD k []) := by
  by_cases hk : k < l.length
  · exact okL_of (h _ (getD_mem hk))
  · rw [getD_oob (by omega)]
    exact okL_nil
theorem ush {n k : Nat} (hn : n < 18446744073709551616) (hk : k < 64) : ushr64 (lN n) (nI k) = lN (n / 2 ^ k) := wb_shr hn hk
theorem cT_eq {a b : Nat} (h : a = b) : (lg_cmp (lN a) (lN b) = nI 0) = True := eq_true ((lg_cmp_eq _ _).mpr (by rw [h]))
theorem cF_eq {a b : Nat} (h : a ≠ b) (ha : a < 9223372036854775808) (hb : b < 9223372036854775808) : (lg_cmp (lN a) (lN b) = nI 0) = False := eq_false (fun e => h ((pk_lEQ ha hb).mp ((lg_cmp_eq _ _).mp e)))
/-! what is not scratch -/
def pA : List Nat := [11, 22, 23, 24, 25, 27, 29, 33, 35, 36, 37, 38, 39, 47, 50, 51, 55, 56, 57, 58, 60, 61, 62, 63, 64, 65, 66, 67, 68, 69, 78]
def pB : List Nat := [26, 28, 44, 45, 83, 84, 85, 86]
def pI : List Nat := [0, 1, 2, 11, 12, 13, 14, 15, 17, 18, 19, 20, 21, 22, 23, 24, 25, 26, 28, 29, 31, 32, 33, 34, 45, 48, 50, 51, 52]
def rOk (σ : St) : Prop := ∀ k, zR σ k ≠ 45 ∧ zR σ k ≠ 46
/-- all that is not scratch is the same -/
def SE (σ τ : St) : Prop := (∀ q, q ∈ pA → zA τ q = zA σ q) ∧ (∀ q, q ∈ pB → zB τ q = zB σ q) ∧ (∀ k, k ∈ pI → zI τ k = zI σ k) ∧ zN τ = zN σ ∧ (rOk σ → rOk τ)
theorem SE.rf (σ : St) : SE σ σ := ⟨fun _ _ => rfl, fun _ _ => rfl, fun _ _ => rfl, rfl, fun h => h⟩
theorem SE.tr {σ τ υ : St} (h : SE σ τ) (k : SE τ υ) : SE σ υ :=
  ⟨fun q hq => (k.1 q hq).trans (h.1 q hq), fun q hq => (k.2.1 q hq).trans (h.2.1 q hq), fun q hq => (k.2.2.1 q hq).trans (h.2.2.1 q hq), k.2.2.2.1.trans h.2.2.2.1, fun r => k.2.2.2.2 (h.2.2.2.2 r)⟩
theorem SE.uA {σ : St} {q : Nat} {f : Nat → Int32} (h : q ∉ pA) : SE σ (uA σ q f) :=
  ⟨fun j hj => zA_ne (fun e => h (e ▸ hj)), fun _ _ => rfl, fun _ _ => rfl, rfl, fun r => r⟩
theorem SE.uB {σ : St} {q : Nat} {f : Nat → Int64} (h : q ∉ pB) : SE σ (uB σ q f) :=
  ⟨fun _ _ => rfl, fun j hj => zB_ne (fun e => h (e ▸ hj)), fun _ _ => rfl, rfl, fun r => r⟩
theorem SE.uI {σ : St} {k : Nat} {v : Int32} (h : k ∉ pI) : SE σ (uI σ k v) :=
  ⟨fun _ _ => rfl, fun _ _ => rfl, fun j hj => zI_ne (fun e => h (e ▸ hj)), rfl, fun r => r⟩
theorem SE.uJ {σ : St} {k : Nat} {v : Int64} : SE σ (uJ σ k v) := ⟨fun _ _ => rfl, fun _ _ => rfl, fun _ _ => rfl, rfl, fun r => r⟩
theorem SE.uR {σ : St} {k v : Nat} (h : v ≠ 45 ∧ v ≠ 46) : SE σ (uR σ k v) :=
  ⟨fun _ _ => rfl, fun _ _ => rfl, fun _ _ => rfl, rfl, fun r j => by
    by_cases e : j = k
    · subst e; rw [zR_uR]; exact h
    · rw [zR_ne e]; exact r j⟩
theorem SE.a {σ τ : St} (h : SE σ τ) (q : Nat) (hq : q ∈ pA) : zA τ q = zA σ q := h.1 q hq
theorem SE.b {σ τ : St} (h : SE σ τ) (q : Nat) (hq : q ∈ pB) : zB τ q = zB σ q := h.2.1 q hq
theorem SE.i {σ τ : St} (h : SE σ τ) (q : Nat) (hq : q ∈ pI) : zI τ q = zI σ q := h.2.2.1 q hq
theorem JC.se {σ τ : St} {g : Gh} (h : SE σ τ) (j : JC σ g) : JC τ g := by
  unfold JC
  rw [h.i 18 (by decide), h.i 17 (by decide), h.a 23 (by decide), h.a 25 (by decide), h.a 27 (by decide), h.a 29 (by decide), h.b 26 (by decide), h.b 28 (by decide)]
  exact j
theorem JM.se {σ τ : St} {g : Gh} (h : SE σ τ) (j : JM σ g) : JM τ g := by
  unfold JM wAt
  rw [h.i 32 (by decide), h.a 60 (by decide), h.a 61 (by decide), h.a 62 (by decide), h.a 63 (by decide), h.a 64 (by decide), h.a 65 (by decide), h.a 66 (by decide), h.a 56 (by decide)]
  exact j
