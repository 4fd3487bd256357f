/-! one: rolls joined by met cues -/
def cb (X : Nat) : Nat := fb_ct (fun i => X.testBit i) 8
theorem sub_lt {X Y : Nat} (h : ∀ i, i < 8 → X.testBit i = true → Y.testBit i = true) (hn : ∃ i, i < 8 ∧ X.testBit i = false ∧ Y.testBit i = true) : cb X < cb Y := by
  obtain ⟨j, hj, h1, h2⟩ := hn
  have key : ∀ n, (∀ i, i < n → X.testBit i = true → Y.testBit i = true) → j < n → fb_ct (fun i => X.testBit i) n < fb_ct (fun i => Y.testBit i) n := by
    intro n
    induction n with
    | zero => intro _ h; omega
    | succ n ih =>
      intro hs hjn
      rw [fb_ct_succ, fb_ct_succ]
      by_cases e : j = n
      · subst e
        have := fb_ct_sub (p := fun i => X.testBit i) (q := fun i => Y.testBit i) (n := j) (fun k hk => hs k (by omega))
        rw [if_neg (show ¬ X.testBit j = true by rw [h1]; decide), if_pos (show Y.testBit j = true from h2)]
        omega
      · have := ih (fun i hi => hs i (by omega)) (by omega)
        have hx := hs n (by omega)
        by_cases hb : X.testBit n = true
        · rw [if_pos hb, if_pos (hx hb)]; omega
        · rw [if_neg hb]; omega
  exact key 8 (fun i hi => h i hi) hj
theorem cb_le (X : Nat) : cb X ≤ 8 := fb_ct_le _ 8
theorem bits_eq {X Y : Nat} (hX : X < 256) (hY : Y < 256) (h : ∀ i, i < 8 → (X.testBit i = true ↔ Y.testBit i = true)) : X = Y := by
  apply Nat.eq_of_testBit_eq
  intro i
  by_cases hi : i < 8
  · rw [Bool.eq_iff_iff]
    exact h i hi
  · have h8 : 2 ^ 8 ≤ 2 ^ i := Nat.pow_le_pow_right (by decide) (by omega)
    rw [Nat.testBit_lt_two_pow (Nat.lt_of_lt_of_le hX h8), Nat.testBit_lt_two_pow (Nat.lt_of_lt_of_le hY h8)]
def itr (F : Nat → Nat) : Nat → Nat → Nat
  | 0, X => X
  | n + 1, X => itr F n (F X)
/-- what grows by steps within so many bits stands still in as many steps -/
theorem itr_stop {F : Nat → Nat} {m : Nat} (hlt : ∀ X, X < 256 → F X < 256) (hup : ∀ X i, X < 256 → X.testBit i = true → (F X).testBit i = true) (hm : ∀ X, X < 256 → (∀ i, X.testBit i = true → i < m) → ∀ i, (F X).testBit i = true → i < m) (hcm : ∀ X, X < 256 → (∀ i, X.testBit i = true → i < m) → cb X ≤ m) : ∀ n X, X < 256 → (∀ i, X.testBit i = true → i < m) → m ≤ n + cb X → F (itr F n X) = itr F n X := by
  intro n
  induction n with
  | zero =>
    intro X hX hb hc
    show F X = X
    have h1 := hcm X hX hb
    by_cases h : F X = X
    · exact h
    · exfalso
      have hne : ∃ i, i < 8 ∧ X.testBit i = false ∧ (F X).testBit i = true := by
        apply Classical.byContradiction
        intro hno
        apply h
        refine bits_eq (hlt X hX) hX (fun i hi => ⟨fun hf => ?_, fun hx => hup X i hX hx⟩)
        cases hx : X.testBit i with
        | true => rfl
        | false => exact absurd ⟨i, hi, hx, hf⟩ hno
      have h2 := sub_lt (fun i _ hx => hup X i hX hx) hne
      have h3 := hcm (F X) (hlt X hX) (hm X hX hb)
      omega
  | succ n ih =>
    intro X hX hb hc
    show F (itr F n (F X)) = itr F n (F X)
    by_cases h : F X = X
    · have hfix : ∀ k, itr F k X = X := by
        intro k
        induction k with
        | zero => rfl
        | succ k ihk => show itr F k (F X) = X; rw [h]; exact ihk
      rw [h, hfix n, h]
    · refine ih (F X) (hlt X hX) (hm X hX hb) ?_
      have hne : ∃ i, i < 8 ∧ X.testBit i = false ∧ (F X).testBit i = true := by
        apply Classical.byContradiction
        intro hno
        apply h
        refine bits_eq (hlt X hX) hX (fun i hi => ⟨fun hf => ?_, fun hx => hup X i hX hx⟩)
        cases hx : X.testBit i with
        | true => rfl
        | false => exact absurd ⟨i, hi, hx, hf⟩ hno
      have h2 := sub_lt (fun i _ hx => hup X i hX hx) hne
      omega
theorem itr_in {F : Nat → Nat} {Y : Nat} (hlt : ∀ X, X < 256 → F X < 256) (hY : ∀ X, X < 256 → (∀ i, i < 8 → X.testBit i = true → Y.testBit i = true) → ∀ i, i < 8 → (F X).testBit i = true → Y.testBit i = true) : ∀ n X, X < 256 → (∀ i, i < 8 → X.testBit i = true → Y.testBit i = true) → itr F n X < 256 ∧ ∀ i, i < 8 → (itr F n X).testBit i = true → Y.testBit i = true
  | 0, _, hX, h => ⟨hX, h⟩
  | n + 1, X, hX, h => itr_in hlt hY n (F X) (hlt X hX) (hY X hX h)
theorem itr_up {F : Nat → Nat} (hlt : ∀ X, X < 256 → F X < 256) (hup : ∀ X i, X < 256 → X.testBit i = true → (F X).testBit i = true) : ∀ n X i, X < 256 → X.testBit i = true → (itr F n X).testBit i = true
  | 0, _, _, _, h => h
  | n + 1, X, i, hX, h => itr_up hlt hup n (F X) i (hlt X hX) (hup X i hX h)
theorem itr_lt {F : Nat → Nat} (hlt : ∀ X, X < 256 → F X < 256) : ∀ n X, X < 256 → itr F n X < 256
  | 0, _, h => h
  | n + 1, X, h => itr_lt hlt n (F X) (hlt X h)
theorem itr_snoc (F : Nat → Nat) : ∀ n X, itr F (n + 1) X = F (itr F n X)
  | 0, _ => rfl
  | n + 1, X => itr_snoc F n (F X)
/-- the class's round and the model's round, over neighbours nb / edges -/
def rnC (nb : Nat → Nat) (X : Nat) : Nat := (List.range 8).foldl (fun x e => if x.testBit e = true then x ||| nb e else x) X
def rnM (ed : List (Nat × Nat)) (X : Nat) : Nat := ed.foldl (fun x e => if x.testBit e.1 = true ∨ x.testBit e.2 = true then x ||| (2 ^ e.1 ||| 2 ^ e.2) else x) X
theorem foldC_up {nb : Nat → Nat} : ∀ (l : List Nat) (X i : Nat), X.testBit i = true → (l.foldl (fun x e => if x.testBit e = true then x ||| nb e else x) X).testBit i = true
  | [], _, _, h => h
  | e :: l, X, i, h => by
    refine foldC_up l _ i ?_
    show (if X.testBit e = true then X ||| nb e else X).testBit i = true
    split
    · rw [Nat.testBit_or, h, Bool.true_or]
    · exact h
theorem foldM_up : ∀ (l : List (Nat × Nat)) (X i : Nat), X.testBit i = true → (l.foldl (fun x e => if x.testBit e.1 = true ∨ x.testBit e.2 = true then x ||| (2 ^ e.1 ||| 2 ^ e.2) else x) X).testBit i = true
  | [], _, _, h => h
  | e :: l, X, i, h => by
    refine foldM_up l _ i ?_
    show (if X.testBit e.1 = true ∨ X.testBit e.2 = true then X ||| (2 ^ e.1 ||| 2 ^ e.2) else X).testBit i = true
    split
    · rw [Nat.testBit_or, h, Bool.true_or]
    · exact h
theorem foldC_lt {nb : Nat → Nat} (hnb : ∀ e, e < 8 → nb e < 256) : ∀ (l : List Nat) (X : Nat), (∀ e, e ∈ l → e < 8) → X < 256 → l.foldl (fun x e => if x.testBit e = true then x ||| nb e else x) X < 256
  | [], _, _, h => h
  | e :: l, X, hl, h => by
    refine foldC_lt hnb l _ (fun x hx => hl x (List.mem_cons_of_mem _ hx)) ?_
    show (if X.testBit e = true then X ||| nb e else X) < 256
    split
    · exact Nat.or_lt_two_pow (n := 8) h (hnb e (hl e List.mem_cons_self))
    · exact h
theorem foldM_lt : ∀ (l : List (Nat × Nat)) (X : Nat), (∀ e, e ∈ l → e.1 < 8 ∧ e.2 < 8) → X < 256 → l.foldl (fun x e => if x.testBit e.1 = true ∨ x.testBit e.2 = true then x ||| (2 ^ e.1 ||| 2 ^ e.2) else x) X < 256
  | [], _, _, h => h
  | e :: l, X, hl, h => by
    refine foldM_lt l _ (fun x hx => hl x (List.mem_cons_of_mem _ hx)) ?_
    have he := hl e List.mem_cons_self
    show (if X.testBit e.1 = true ∨ X.testBit e.2 = true then X ||| (2 ^ e.1 ||| 2 ^ e.2) else X) < 256
    split
    · exact Nat.or_lt_two_pow (n := 8) h (Nat.or_lt_two_pow (n := 8) (p2lt he.1) (p2lt he.2))
    · exact h
theorem foldC_stay {nb : Nat → Nat} : ∀ (l : List Nat) (X : Nat), (∀ i, (l.foldl (fun x e => if x.testBit e = true then x ||| nb e else x) X).testBit i = true → X.testBit i = true) → ∀ e, e ∈ l → X.testBit e = true → ∀ i, (nb e).testBit i = true → X.testBit i = true
  | [], _, _, e, he, _, _, _ => by cases he
  | a :: l, X, h, e, he, hx, i, hi => by
    have hfold : ∀ i, (l.foldl (fun x e => if x.testBit e = true then x ||| nb e else x) (if X.testBit a = true then X ||| nb a else X)).testBit i = true → X.testBit i = true := h
    by_cases ha : X.testBit a = true
    · rw [if_pos ha] at hfold
      have hsub : ∀ i, (X ||| nb a).testBit i = true → X.testBit i = true := fun i hh => hfold i (foldC_up l _ i hh)
      rw [List.mem_cons] at he
      rcases he with he | he
      · subst he
        exact hsub i (by rw [Nat.testBit_or, hi, Bool.or_true])
      · have := foldC_stay l (X ||| nb a) (fun j hj => by rw [Nat.testBit_or, hfold j hj, Bool.true_or]) e he (by rw [Nat.testBit_or, hx, Bool.true_or]) i hi
        exact hsub i this
    · rw [if_neg ha] at hfold
      rw [List.mem_cons] at he
      rcases he with he | he
      · subst he; exact absurd hx ha
      · exact foldC_stay l X hfold e he hx i hi
theorem foldM_stay : ∀ (l : List (Nat × Nat)) (X : Nat), (∀ i, (l.foldl (fun x e => if x.testBit e.1 = true ∨ x.testBit e.2 = true then x ||| (2 ^ e.1 ||| 2 ^ e.2) else x) X).testBit i = true → X.testBit i = true) → ∀ e, e ∈ l → (X.testBit e.1 = true ∨ X.testBit e.2 = true) → X.testBit e.1 = true ∧ X.testBit e.2 = true
  | [], _, _, e, he, _ => by cases he
  | a :: l, X, h, e, he, hx => by
    have hfold : ∀ i, (l.foldl (fun x e => if x.testBit e.1 = true ∨ x.testBit e.2 = true then x ||| (2 ^ e.1 ||| 2 ^ e.2) else x) (if X.testBit a.1 = true ∨ X.testBit a.2 = true then X ||| (2 ^ a.1 ||| 2 ^ a.2) else X)).testBit i = true → X.testBit i = true := h
    have b2 : ∀ j, (2 ^ j).testBit j = true := fun j => by rw [Nat.testBit_two_pow, decide_eq_true rfl]
    by_cases ha : X.testBit a.1 = true ∨ X.testBit a.2 = true
    · rw [if_pos ha] at hfold
      have hsub : ∀ i, (X ||| (2 ^ a.1 ||| 2 ^ a.2)).testBit i = true → X.testBit i = true := fun i hh => hfold i (foldM_up l _ i hh)
      rw [List.mem_cons] at he
      rcases he with he | he
      · subst he
        exact ⟨hsub _ (by rw [Nat.testBit_or, Nat.testBit_or, b2, Bool.true_or, Bool.or_true]), hsub _ (by rw [Nat.testBit_or, Nat.testBit_or, b2, Bool.or_true, Bool.or_true])⟩
      · have := foldM_stay l (X ||| (2 ^ a.1 ||| 2 ^ a.2)) (fun j hj => by rw [Nat.testBit_or, hfold j hj, Bool.true_or]) e he (by
          rcases hx with hx | hx
          · left; rw [Nat.testBit_or, hx, Bool.true_or]
          · right; rw [Nat.testBit_or, hx, Bool.true_or])
        exact ⟨hsub _ this.1, hsub _ this.2⟩
    · rw [if_neg ha] at hfold
      rw [List.mem_cons] at he
      rcases he with he | he
      · subst he; exact absurd hx ha
      · exact foldM_stay l X hfold e he hx
theorem foldC_in {nb : Nat → Nat} {Y : Nat} (hY : ∀ e, e < 8 → Y.testBit e = true → ∀ i, (nb e).testBit i = true → Y.testBit i = true) : ∀ (l : List Nat) (X : Nat), (∀ e, e ∈ l → e < 8) → (∀ i, X.testBit i = true → Y.testBit i = true) → ∀ i, (l.foldl (fun x e => if x.testBit e = true then x ||| nb e else x) X).testBit i = true → Y.testBit i = true
  | [], _, _, h => h
  | e :: l, X, hl, h => by
    refine foldC_in hY l _ (fun x hx => hl x (List.mem_cons_of_mem _ hx)) ?_
    intro i hi
    have hi : (if X.testBit e = true then X ||| nb e else X).testBit i = true := hi
    split at hi
    · rename_i hx
      rw [Nat.testBit_or, Bool.or_eq_true] at hi
      rcases hi with hi | hi
      · exact h i hi
      · exact hY e (hl e List.mem_cons_self) (h e hx) i hi
    · exact h i hi
theorem foldM_in {Y : Nat} : ∀ (l : List (Nat × Nat)) (X : Nat), (∀ e, e ∈ l → (Y.testBit e.1 = true ↔ Y.testBit e.2 = true)) → (∀ i, X.testBit i = true → Y.testBit i = true) → ∀ i, (l.foldl (fun x e => if x.testBit e.1 = true ∨ x.testBit e.2 = true then x ||| (2 ^ e.1 ||| 2 ^ e.2) else x) X).testBit i = true → Y.testBit i = true
  | [], _, _, h => h
  | e :: l, X, hl, h => by
    refine foldM_in l _ (fun x hx => hl x (List.mem_cons_of_mem _ hx)) ?_
    intro i hi
    have hi : (if X.testBit e.1 = true ∨ X.testBit e.2 = true then X ||| (2 ^ e.1 ||| 2 ^ e.2) else X).testBit i = true := hi
    have he := hl e List.mem_cons_self
    split at hi
    · rename_i hx
      have hb : Y.testBit e.1 = true ∧ Y.testBit e.2 = true := by
        rcases hx with hx | hx
        · exact ⟨h _ hx, he.mp (h _ hx)⟩
        · exact ⟨he.mpr (h _ hx), h _ hx⟩
      rw [Nat.testBit_or, Nat.testBit_or, Bool.or_eq_true, Bool.or_eq_true, Nat.testBit_two_pow, Nat.testBit_two_pow, decide_eq_true_eq, decide_eq_true_eq] at hi
      rcases hi with hi | hi | hi
      · exact h i hi
      · rw [← hi]; exact hb.1
      · rw [← hi]; exact hb.2
    · exact h i hi
theorem cb_lt {X m : Nat} (h : ∀ i, X.testBit i = true → i < m) : cb X ≤ m := by
  have h1 : fb_ct (fun i => X.testBit i) 8 ≤ fb_ct (fun i => decide (i < m)) 8 := fb_ct_sub (fun k _ hk => decide_eq_true (h k hk))
  rw [ct_lt] at h1
  unfold cb
  omega
theorem cb_pos {X r : Nat} (hr : r < 8) (h : X.testBit r = true) : 1 ≤ cb X := fb_ct_pos.mpr ⟨r, hr, h⟩
/-- both ways of joining come to the same set -/
theorem join_eq {nb : Nat → Nat} {ed : List (Nat × Nat)} {N r : Nat} (hN : N ≤ 8) (hr : r < N) (hed : ∀ e, e ∈ ed → e.1 < N ∧ e.2 < N) (hnb : ∀ a, a < 8 → nb a < 256 ∧ ∀ b, (nb a).testBit b = true ↔ ∃ e, e ∈ ed ∧ ((e.1 = a ∧ e.2 = b) ∨ (e.2 = a ∧ e.1 = b))) : itr (rnC nb) 8 (2 ^ r) = itr (rnM ed) N (2 ^ r) := by
  have p256 : 2 ^ r < 256 := p2lt (by omega)
  have pb : ∀ i, (2 ^ r).testBit i = true ↔ i = r := fun i => by rw [Nat.testBit_two_pow, decide_eq_true_eq]; exact eq_comm
  have ltC : ∀ X, X < 256 → rnC nb X < 256 := fun X hX => foldC_lt (fun e he => (hnb e he).1) _ X (fun e he => List.mem_range.mp he) hX
  have ltM : ∀ X, X < 256 → rnM ed X < 256 := fun X hX => foldM_lt ed X (fun e he => by have := hed e he; omega) hX
  have upC : ∀ X i, X < 256 → X.testBit i = true → (rnC nb X).testBit i = true := fun X i _ h => foldC_up _ X i h
  have upM : ∀ X i, X < 256 → X.testBit i = true → (rnM ed X).testBit i = true := fun X i _ h => foldM_up ed X i h
  have b8 : ∀ X, X < 256 → ∀ i, X.testBit i = true → i < 8 := by
    intro X hX i hi
    by_cases hc : i < 8
    · exact hc
    · rw [Nat.testBit_lt_two_pow (Nat.lt_of_lt_of_le hX (show 2 ^ 8 ≤ 2 ^ i from Nat.pow_le_pow_right (by decide) (by omega)))] at hi
      cases hi
  have hc1 := cb_pos (X := 2 ^ r) (show r < 8 by omega) ((pb r).mpr rfl)
  have stC : rnC nb (itr (rnC nb) 8 (2 ^ r)) = itr (rnC nb) 8 (2 ^ r) := itr_stop (m := 8) ltC upC (fun X hX _ => b8 _ (ltC X hX)) (fun X _ _ => cb_le X) 8 _ p256 (b8 _ p256) (by omega)
  have stM : rnM ed (itr (rnM ed) N (2 ^ r)) = itr (rnM ed) N (2 ^ r) := itr_stop (m := N) ltM upM (fun X hX hb i hi => by
    have hsub := foldM_in (Y := 2 ^ N - 1) ed X (fun e he => by
      have := hed e he
      rw [Nat.testBit_two_pow_sub_one, Nat.testBit_two_pow_sub_one, decide_eq_true this.1, decide_eq_true this.2]) (fun i hi => by rw [Nat.testBit_two_pow_sub_one]; exact decide_eq_true (hb i hi)) i hi
    rw [Nat.testBit_two_pow_sub_one] at hsub
    exact of_decide_eq_true hsub) (fun X _ hb => cb_lt hb) N _ p256 (fun i hi => by rw [(pb i).mp hi]; exact hr) (by omega)
  have lC := itr_lt ltC 8 _ p256
  have lM := itr_lt ltM N _ p256
  have rC := itr_up ltC upC 8 _ r p256 ((pb r).mpr rfl)
  have rM := itr_up ltM upM N _ r p256 ((pb r).mpr rfl)
  generalize hXc : itr (rnC nb) 8 (2 ^ r) = Xc at *
  generalize hXm : itr (rnM ed) N (2 ^ r) = Xm at *
  have closC := foldC_stay (nb := nb) (List.range 8) Xc (fun i hi => by have h : (rnC nb Xc).testBit i = true := hi; rw [stC] at h; exact h)
  have closM := foldM_stay ed Xm (fun i hi => by have h : (rnM ed Xm).testBit i = true := hi; rw [stM] at h; exact h)
  refine bits_eq lC lM (fun i hi => ⟨fun h => ?_, fun h => ?_⟩)
  · have := itr_in (F := rnC nb) (Y := Xm) ltC (fun X hX hs j hj hf => foldC_in (nb := nb) (Y := Xm) (fun e he hx b hb => by
      obtain ⟨q, hq, hq2⟩ := ((hnb e he).2 b).mp hb
      rcases hq2 with ⟨a1, a2⟩ | ⟨a1, a2⟩
      · rw [← a2]; exact (closM q hq (Or.inl (by rw [a1]; exact hx))).2
      · rw [← a2]; exact (closM q hq (Or.inr (by rw [a1]; exact hx))).1) (List.range 8) X (fun e he => List.mem_range.mp he) (fun k hk => hs k (b8 X hX k hk) hk) j hf) 8 (2 ^ r) p256 (fun j _ hj => by rw [(pb j).mp hj]; exact rM)
    rw [hXc] at this
    exact this.2 i hi h
  · have := itr_in (F := rnM ed) (Y := Xc) ltM (fun X hX hs j hj hf => foldM_in (Y := Xc) ed X (fun e he => by
      have hh := hed e he
      constructor
      · intro hx
        exact closC e.1 (List.mem_range.mpr (by omega)) hx e.2 (((hnb e.1 (by omega)).2 e.2).mpr ⟨e, he, Or.inl ⟨rfl, rfl⟩⟩)
      · intro hx
        exact closC e.2 (List.mem_range.mpr (by omega)) hx e.1 (((hnb e.2 (by omega)).2 e.1).mpr ⟨e, he, Or.inr ⟨rfl, rfl⟩⟩)) (fun k hk => hs k (b8 X hX k hk) hk) j hf) N (2 ^ r) p256 (fun j _ hj => by rw [(pb j).mp hj]; exact rC)
    rw [hXm] at this
    exact this.2 i hi h
