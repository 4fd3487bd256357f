/-! orders: the fewest gaps to come and in how many ways (no program here) -/
/-- One more roll that may come next: f r is what its speech gives. -/
def oS (z : Nat → Nat) (st : Nat) (f : Nat → Nat × Nat) (a : Nat × Nat) (r : Nat) : Nat × Nat :=
  if sd z st r < z r then (if (f r).1 < a.1 then f r else if (f r).1 = a.1 then (a.1, a.2 + (f r).2) else a) else a
def oG (z : Nat → Nat) (st : Nat) (f : Nat → Nat × Nat) (l : List Nat) (a : Nat × Nat) : Nat × Nat := l.foldl (oS z st f) a
def oF (z : Nat → Nat) (gp : Nat → Nat → Nat → Nat) : Nat → Nat → Nat → Nat × Nat
  | 0, _, _ => (0, 1)
  | n + 1, st, last => oG z st (fun r => ((oF z gp n (st + rx z r) (r + 1)).1 + gp st last r, (oF z gp n (st + rx z r) (r + 1)).2)) (List.range 8) (1000, 0)
/-- What is to come at a state, behind the roll that spoke last (last = roll + 1; 0: nobody spoke). -/
def oL (z : Nat → Nat) (gp : Nat → Nat → Nat → Nat) (st last : Nat) : Nat × Nat := oF z gp (rm z st 8) st last
/-- The same if r comes next. -/
def oN (z : Nat → Nat) (gp : Nat → Nat → Nat → Nat) (st last r : Nat) : Nat × Nat := ((oL z gp (st + rx z r) (r + 1)).1 + gp st last r, (oL z gp (st + rx z r) (r + 1)).2)
theorem oG_congr {z : Nat → Nat} {st : Nat} {f h : Nat → Nat × Nat} : ∀ (l : List Nat) (a : Nat × Nat), (∀ r, r ∈ l → sd z st r < z r → f r = h r) → oG z st f l a = oG z st h l a
  | [], _, _ => rfl
  | r :: l, a, H => by
    unfold oG
    rw [List.foldl_cons, List.foldl_cons]
    have e : oS z st f a r = oS z st h a r := by
      unfold oS
      by_cases hr : sd z st r < z r
      · rw [if_pos hr, if_pos hr, H r List.mem_cons_self hr]
      · rw [if_neg hr, if_neg hr]
    rw [e]
    exact oG_congr l _ (fun x hx => H x (List.mem_cons_of_mem _ hx))
theorem oL_zero {z : Nat → Nat} {gp : Nat → Nat → Nat → Nat} {st last : Nat} (h : rm z st 8 = 0) : oL z gp st last = (0, 1) := by
  unfold oL
  rw [h]
  rfl
theorem oL_step {z : Nat → Nat} {gp : Nat → Nat → Nat → Nat} {st last : Nat} (h : 0 < rm z st 8) : oL z gp st last = oG z st (oN z gp st last) (List.range 8) (1000, 0) := by
  obtain ⟨n, e⟩ : ∃ n, rm z st 8 = n + 1 := ⟨rm z st 8 - 1, by omega⟩
  have e0 : oL z gp st last = oF z gp (n + 1) st last := by unfold oL; rw [e]
  rw [e0]
  show oG z st _ _ _ = _
  apply oG_congr
  intro r hr hs
  have hr8 := List.mem_range.mp hr
  have e2 := rm_step hs 8 hr8
  have e3 : rm z (st + rx z r) 8 = n := by omega
  unfold oN oL
  rw [e3]
theorem oG_le {z : Nat → Nat} {st : Nat} {f : Nat → Nat × Nat} : ∀ (l : List Nat) (a : Nat × Nat), (oG z st f l a).1 ≤ a.1 ∧ ∀ r, r ∈ l → sd z st r < z r → (oG z st f l a).1 ≤ (f r).1
  | [], a => ⟨Nat.le_refl _, fun r hr => nomatch hr⟩
  | r :: l, a => by
    have ih := oG_le (z := z) (st := st) (f := f) l (oS z st f a r)
    have h1 : (oS z st f a r).1 ≤ a.1 := by
      unfold oS
      split
      · split
        · omega
        · split
          · exact Nat.le_refl _
          · exact Nat.le_refl _
      · exact Nat.le_refl _
    have h2 : sd z st r < z r → (oS z st f a r).1 ≤ (f r).1 := by
      intro hr
      unfold oS
      rw [if_pos hr]
      split
      · exact Nat.le_refl _
      · split
        · show a.1 ≤ _
          omega
        · omega
    refine ⟨Nat.le_trans ih.1 h1, fun x hx hs => ?_⟩
    cases hx with
    | head => exact Nat.le_trans ih.1 (h2 hs)
    | tail _ hx => exact ih.2 x hx hs
theorem oG_at {z : Nat → Nat} {st : Nat} {f : Nat → Nat × Nat} : ∀ (l : List Nat) (a : Nat × Nat), oG z st f l a = a ∨ ∃ r, r ∈ l ∧ sd z st r < z r ∧ (f r).1 = (oG z st f l a).1
  | [], a => .inl rfl
  | r :: l, a => by
    have e : oG z st f (r :: l) a = oG z st f l (oS z st f a r) := rfl
    rw [e]
    rcases oG_at (z := z) (st := st) (f := f) l (oS z st f a r) with h | ⟨x, h1, h2, h3⟩
    · rw [h]
      by_cases hr : sd z st r < z r
      · by_cases h4 : (f r).1 < a.1
        · exact .inr ⟨r, List.mem_cons_self, hr, by unfold oS; rw [if_pos hr, if_pos h4]⟩
        · by_cases h5 : (f r).1 = a.1
          · exact .inr ⟨r, List.mem_cons_self, hr, by unfold oS; rw [if_pos hr, if_neg h4, if_pos h5]; exact h5⟩
          · exact .inl (by unfold oS; rw [if_pos hr, if_neg h4, if_neg h5])
      · exact .inl (by unfold oS; rw [if_neg hr])
    · exact .inr ⟨x, List.mem_cons_of_mem _ h1, h2, h3⟩
theorem oG_ways {z : Nat → Nat} {st : Nat} {f : Nat → Nat × Nat} {B : Nat} : ∀ (l : List Nat) (a : Nat × Nat), (∀ r, r ∈ l → sd z st r < z r → (f r).2 ≤ B) → (oG z st f l a).2 ≤ a.2 + B * l.countP (fun r => decide (sd z st r < z r))
  | [], a, _ => by show a.2 ≤ _; omega
  | r :: l, a, H => by
    have ih := oG_ways (z := z) (st := st) (f := f) l (oS z st f a r) (fun x hx => H x (List.mem_cons_of_mem _ hx))
    have e : oG z st f (r :: l) a = oG z st f l (oS z st f a r) := rfl
    rw [e, List.countP_cons]
    by_cases hr : sd z st r < z r
    · have hB := H r List.mem_cons_self hr
      have h1 : (oS z st f a r).2 ≤ a.2 + B := by
        unfold oS
        rw [if_pos hr]
        split
        · omega
        · split
          · show a.2 + _ ≤ _
            omega
          · omega
      rw [if_pos (decide_eq_true hr), Nat.mul_add]
      omega
    · have h1 : oS z st f a r = a := by unfold oS; rw [if_neg hr]
      rw [h1] at ih
      rw [if_neg (by rw [decide_eq_false hr]; decide), h1]
      exact ih
theorem rm_may {z : Nat → Nat} {st : Nat} : ∀ {n}, 0 < rm z st n → ∃ r, r < n ∧ sd z st r < z r
  | 0, h => absurd h (Nat.lt_irrefl _)
  | n + 1, h => by
    by_cases hn : sd z st n < z n
    · exact ⟨n, by omega, hn⟩
    · unfold rm at h
      obtain ⟨r, h1, h2⟩ := rm_may (z := z) (st := st) (n := n) (by omega)
      exact ⟨r, by omega, h2⟩
theorem may_rm {z : Nat → Nat} {st : Nat} : ∀ n, (List.range n).countP (fun r => decide (sd z st r < z r)) ≤ rm z st n
  | 0 => Nat.le_refl _
  | n + 1 => by
    rw [List.range_succ, List.countP_append, List.countP_cons, List.countP_nil]
    unfold rm
    have := may_rm (z := z) (st := st) n
    split
    · rename_i h
      have := of_decide_eq_true h
      omega
    · omega
theorem oL_gaps {z : Nat → Nat} {gp : Nat → Nat → Nat → Nat} (hgp : ∀ st last r, gp st last r ≤ 1) : ∀ (n st last : Nat), rm z st 8 = n → n < 1000 → (oL z gp st last).1 ≤ n
  | 0, st, last, h, _ => by rw [oL_zero h]; exact Nat.le_refl _
  | n + 1, st, last, h, hn => by
    obtain ⟨r, h1, h2⟩ := rm_may (z := z) (st := st) (n := 8) (by omega)
    have h3 := rm_step h2 8 h1
    have h4 := oL_gaps hgp n (st + rx z r) (r + 1) (Nat.succ.inj (h3.trans h)) (by omega)
    rw [oL_step (by omega)]
    have h5 := (oG_le (z := z) (st := st) (f := oN z gp st last) (List.range 8) (1000, 0)).2 r (List.mem_range.mpr h1) h2
    have h6 := hgp st last r
    have h7 : (oN z gp st last r).1 = (oL z gp (st + rx z r) (r + 1)).1 + gp st last r := rfl
    omega
theorem oL_ways {z : Nat → Nat} {gp : Nat → Nat → Nat → Nat} : ∀ (n st last : Nat), rm z st 8 = n → (oL z gp st last).2 ≤ 8 ^ (n - 1)
  | 0, st, last, h => by rw [oL_zero h]; exact Nat.le_refl _
  | n + 1, st, last, h => by
    rw [oL_step (by omega)]
    have h1 := oG_ways (z := z) (st := st) (f := oN z gp st last) (B := 8 ^ (n - 1)) (List.range 8) (1000, 0) (fun r hr hs => by
      have h3 := rm_step hs 8 (List.mem_range.mp hr)
      exact oL_ways n (st + rx z r) (r + 1) (by omega))
    have h2 := may_rm (z := z) (st := st) 8
    have h3 : (List.range 8).countP (fun r => decide (sd z st r < z r)) ≤ 8 := by
      have := List.countP_le_length (p := fun r => decide (sd z st r < z r)) (l := List.range 8)
      rwa [List.length_range] at this
    generalize (List.range 8).countP (fun r => decide (sd z st r < z r)) = c at h1 h2 h3
    have h4 : (1000, 0).2 + 8 ^ (n - 1) * c ≤ 8 ^ (n + 1 - 1) := by
      show 0 + _ ≤ _
      rw [Nat.zero_add]
      cases n with
      | zero =>
        show 1 * c ≤ 1
        omega
      | succ m =>
        show 8 ^ m * c ≤ 8 ^ m * 8
        exact Nat.mul_le_mul_left _ h3
    exact Nat.le_trans h1 h4
