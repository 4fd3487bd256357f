/-! orders: what led to a slot along the best (the class's count) against the fewest gaps so far (no program here) -/
def oU (z : Nat → Nat) (gp : Nat → Nat → Nat → Nat) : Nat → Nat → Nat → Nat
  | 0, st, q => if st = 0 ∧ q = 0 then 1 else 0
  | n + 1, st, q => if 1 ≤ q ∧ 0 < sd z st (q - 1) then (List.range 9).foldl (fun u p => if gp (st - rx z (q - 1)) p (q - 1) + (oL z gp st q).1 = (oL z gp (st - rx z (q - 1)) p).1 then u + oU z gp n (st - rx z (q - 1)) p else u) 0 else if st = 0 ∧ q = 0 then 1 else 0
theorem oU_base {z : Nat → Nat} {gp : Nat → Nat → Nat → Nat} {st q : Nat} (hG : (oL z gp 0 0).1 ≤ 10000) {u : Nat} {a : Nat × Nat} (hu : u = if st = 0 ∧ q = 0 then 1 else 0) (ha : a = if st = 0 ∧ q = 0 then (0, 1) else (10000, 0)) : (u = if a.1 + (oL z gp st q).1 = (oL z gp 0 0).1 then a.2 else 0) ∧ (oL z gp 0 0).1 ≤ a.1 + (oL z gp st q).1 := by
  by_cases h : st = 0 ∧ q = 0
  · rw [if_pos h] at hu ha
    rw [hu, ha, h.1, h.2, if_pos (Nat.zero_add _)]
    exact ⟨rfl, by show _ ≤ 0 + _; omega⟩
  · rw [if_neg h] at hu ha
    rw [hu, ha]
    refine ⟨?_, by show _ ≤ 10000 + _; omega⟩
    split <;> rfl
theorem oU_rel {z : Nat → Nat} {gp : Nat → Nat → Nat → Nat} {A : Nat} (hz : ∀ r, 8 ≤ r → z r = 0) (hG : (oL z gp 0 0).1 ≤ 10000) : ∀ (n st q : Nat), rm z st 8 ≤ A → A - rm z st 8 = n → (oU z gp n st q = if (oQ z gp n st q).1 + (oL z gp st q).1 = (oL z gp 0 0).1 then (oQ z gp n st q).2 else 0) ∧ (oL z gp 0 0).1 ≤ (oQ z gp n st q).1 + (oL z gp st q).1
  | 0, st, q, _, _ => oU_base hG rfl rfl
  | n + 1, st, q, hA, hn => by
    by_cases h : 1 ≤ q ∧ 0 < sd z st (q - 1)
    · have hr : q - 1 < 8 := by
        apply Decidable.byContradiction
        intro hx
        have h1 := hz (q - 1) (by omega)
        have h2 := sd_le z st (q - 1)
        omega
      have eU : oU z gp (n + 1) st q = (List.range 9).foldl (fun u p => if gp (st - rx z (q - 1)) p (q - 1) + (oL z gp st q).1 = (oL z gp (st - rx z (q - 1)) p).1 then u + oU z gp n (st - rx z (q - 1)) p else u) 0 := by
        show (if _ then _ else _) = _
        rw [if_pos h]
      have eQ : oQ z gp (n + 1) st q = (List.range 9).foldl (oP (fun p => gp (st - rx z (q - 1)) p (q - 1)) (fun p => oQ z gp n (st - rx z (q - 1)) p)) (10000, 0) := by
        show (if _ then _ else _) = _
        rw [if_pos h]
      rw [eU, eQ]
      have hp := sd_pos h.2
      have hlt := sd_back_lt h.2
      have est : st - rx z (q - 1) + rx z (q - 1) = st := by omega
      have hrm := rm_step hlt 8 hr
      rw [est] at hrm
      have hA0 : rm z (st - rx z (q - 1)) 8 ≤ A := by rw [← hrm]; omega
      have hn0 : A - rm z (st - rx z (q - 1)) 8 = n := by rw [← hrm]; omega
      have hp0 : 0 < rm z (st - rx z (q - 1)) 8 := by rw [← hrm]; exact Nat.succ_pos _
      generalize st - rx z (q - 1) = s0 at *
      have ih := fun p => oU_rel hz hG n s0 p hA0 hn0
      have hL : ∀ p, (oL z gp s0 p).1 ≤ gp s0 p (q - 1) + (oL z gp st q).1 := by
        intro p
        have h1 := (oG_le (z := z) (st := s0) (f := oN z gp s0 p) (List.range 8) (1000, 0)).2 (q - 1) (List.mem_range.mpr hr) hlt
        rw [← oL_step hp0] at h1
        have h2 : (oN z gp s0 p (q - 1)).1 = (oL z gp st q).1 + gp s0 p (q - 1) := by
          unfold oN
          rw [est, Nat.sub_add_cancel h.1]
        omega
      exact oP_tight (v := fun p => gp s0 p (q - 1)) (T := fun p => oQ z gp n s0 p) (U := fun p => oU z gp n s0 p) (L := fun p => (oL z gp s0 p).1) (G := (oL z gp 0 0).1) (K := (oL z gp st q).1) (fun p => (ih p).1) (fun p => (ih p).2) hL (List.range 9) (10000, 0) 0 (by show 0 = if _ then 0 else 0; split <;> rfl) (by show _ ≤ 10000 + _; omega)
    · have eU : oU z gp (n + 1) st q = if st = 0 ∧ q = 0 then 1 else 0 := by
        show (if _ then _ else _) = _
        rw [if_neg h]
      have eQ : oQ z gp (n + 1) st q = if st = 0 ∧ q = 0 then (0, 1) else (10000, 0) := by
        show (if _ then _ else _) = _
        rw [if_neg h]
      exact oU_base hG eU eQ
theorem oQ_zero {z : Nat → Nat} {gp : Nat → Nat → Nat → Nat} {n q : Nat} : (oQ z gp n 0 q).2 = if q = 0 then 1 else 0 := by
  have e : oQ z gp n 0 q = if 0 = 0 ∧ q = 0 then (0, 1) else (10000, 0) := by
    cases n with
    | zero => rfl
    | succ n =>
      show (if _ then _ else _) = _
      rw [if_neg]
      intro x
      have h2 : sd z 0 (q - 1) = 0 := by unfold sd; rw [Nat.zero_div, Nat.zero_mod]
      omega
  rw [e]
  by_cases h : q = 0
  · rw [if_pos ⟨rfl, h⟩, if_pos h]
  · rw [if_neg (fun x => h x.2), if_neg h]
theorem oQ_nobody {z : Nat → Nat} {gp : Nat → Nat → Nat → Nat} {n st : Nat} (h : st ≠ 0) : (oQ z gp n st 0).2 = 0 := by
  cases n with
  | zero =>
    show (if _ then _ else _ : Nat × Nat).2 = 0
    rw [if_neg (fun x => h x.1)]
  | succ n =>
    show (if _ then _ else _ : Nat × Nat).2 = 0
    rw [if_neg (by omega), if_neg (fun x => h x.1)]
theorem oQ_ways {z : Nat → Nat} {gp : Nat → Nat → Nat → Nat} : ∀ (n st q : Nat), (oQ z gp n st q).2 ≤ 8 ^ (n - 1)
  | 0, st, q => by
    show (if _ then _ else _ : Nat × Nat).2 ≤ 1
    split
    · exact Nat.le_refl _
    · exact Nat.zero_le _
  | n + 1, st, q => by
    have hp8 : 1 ≤ 8 ^ n := Nat.one_le_pow _ _ (by decide)
    show (if _ then _ else _ : Nat × Nat).2 ≤ 8 ^ n
    split
    · rename_i h
      have e9 : List.range 9 = 0 :: [1, 2, 3, 4, 5, 6, 7, 8] := rfl
      by_cases h0 : st - rx z (q - 1) = 0
      · rw [h0]
        have h1 := oP_ways (v := fun p => gp 0 p (q - 1)) (T := fun p => oQ z gp n 0 p) (B := 1) (List.range 9) (10000, 0) (fun p _ => by
          show (oQ z gp n 0 p).2 ≤ 1
          rw [oQ_zero]
          split <;> decide)
        have h2 : (List.range 9).countP (fun p => decide ((oQ z gp n 0 p).2 ≠ 0)) = 1 := by
          have e : (fun p => decide ((oQ z gp n 0 p).2 ≠ 0)) = fun p => decide ((if p = 0 then 1 else 0) ≠ 0) := by
            funext p
            rw [oQ_zero]
          rw [e]
          rfl
        rw [h2] at h1
        exact Nat.le_trans h1 hp8
      · generalize st - rx z (q - 1) = s0 at *
        have h1 := oP_ways (v := fun p => gp s0 p (q - 1)) (T := fun p => oQ z gp n s0 p) (B := 8 ^ (n - 1)) (List.range 9) (10000, 0) (fun p _ => oQ_ways n s0 p)
        have h2 : (List.range 9).countP (fun p => decide ((oQ z gp n s0 p).2 ≠ 0)) ≤ 8 := by
          rw [e9, List.countP_cons, if_neg (by rw [oQ_nobody h0]; decide)]
          exact List.countP_le_length
        cases n with
        | zero =>
          have h3 : (List.range 9).countP (fun p => decide ((oQ z gp 0 s0 p).2 ≠ 0)) = 0 := by
            rw [List.countP_eq_zero]
            intro p _ hx
            apply of_decide_eq_true hx
            show (if _ then _ else _ : Nat × Nat).2 = 0
            rw [if_neg (fun x => h0 x.1)]
          rw [h3] at h1
          exact Nat.le_trans h1 (by decide)
        | succ m =>
          refine Nat.le_trans h1 ?_
          show 0 + 8 ^ m * _ ≤ 8 ^ m * 8
          rw [Nat.zero_add]
          exact Nat.mul_le_mul_left _ h2
    · split
      · exact hp8
      · exact Nat.zero_le _
