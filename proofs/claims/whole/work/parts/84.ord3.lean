/-! orders: the fewest gaps oB far (pull form; no program here) -/
theorem sd_pos {z : Nat → Nat} {st r : Nat} (h : 0 < sd z st r) : rx z r ≤ st := by
  unfold sd at h
  by_cases hl : st < rx z r
  · rw [Nat.div_eq_of_lt hl, Nat.zero_mod] at h
    exact absurd h (Nat.lt_irrefl _)
  · omega
theorem sd_back {z : Nat → Nat} {st r : Nat} (h : 0 < sd z st r) : sd z (st - rx z r) r + 1 = sd z st r := by
  have hp := sd_pos h
  have e : st = (st - rx z r) + rx z r := by omega
  have hx := rx_pos z r
  have e2 : st / rx z r = (st - rx z r) / rx z r + 1 := by
    conv => lhs; rw [e]
    exact Nat.add_div_right _ hx
  unfold sd at h ⊢
  rw [e2] at h ⊢
  generalize (st - rx z r) / rx z r = x at *
  have h1 := Nat.mod_lt x (show 0 < z r + 1 by omega)
  by_cases hm : x % (z r + 1) = z r
  · exfalso
    rw [Nat.add_mod, hm] at h
    by_cases hz : z r = 0
    · rw [hz] at h
      simp at h
    · rw [Nat.mod_eq_of_lt (show 1 < z r + 1 by omega), Nat.mod_self] at h
      exact absurd h (Nat.lt_irrefl _)
  · have hz : 1 < z r + 1 := by omega
    rw [Nat.add_mod x 1, Nat.mod_eq_of_lt hz, Nat.mod_eq_of_lt (a := x % (z r + 1) + 1) (by omega)]
theorem sd_back_lt {z : Nat → Nat} {st r : Nat} (h : 0 < sd z st r) : sd z (st - rx z r) r < z r := by
  have h1 := sd_back h
  have h2 := sd_le z st r
  omega
/-- One more that spoke last ahead of roll r at state st: T tells what led there. -/
def oP (v : Nat → Nat) (T : Nat → Nat × Nat) (a : Nat × Nat) (q : Nat) : Nat × Nat :=
  if (T q).2 = 0 then a else if (T q).1 + v q < a.1 then ((T q).1 + v q, (T q).2) else if (T q).1 + v q = a.1 then (a.1, a.2 + (T q).2) else a
def oQ (z : Nat → Nat) (gp : Nat → Nat → Nat → Nat) : Nat → Nat → Nat → Nat × Nat
  | 0, st, q => if st = 0 ∧ q = 0 then (0, 1) else (10000, 0)
  | n + 1, st, q => if 1 ≤ q ∧ 0 < sd z st (q - 1) then (List.range 9).foldl (oP (fun p => gp (st - rx z (q - 1)) p (q - 1)) (fun p => oQ z gp n (st - rx z (q - 1)) p)) (10000, 0) else if st = 0 ∧ q = 0 then (0, 1) else (10000, 0)
/-- What led to a state: the fewest gaps oB far, in how many ways; z8 speeches in all. -/
def oB (z : Nat → Nat) (gp : Nat → Nat → Nat → Nat) (A st q : Nat) : Nat × Nat := oQ z gp (A - rm z st 8) st q
theorem oB_step {z : Nat → Nat} {gp : Nat → Nat → Nat → Nat} {A st r : Nat} (hr : r < 8) (hs : sd z st r < z r) (hA : rm z st 8 ≤ A) : oB z gp A (st + rx z r) (r + 1) = (List.range 9).foldl (oP (fun p => gp st p r) (fun p => oB z gp A st p)) (10000, 0) := by
  have h1 := rm_step hs 8 hr
  have e : A - rm z (st + rx z r) 8 = (A - rm z st 8) + 1 := by omega
  have h2 : 0 < sd z (st + rx z r) r := by rw [sd_same hs]; exact Nat.succ_pos _
  have e2 : st + rx z r - rx z r = st := Nat.add_sub_cancel st (rx z r)
  unfold oB
  rw [e]
  show (if _ then _ else _) = _
  rw [Nat.add_sub_cancel r 1, if_pos ⟨by omega, h2⟩, e2]
theorem oB_none {z : Nat → Nat} {gp : Nat → Nat → Nat → Nat} {A st q : Nat} (h : q = 0 ∨ sd z st (q - 1) = 0) : oB z gp A st q = if st = 0 ∧ q = 0 then (0, 1) else (10000, 0) := by
  unfold oB
  generalize A - rm z st 8 = n
  cases n with
  | zero => rfl
  | succ n =>
    show (if _ then _ else _) = _
    rw [if_neg (by intro x; rcases h with h | h <;> omega)]
theorem oP_ways {v : Nat → Nat} {T : Nat → Nat × Nat} {B : Nat} : ∀ (l : List Nat) (a : Nat × Nat), (∀ q, q ∈ l → (T q).2 ≤ B) → (l.foldl (oP v T) a).2 ≤ a.2 + B * l.countP (fun q => decide ((T q).2 ≠ 0))
  | [], a, _ => by show a.2 ≤ _; omega
  | q :: l, a, H => by
    rw [List.foldl_cons, List.countP_cons]
    have ih := oP_ways (v := v) (T := T) l (oP v T a q) (fun x hx => H x (List.mem_cons_of_mem _ hx))
    have hB := H q List.mem_cons_self
    by_cases h0 : (T q).2 = 0
    · have e : oP v T a q = a := by unfold oP; rw [if_pos h0]
      rw [e] at ih
      rw [e, if_neg (by rw [decide_eq_false (fun x => x h0)]; decide)]
      exact ih
    · have h1 : (oP v T a q).2 ≤ a.2 + B := by
        unfold oP
        rw [if_neg h0]
        split
        · show (T q).2 ≤ _
          omega
        · split
          · show a.2 + _ ≤ _
            omega
          · omega
      rw [if_pos (decide_eq_true h0), Nat.mul_add]
      omega
/-- Ways to come count only where tight: the class's count of what led to a slot. -/
theorem oP_tight {v : Nat → Nat} {T : Nat → Nat × Nat} {U L : Nat → Nat} {G K : Nat} (hU : ∀ q, U q = if (T q).1 + L q = G then (T q).2 else 0) (hG : ∀ q, G ≤ (T q).1 + L q) (hL : ∀ q, L q ≤ v q + K) : ∀ (l : List Nat) (a : Nat × Nat) (u : Nat), (u = if a.1 + K = G then a.2 else 0) → G ≤ a.1 + K →
    (l.foldl (fun u q => if v q + K = L q then u + U q else u) u = if (l.foldl (oP v T) a).1 + K = G then (l.foldl (oP v T) a).2 else 0) ∧ G ≤ (l.foldl (oP v T) a).1 + K
  | [], a, u, h1, h2 => ⟨h1, h2⟩
  | q :: l, a, u, h1, h2 => by
    rw [List.foldl_cons, List.foldl_cons]
    have hq := hU q
    have hgq := hG q
    have hlq := hL q
    have goal : ((if v q + K = L q then u + U q else u) = if (oP v T a q).1 + K = G then (oP v T a q).2 else 0) ∧ G ≤ (oP v T a q).1 + K := by
      unfold oP
      by_cases h0 : (T q).2 = 0
      · have hu0 : U q = 0 := by rw [hq, h0]; split <;> rfl
        rw [if_pos h0, hu0, Nat.add_zero]
        refine ⟨?_, h2⟩
        rw [← h1]
        split <;> rfl
      · rw [if_neg h0]
        by_cases hlt : (T q).1 + v q < a.1
        · rw [if_pos hlt]
          have hau : u = 0 := by rw [h1, if_neg (by omega)]
          refine ⟨?_, by show G ≤ (T q).1 + v q + K; omega⟩
          show _ = if (T q).1 + v q + K = G then (T q).2 else 0
          by_cases ht : v q + K = L q
          · rw [if_pos ht, hau, Nat.zero_add, hq]
            rw [show (T q).1 + v q + K = (T q).1 + L q by omega]
          · rw [if_neg ht, hau, if_neg (by omega)]
        · rw [if_neg hlt]
          by_cases heq : (T q).1 + v q = a.1
          · rw [if_pos heq]
            refine ⟨?_, h2⟩
            show _ = if a.1 + K = G then a.2 + (T q).2 else 0
            by_cases ht : v q + K = L q
            · rw [if_pos ht, h1, hq]
              by_cases hg : a.1 + K = G
              · rw [if_pos hg, if_pos hg, if_pos (by omega)]
              · rw [if_neg hg, if_neg hg, if_neg (by omega)]
            · rw [if_neg ht, h1, if_neg (by omega), if_neg (by omega)]
          · rw [if_neg heq]
            refine ⟨?_, h2⟩
            by_cases ht : v q + K = L q
            · rw [if_pos ht, h1, hq, if_neg (c := (T q).1 + L q = G) (by omega), Nat.add_zero]
            · rw [if_neg ht, h1]
    exact oP_tight hU hG hL l _ _ goal.1 goal.2
