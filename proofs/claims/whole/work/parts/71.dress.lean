/-! coats: both searches, apart from the stores -/
def fr (S : Nat) (K : Nat → Nat → Bool) (f : Nat → Nat) (p c : Nat) : Bool := (List.range p).all (fun q => !(S.testBit q && (K p q && decide (f q = c))))
def d1 (S m : Nat) (K : Nat → Nat → Bool) : Nat → Nat → (Nat → Nat) → Option (Nat → Nat)
  | 0, _, f => some f
  | n + 1, w, f => if S.testBit (9 - n) = true then (List.range (min (w + 1) m)).findSome? (fun c => if fr S K f (9 - n) c = true then d1 S m K n (max w (c + 1)) (up f (9 - n) c) else none) else d1 S m K n w f
def d2 (S m : Nat) (K : Nat → Nat → Bool) : Nat → (Nat → Nat) → Option (Nat → Nat)
  | 0, f => some f
  | n + 1, f => if S.testBit (9 - n) = true then (List.range m).findSome? (fun c => if fr S K f (9 - n) c = true then d2 S m K n (up f (9 - n) c) else none) else d2 S m K n f
/-- what lower parts wear can be gone on with -/
def Xt (S m : Nat) (K : Nat → Nat → Bool) (p : Nat) (f : Nat → Nat) : Prop := ∃ h : Nat → Nat, (∀ q, q < p → h q = f q) ∧ (∀ q, p ≤ q → q < 10 → S.testBit q = true → h q < m) ∧ ∀ a b, a < b → b < 10 → p ≤ b → S.testBit a = true → S.testBit b = true → K b a = true → h a ≠ h b
theorem fr_iff {S : Nat} {K : Nat → Nat → Bool} {f : Nat → Nat} {p c : Nat} : fr S K f p c = true ↔ ∀ q, q < p → S.testBit q = true → K p q = true → f q ≠ c := by
  unfold fr
  rw [List.all_eq_true]
  constructor
  · intro h q hq h1 h2 h3
    have := h q (List.mem_range.mpr hq)
    rw [h1, h2, decide_eq_true h3] at this
    cases this
  · intro h q hq
    rw [List.mem_range] at hq
    cases h1 : S.testBit q with
    | false => rfl
    | true =>
      cases h2 : K p q with
      | false => rfl
      | true =>
        rw [decide_eq_false (h q hq h1 h2)]
        rfl
theorem up_self (f : Nat → Nat) (p c : Nat) : up f p c p = c := if_pos rfl
theorem up_ne (f : Nat → Nat) {p c q : Nat} (h : q ≠ p) : up f p c q = f q := if_neg h
theorem d2_iff {S m : Nat} {K : Nat → Nat → Bool} : ∀ n, n ≤ 10 → ∀ f, (d2 S m K n f).isSome = true ↔ Xt S m K (10 - n) f := by
  intro n
  induction n with
  | zero =>
    intro _ f
    refine ⟨fun _ => ⟨f, fun _ _ => rfl, fun q h1 h2 => by omega, fun a b _ h2 h3 => by omega⟩, fun _ => rfl⟩
  | succ n ih =>
    intro hn f
    have ih := ih (by omega)
    have e10 : 10 - n = 9 - n + 1 := by omega
    have e9 : 10 - (n + 1) = 9 - n := by omega
    rw [d2, e9]
    generalize hp : 9 - n = p at *
    rw [e10] at ih
    by_cases hS : S.testBit p = true
    · rw [if_pos hS, List.findSome?_isSome_iff]
      constructor
      · rintro ⟨c, hc, hx⟩
        rw [List.mem_range] at hc
        by_cases hf : fr S K f p c = true
        · rw [if_pos hf, ih] at hx
          obtain ⟨h, h1, h2, h3⟩ := hx
          have hhp : h p = c := by rw [h1 p (by omega), up_self]
          refine ⟨h, fun q hq => by rw [h1 q (by omega), up_ne _ (by omega)], fun q hq hq2 hq3 => ?_, fun a b hab hb hpb ha hb2 hk => ?_⟩
          · by_cases e : q = p
            · rw [e, hhp]; exact hc
            · exact h2 q (by omega) hq2 hq3
          · by_cases e : b = p
            · subst e
              rw [hhp, h1 a (by omega), up_ne _ (by omega)]
              exact fr_iff.mp hf a hab ha hk
            · exact h3 a b hab hb (by omega) ha hb2 hk
        · rw [if_neg hf] at hx
          cases hx
      · rintro ⟨h, h1, h2, h3⟩
        refine ⟨h p, List.mem_range.mpr (h2 p (Nat.le_refl _) (by omega) hS), ?_⟩
        have hf : fr S K f p (h p) = true := by
          rw [fr_iff]
          intro q hq hq2 hk e
          have := h3 q p hq (by omega) (Nat.le_refl _) hq2 hS hk
          rw [h1 q hq] at this
          exact this e
        rw [if_pos hf, ih]
        refine ⟨h, fun q hq => ?_, fun q hq hq2 hq3 => h2 q (by omega) hq2 hq3, fun a b hab hb hpb ha hb2 hk => h3 a b hab hb (by omega) ha hb2 hk⟩
        by_cases e : q = p
        · rw [e, up_self]
        · rw [up_ne _ e, h1 q (by omega)]
    · rw [if_neg hS, ih]
      constructor
      · rintro ⟨h, h1, h2, h3⟩
        refine ⟨h, fun q hq => h1 q (by omega), fun q hq hq2 hq3 => ?_, fun a b hab hb hpb ha hb2 hk => ?_⟩
        · by_cases e : q = p
          · rw [e] at hq3; exact absurd hq3 hS
          · exact h2 q (by omega) hq2 hq3
        · by_cases e : b = p
          · rw [e] at hb2; exact absurd hb2 hS
          · exact h3 a b hab hb (by omega) ha hb2 hk
      · rintro ⟨h, h1, h2, h3⟩
        refine ⟨up h p (f p), fun q hq => ?_, fun q hq hq2 hq3 => ?_, fun a b hab hb hpb ha hb2 hk => ?_⟩
        · by_cases e : q = p
          · rw [e, up_self]
          · rw [up_ne _ e, h1 q (by omega)]
        · rw [up_ne _ (by omega)]
          exact h2 q (by omega) hq2 hq3
        · have e1 : a ≠ p := fun e => by rw [e] at ha; exact hS ha
          have e2 : b ≠ p := fun e => by rw [e] at hb2; exact hS hb2
          rw [up_ne _ e1, up_ne _ e2]
          exact h3 a b hab hb (by omega) ha hb2 hk
/-- two colours that no lower part wears can be told apart by nothing -/
theorem Xt_swap {S m : Nat} {K : Nat → Nat → Bool} {p : Nat} {f : Nat → Nat} {w c : Nat} (hl : ∀ q, q < p → S.testBit q = true → f q < w) (hc : w ≤ c) (hw : w < m) (hcm : c < m) (h : Xt S m K (p + 1) (up f p c)) : Xt S m K (p + 1) (up f p w) := by
  obtain ⟨h, h1, h2, h3⟩ := h
  have hp : h p = c := by rw [h1 p (by omega), up_self]
  have inj : ∀ x y : Nat, (if x = w then c else if x = c then w else x) = (if y = w then c else if y = c then w else y) → x = y := by
    intro x y
    split <;> split <;> (try split) <;> (try split) <;> omega
  refine ⟨fun q => if q < p then f q else (if h q = w then c else if h q = c then w else h q), fun q hq => ?_, fun q hq hq2 hq3 => ?_, fun a b hab hb hpb ha hb2 hk => ?_⟩
  · show (if q < p then f q else _) = _
    by_cases e : q < p
    · rw [if_pos e, up_ne _ (by omega)]
    · rw [if_neg e, show q = p by omega, hp, up_self]
      split
      · omega
      · rw [if_pos rfl]
  · show (if q < p then f q else _) < m
    rw [if_neg (by omega)]
    have := h2 q hq hq2 hq3
    split
    · exact hcm
    · split
      · exact hw
      · exact this
  · show (if a < p then f a else _) ≠ (if b < p then f b else _)
    have hx := h3 a b hab hb hpb ha hb2 hk
    rw [if_neg (show ¬ b < p by omega)]
    by_cases ea : a < p
    · rw [if_pos ea]
      have hfa := hl a ea ha
      have e1 : h a = f a := by rw [h1 a (by omega), up_ne _ (by omega)]
      rw [e1] at hx
      intro e
      apply hx
      split at e
      · omega
      · split at e
        · omega
        · exact e
    · rw [if_neg ea]
      exact fun e => hx (inj _ _ e)
theorem d12 {S m : Nat} {K : Nat → Nat → Bool} : ∀ n, n ≤ 10 → ∀ w f, w ≤ m → (∀ q, q < 10 - n → S.testBit q = true → f q < w) → d1 S m K n w f = d2 S m K n f := by
  intro n
  induction n with
  | zero => intro _ w f _ _; rfl
  | succ n ih =>
    intro hn w f hw hl
    have ih := ih (by omega)
    rw [d1, d2]
    have e9 : 10 - (n + 1) = 9 - n := by omega
    have e10 : 10 - n = 9 - n + 1 := by omega
    have hdi := d2_iff (S := S) (m := m) (K := K) n (by omega)
    rw [e9] at hl
    rw [e10] at ih hdi
    generalize hp : 9 - n = p at *
    by_cases hS : S.testBit p = true
    · rw [if_pos hS, if_pos hS]
      have step : ∀ c, c ≤ w → c < m → d1 S m K n (max w (c + 1)) (up f p c) = d2 S m K n (up f p c) := by
        intro c hc hcm
        refine ih _ _ (by omega) (fun q hq hq2 => ?_)
        by_cases e : q = p
        · rw [e, up_self]; omega
        · rw [up_ne _ e]
          have := hl q (by omega) hq2
          omega
      have e1 : (List.range (min (w + 1) m)).findSome? (fun c => if fr S K f p c = true then d1 S m K n (max w (c + 1)) (up f p c) else none) = (List.range (min (w + 1) m)).findSome? (fun c => if fr S K f p c = true then d2 S m K n (up f p c) else none) := by
        have aux : ∀ l : List Nat, (∀ c, c ∈ l → c ≤ w ∧ c < m) → l.findSome? (fun c => if fr S K f p c = true then d1 S m K n (max w (c + 1)) (up f p c) else none) = l.findSome? (fun c => if fr S K f p c = true then d2 S m K n (up f p c) else none) := by
          intro l
          induction l with
          | nil => intro _; rfl
          | cons x l ih2 =>
            intro hx
            rw [List.findSome?_cons, List.findSome?_cons, ih2 (fun c hc => hx c (List.mem_cons_of_mem _ hc)), step x (hx x List.mem_cons_self).1 (hx x List.mem_cons_self).2]
        exact aux _ (fun c hc => by rw [List.mem_range] at hc; omega)
      rw [e1]
      by_cases hmw : m ≤ w + 1
      · rw [Nat.min_eq_right hmw]
      · rw [Nat.min_eq_left (by omega)]
        have hr : List.range m = List.range (w + 1) ++ (List.range m).drop (w + 1) := by
          conv => lhs; rw [← List.take_append_drop (w + 1) (List.range m)]
          rw [List.take_range, Nat.min_eq_left (by omega)]
        rw [hr, List.findSome?_append]
        cases hx : (List.range (w + 1)).findSome? (fun c => if fr S K f p c = true then d2 S m K n (up f p c) else none) with
        | some g => rfl
        | none =>
          rw [Option.none_or]
          symm
          rw [List.findSome?_eq_none_iff]
          intro c hc
          obtain ⟨i, hi, he⟩ := List.getElem_of_mem hc
          rw [List.getElem_drop, List.getElem_range] at he
          rw [List.length_drop, List.length_range] at hi
          rw [List.findSome?_eq_none_iff] at hx
          have hxw := hx w (List.mem_range.mpr (by omega))
          have hfw : fr S K f p w = true := by
            rw [fr_iff]
            intro q hq hq2 _ e
            have := hl q hq hq2
            omega
          rw [if_pos hfw] at hxw
          by_cases hfc : fr S K f p c = true
          · rw [if_pos hfc]
            cases hy : d2 S m K n (up f p c) with
            | none => rfl
            | some g =>
              have h1 : (d2 S m K n (up f p c)).isSome = true := by rw [hy]; rfl
              have h2 := Xt_swap hl (show w ≤ c by omega) (by omega) (by omega) ((hdi _).mp h1)
              have h3 := (hdi _).mpr h2
              rw [hxw] at h3
              cases h3
          · rw [if_neg hfc]
    · rw [if_neg hS, if_neg hS]
      refine ih _ _ hw (fun q hq hq2 => ?_)
      by_cases e : q = p
      · rw [e] at hq2; exact absurd hq2 hS
      · exact hl q (by omega) hq2
theorem d2_10 {S : Nat} {K : Nat → Nat → Bool} {m : Nat} (hm : 10 ≤ m) (f : Nat → Nat) : (d2 S m K 10 f).isSome = true := by
  rw [d2_iff 10 (Nat.le_refl _)]
  exact ⟨fun q => q, fun q hq => by omega, fun q _ hq _ => by show q < m; omega, fun a b hab _ _ _ _ _ => by show a ≠ b; omega⟩
theorem fr_cong {S : Nat} {K : Nat → Nat → Bool} {f g : Nat → Nat} {p c : Nat} (h : ∀ q, q < p → S.testBit q = true → f q = g q) : fr S K f p c = fr S K g p c := by
  rw [Bool.eq_iff_iff, fr_iff, fr_iff]
  constructor
  · intro x q hq h1 h2 h3
    exact x q hq h1 h2 (by rw [h q hq h1]; exact h3)
  · intro x q hq h1 h2 h3
    exact x q hq h1 h2 (by rw [← h q hq h1]; exact h3)
