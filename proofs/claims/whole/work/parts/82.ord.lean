/-! orders: the numbers of states (mixed radix), no program here -/
def zs (g : Gh) (S r : Nat) : Nat := if S.testBit r then gS g r else 0
def rx (z : Nat → Nat) : Nat → Nat
  | 0 => 1
  | r + 1 => rx z r * (z r + 1)
def sd (z : Nat → Nat) (st r : Nat) : Nat := st / rx z r % (z r + 1)
theorem rx_pos (z : Nat → Nat) : ∀ r, 0 < rx z r
  | 0 => Nat.one_pos
  | r + 1 => Nat.mul_pos (rx_pos z r) (Nat.succ_pos _)
theorem rx_mul (z : Nat → Nat) (i : Nat) : ∀ d, ∃ c, rx z (i + d) = rx z i * c ∧ 0 < c
  | 0 => ⟨1, by rw [Nat.add_zero, Nat.mul_one], Nat.one_pos⟩
  | d + 1 => by
    obtain ⟨c, e, hc⟩ := rx_mul z i d
    exact ⟨c * (z (i + d) + 1), by rw [← Nat.add_assoc]; show rx z (i + d) * _ = _; rw [e, Nat.mul_assoc], Nat.mul_pos hc (Nat.succ_pos _)⟩
theorem sd_le (z : Nat → Nat) (st r : Nat) : sd z st r ≤ z r := Nat.le_of_lt_succ (Nat.mod_lt _ (Nat.succ_pos _))
theorem sd_mod (z : Nat → Nat) (st r : Nat) : st % rx z (r + 1) = st % rx z r + rx z r * sd z st r := Nat.mod_mul
theorem rx_room {z : Nat → Nat} {st r : Nat} (h : sd z st r < z r) : st % rx z (r + 1) + rx z r < rx z (r + 1) := by
  rw [sd_mod]
  have h1 := Nat.mod_lt st (rx_pos z r)
  have h2 : rx z r * (sd z st r + 2) ≤ rx z r * (z r + 1) := Nat.mul_le_mul_left _ (by omega)
  rw [Nat.mul_add] at h2
  show _ < rx z r * (z r + 1)
  omega
theorem rx_room2 {z : Nat → Nat} {st r : Nat} (h : sd z st r < z r) (d : Nat) : st % rx z (r + 1 + d) + rx z r < rx z (r + 1 + d) := by
  obtain ⟨c, e, hc⟩ := rx_mul z (r + 1) d
  have h1 := rx_room h
  rw [e, Nat.mod_mul]
  have h2 := Nat.mod_lt (st / rx z (r + 1)) hc
  have h3 : rx z (r + 1) * (st / rx z (r + 1) % c + 1) ≤ rx z (r + 1) * c := Nat.mul_le_mul_left _ (by omega)
  rw [Nat.mul_add] at h3
  omega
theorem sd_same {z : Nat → Nat} {st r : Nat} (h : sd z st r < z r) : sd z (st + rx z r) r = sd z st r + 1 := by
  unfold sd at h ⊢
  rw [Nat.add_div_right _ (rx_pos z r), Nat.add_mod, Nat.mod_eq_of_lt (a := 1) (by omega), Nat.mod_eq_of_lt (by omega)]
theorem sd_other {z : Nat → Nat} {st r j : Nat} (h : sd z st r < z r) (hj : j ≠ r) : sd z (st + rx z r) j = sd z st j := by
  by_cases hlt : j < r
  · obtain ⟨c, e, _⟩ := rx_mul z (j + 1) (r - (j + 1))
    rw [show j + 1 + (r - (j + 1)) = r by omega] at e
    have e2 : rx z r = rx z j * ((z j + 1) * c) := by rw [e, ← Nat.mul_assoc]; rfl
    unfold sd
    rw [e2, Nat.add_mul_div_left _ _ (rx_pos z j), Nat.add_mul_mod_self_left]
  · obtain ⟨d, e⟩ : ∃ d, j = r + 1 + d := ⟨j - (r + 1), by omega⟩
    have h1 := rx_room2 h d
    rw [← e] at h1
    unfold sd
    have h2 : (st + rx z r) / rx z j = st / rx z j := by
      rw [Nat.div_eq_iff (rx_pos z j)]
      have h3 := Nat.div_add_mod st (rx z j)
      have h4 := Nat.mul_comm (rx z j) (st / rx z j)
      omega
    rw [h2]
theorem sd_room {z : Nat → Nat} {st r n : Nat} (h : sd z st r < z r) (hr : r < n) (hst : st < rx z n) : st + rx z r < rx z n := by
  have h1 := rx_room2 h (n - (r + 1))
  rw [show r + 1 + (n - (r + 1)) = n by omega, Nat.mod_eq_of_lt hst] at h1
  exact h1
/-- How many speeches are still to come at a state. -/
def rm (z : Nat → Nat) (st : Nat) : Nat → Nat
  | 0 => 0
  | n + 1 => rm z st n + (z n - sd z st n)
theorem rm_same {z : Nat → Nat} {st r : Nat} (h : sd z st r < z r) : ∀ n, n ≤ r → rm z (st + rx z r) n = rm z st n
  | 0, _ => rfl
  | n + 1, hn => by
    unfold rm
    rw [rm_same h n (by omega), sd_other h (by omega)]
theorem rm_step {z : Nat → Nat} {st r : Nat} (h : sd z st r < z r) : ∀ n, r < n → rm z (st + rx z r) n + 1 = rm z st n
  | 0, hn => absurd hn (Nat.not_lt_zero _)
  | n + 1, hn => by
    unfold rm
    by_cases e : n = r
    · rw [e, rm_same h r (Nat.le_refl _), sd_same h]
      omega
    · have := rm_step h n (by omega)
      rw [sd_other h e]
      omega
theorem rm_pos {z : Nat → Nat} {st r : Nat} (h : sd z st r < z r) {n : Nat} (hr : r < n) : 0 < rm z st n := by
  have := rm_step h n hr
  omega
theorem rm_zero {z : Nat → Nat} {st : Nat} : ∀ {n}, rm z st n = 0 → ∀ r, r < n → sd z st r = z r
  | 0, _, r, hr => absurd hr (Nat.not_lt_zero _)
  | n + 1, h, r, hr => by
    unfold rm at h
    have := sd_le z st n
    by_cases e : r = n
    · rw [e]; omega
    · exact rm_zero (n := n) (by omega) r (by omega)
/-- The last state: all is said. -/
theorem sd_last {z : Nat → Nat} : ∀ {n st : Nat}, st < rx z n → (∀ r, r < n → sd z st r = z r) → st + 1 = rx z n
  | 0, st, h, _ => by
    have : rx z 0 = 1 := rfl
    omega
  | n + 1, st, h, ha => by
    have h1 : st % rx z n < rx z n := Nat.mod_lt _ (rx_pos z n)
    have h2 : ∀ r, r < n → sd z (st % rx z n) r = z r := by
      intro r hr
      rw [← ha r (by omega)]
      obtain ⟨c, e, _⟩ := rx_mul z (r + 1) (n - (r + 1))
      rw [show r + 1 + (n - (r + 1)) = n by omega] at e
      have e2 : rx z n = rx z r * ((z r + 1) * c) := by rw [e, ← Nat.mul_assoc]; rfl
      have e3 : ∀ x q, (x + rx z r * ((z r + 1) * q)) / rx z r % (z r + 1) = x / rx z r % (z r + 1) := fun x q => by
        rw [Nat.add_mul_div_left _ _ (rx_pos z r), Nat.add_mul_mod_self_left]
      unfold sd
      rw [← e3 (st % rx z n) (c * (st / rx z n))]
      have h3 : st % rx z n + rx z r * ((z r + 1) * (c * (st / rx z n))) = st := by
        have h6 : rx z r * ((z r + 1) * (c * (st / rx z n))) = rx z n * (st / rx z n) := by
          rw [← Nat.mul_assoc (z r + 1), ← Nat.mul_assoc (rx z r), ← e2]
        rw [h6]
        exact Nat.mod_add_div st (rx z n)
      rw [h3]
    have h4 := sd_last h1 h2
    have h5 := sd_mod z st n
    rw [Nat.mod_eq_of_lt h, ha n (by omega)] at h5
    show _ = rx z n * (z n + 1)
    rw [Nat.mul_add]
    omega
