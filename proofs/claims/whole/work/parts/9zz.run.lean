/-! all calls of a script -/
def g0 : Gh := (0, fun _ => 0, fun _ => [], fun _ => [])
def p0 : Gp := (0, fun _ => 0, fun _ _ => 0, 0)
theorem vd_g0 (s : Nat) : vd g0 s = false := decide_eq_false (fun x => absurd x.1 (Nat.not_lt_zero _))
theorem sp_g0 : sp g0 = [] := by
  unfold sp
  rw [List.filter_eq_nil_iff]
  intro s _
  rw [vd_g0]
  decide
theorem JV_start : JV 0 σi := by
  have hN : gN g0 = 0 := rfl
  have hv : ∀ s, vd g0 s = true → False := fun s hs => by rw [vd_g0] at hs; cases hs
  have hr : ∀ r, r < gN g0 → False := fun r hr => absurd hr (Nat.not_lt_zero _)
  refine ⟨g0, p0, 1, 0, 0, 0, [], [], fun _ => [], 0, ⟨⟨⟨Nat.zero_le _, fun r h => (hr r h).elim, fun s h => (hv s h).elim⟩, ⟨rfl, fun r h => (hr r h).elim, fun s h => (hv s h).elim, ?_, fun i h => ?_⟩, ⟨rfl, fun r h => (hr r h).elim, fun s h => (hv s h).elim⟩, by omega, rfl, rfl⟩, ⟨Nat.zero_le _, rfl, rfl, fun q h => absurd h (Nat.not_lt_zero _), by decide, rfl, rfl⟩, ⟨Nat.zero_le _, fun b h => (by cases h), rfl, rfl, fun j h => absurd h (Nat.not_lt_zero _), fun j h => absurd h (Nat.not_lt_zero _)⟩, ⟨rfl, rfl, fun j h => absurd h (Nat.not_lt_zero _), fun s h => (by cases h), fun r h => (hr r h).elim⟩, ⟨Nat.zero_le _, rfl, rfl, fun r h => (hr r h).elim⟩, ⟨rfl, rfl, rfl, rfl, Nat.le_refl _, Nat.le_refl _, fun j h => absurd h (Nat.not_lt_zero _)⟩, fun j h => absurd h (Nat.not_lt_zero _)⟩, ⟨fun j _ => ?_, ⟨0, 0, 0, 0, by omega, by omega, by omega, by omega, rfl, rfl, rfl, rfl⟩, fun j => ?_, ⟨rfl, by omega, 0, Nat.le_refl _, rfl, fun _ => Or.inl rfl⟩, ?_⟩, by omega⟩
  · rw [sp_g0]
    rfl
  · rw [sp_g0] at h
    exact absurd h (Nat.not_lt_zero _)
  · show (0 : Int32) ≠ mI
    decide
  · rcases j with _ | _ | _ | j
    · exact ⟨by decide, by decide⟩
    · exact ⟨by decide, by decide⟩
    · exact ⟨by decide, by decide⟩
    · exact ⟨(by decide : (55 : Nat) ≠ 45), (by decide : (55 : Nat) ≠ 46)⟩
  · have e45 : zN σi 45 = 0 := rfl
    have e46 : zN σi 46 = 0 := rfl
    have e0 : zN σi 0 = 89 := rfl
    have e1 : zN σi 1 = 733829 := rfl
    unfold AC
    rw [e45, e46, e0, e1]
    exact ⟨by omega, Or.inl rfl, by omega, by omega⟩
theorem pot_le {L : Nat} (h : L ≤ 160001) : pot L ≤ 480002 := by
  unfold pot
  split <;> omega
theorem JV.room {i : Nat} {σ : St} (hi : i ≤ 512) (k : JV i σ) : zN σ 0 ≤ 601024 ∧ zN σ 1 ≤ 7293034 := by
  obtain ⟨g, p, lim, nh, kr, kp, bs, pl, hb, ch, _, ⟨_, _, _, _, a1, a2, a3, a4⟩, _⟩ := k
  have h1 := pot_le a1
  have h46 : zN σ 46 ≤ 160001 := by omega
  have h2 := pot_le h46
  omega
theorem law_run (xs : Nat → Int32) (n : Nat) (hn : n ≤ 3072) : ∃ υ, fL_law_300_P23 xs n σi (nI 0) = some (true, υ) ∧ zN υ 0 ≤ 601024 ∧ zN υ 1 ≤ 7293034 := by
  have key := it_for (β := St) (body := fun (kb : (St × Int32) → Option (Bool × St)) (t : St × Int32) => fL_law_300_L23 xs n (fun σ v4 => kb (σ, v4)) t.1 t.2) (n / 6) (by omega) (fun i y => (y, nI (6 * i))) (fun i y => JV i y) (fun i y z => ∃ υ, z = some (true, υ) ∧ zN υ 0 ≤ 601024 ∧ zN υ 1 ≤ 7293034) ?_ 0 σi (Nat.zero_le _) JV_start
  · exact key
  · intro i y hi hJ kb hkb
    show ∃ υ, fL_law_300_L23 xs n (fun σ v4 => kb (σ, v4)) y (nI (6 * i)) = some (true, υ) ∧ _
    by_cases hlt : i < n / 6
    · obtain ⟨υ, h1, h2⟩ := law_step (xs := xs) hn (show 6 * i + 6 ≤ n by omega) hJ (fun σ v4 => kb (σ, v4))
      rw [h2]
      exact hkb υ hlt h1
    · have he : i = n / 6 := by omega
      have eg : Int32.ofNat n - (6 : Int32) < nI (6 * i) := by
        by_cases h6 : 6 ≤ n
        · rw [oNI, l6, pI_sub h6]
          exact nI_lt (by omega) (by omega)
        · have hs : ∀ m, m < 6 → Int32.ofNat m - (6 : Int32) < nI 0 := by decide
          have e0 : 6 * i = 0 := by omega
          rw [e0]
          exact hs n (by omega)
      refine ⟨y, ?_, hJ.room (by omega)⟩
      unfold fL_law_300_L23
      rw [if_pos eg]
