/-! the model's worth of a habit at two words *-/
theorem ln202 : fJ0_length_8abf5_202 = some (nI 5) := by decide
theorem ch202 : ∀ k, k < 5 → fJ0_charAt_5068e_202 (nI k) = some (nI ([97, 101, 105, 111, 117].getD k 0)) := by decide
theorem am202 {c : Nat} (hc : c < 900) : fX12_isAmong_202 (nI (96 + c)) = some (isV c) := by
  have key := it_for (β := Unit) (body := fun (kb : Int32 → Option Bool) (t : Int32) => fX12_isAmong_202_L2 (nI (96 + c)) (fun v2 => kb v2) t) 5 (by omega) (fun k _ => nI k) (fun k _ => ∀ j, j < k → 96 + c ≠ [97, 101, 105, 111, 117].getD j 0) (fun _ _ z => z = some (isV c)) ?_ 0 () (Nat.zero_le _) (fun j hj => absurd hj (Nat.not_lt_zero _))
  · exact key
  · intro k _ hk hno kb hkb
    show fX12_isAmong_202_L2 (nI (96 + c)) (fun v2 => kb v2) (nI k) = _
    unfold fX12_isAmong_202_L2
    rw [ln202, bnd]
    by_cases h5 : k = 5
    · rw [h5, if_pos (by rw [pT_le (Nat.le_refl _) (by decide)]; trivial)]
      rw [h5] at hno
      have n0 : 96 + c ≠ 97 := hno 0 (by decide)
      have n1 : 96 + c ≠ 101 := hno 1 (by decide)
      have n2 : 96 + c ≠ 105 := hno 2 (by decide)
      have n3 : 96 + c ≠ 111 := hno 3 (by decide)
      have n4 : 96 + c ≠ 117 := hno 4 (by decide)
      unfold isV
      rw [decide_eq_false (by omega)]
    · have hk5 : k < 5 := by omega
      rw [if_neg (by rw [pF_le (by omega) (by omega)]; exact fun h => h), ch202 k hk5, bnd]
      have hlt : ∀ k, k < 5 → [97, 101, 105, 111, 117].getD k 0 < 1000 ∧ ∀ c, c < 22 → 96 + c = [97, 101, 105, 111, 117].getD k 0 → isV c = true := by decide
      have hmx : ∀ k, k < 5 → [97, 101, 105, 111, 117].getD k 0 ≤ 117 := by decide
      by_cases e : 96 + c = [97, 101, 105, 111, 117].getD k 0
      · have hm := hmx k hk5
        rw [if_pos (by rw [e]), (hlt k hk5).2 c (by omega) e]
      · rw [if_neg (fun x => e ((nI_eq (by have := (hlt k hk5).1; omega) (by omega)).mp x).symm), l1, nI_add]
        exact hkb () hk5 (fun j hj => by
          by_cases ej : j = k
          · rw [ej]; exact e
          · exact hno j (by omega))
