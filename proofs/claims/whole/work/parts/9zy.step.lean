/-! the law: a call, then all calls -/
theorem q_many {i : Nat} {σ : St} (k : JV i σ) (a : Int32) : Q1 i σ (fX11_many σ a) (fun τ => fX12_many τ a) := by
  obtain ⟨g, p, lim, nh, kr, kp, bs, pl, hb, ch, ⟨k1, k2, k3, k4, k5, k6, k7⟩, _, _⟩ := id k
  exact Q1.of k (t_many k1 a)
theorem q_ends {i : Nat} {σ : St} (k : JV i σ) (a b : Int32) : Q1 i σ (fX11_ends σ a b) (fun τ => fX12_ends τ a b) := by
  obtain ⟨g, p, lim, nh, kr, kp, bs, pl, hb, ch, ⟨k1, k2, k3, k4, k5, k6, k7⟩, _, _⟩ := id k
  exact Q1.of k (t_ends k1 a b)
theorem q_far {i : Nat} {σ : St} (k : JV i σ) (a b : Int32) : Q2 i (fX11_far σ a b) (fun τ => fX12_far τ a b) := by
  obtain ⟨g, p, lim, nh, kr, kp, bs, pl, hb, ch, ⟨k1, k2, k3, k4, k5, k6, k7⟩, _, _⟩ := id k
  exact Q2.of k (t_far k1 a b)
theorem q_kind {i : Nat} {σ : St} (k : JV i σ) (a b : Int32) : Q2 i (fX11_kind σ a b) (fun τ => fX12_kind τ a b) := by
  obtain ⟨g, p, lim, nh, kr, kp, bs, pl, hb, ch, ⟨k1, k2, k3, k4, k5, k6, k7⟩, _, _⟩ := id k
  exact Q2.of k (t_kind k1 a b)
theorem q_kinds {i : Nat} {σ : St} (k : JV i σ) (a b : Int32) : Q2 i (fX11_kinds σ a b) (fun τ => fX12_kinds τ a b) := by
  obtain ⟨g, p, lim, nh, kr, kp, bs, pl, hb, ch, ⟨k1, k2, k3, k4, k5, k6, k7⟩, _, _⟩ := id k
  exact Q2.of k (t_kinds k1 a b)
theorem q_nearest {i : Nat} {σ : St} (k : JV i σ) (a b : Int32) : Q2 i (fX11_nearest σ a b) (fun τ => fX12_nearest τ a b) := by
  obtain ⟨g, p, lim, nh, kr, kp, bs, pl, hb, ch, ⟨k1, k2, k3, k4, k5, k6, k7⟩, _, _⟩ := id k
  exact Q2.of k (t_nearest k1 a b)
theorem q_one {i : Nat} {σ : St} (k : JV i σ) (a : Int32) : Q2 i (fX11_one σ a) (fun τ => fX12_one τ a) := by
  obtain ⟨g, p, lim, nh, kr, kp, bs, pl, hb, ch, ⟨k1, k2, k3, k4, k5, k6, k7⟩, _, _⟩ := id k
  exact Q2.of k (t_one k1 a)
theorem q_settles {i : Nat} {σ : St} (k : JV i σ) (a b : Int32) : Q1 i σ (fX11_settles σ a b) (fun τ => fX12_settles τ a b) := by
  obtain ⟨g, p, lim, nh, kr, kp, bs, pl, hb, ch, ⟨k1, k2, k3, k4, k5, k6, k7⟩, _, _⟩ := id k
  exact Q1.of k (t_settles k1 a b)
theorem q_next {i : Nat} {σ : St} (k : JV i σ) (a : Int32) : Q1 i σ (fX11_next σ a) (fun τ => fX12_next τ a) := by
  obtain ⟨g, p, lim, nh, kr, kp, bs, pl, hb, ch, ⟨k1, k2, k3, k4, k5, k6, k7⟩, _, _⟩ := id k
  exact Q1.of k (t_next k1 a)
theorem q_play {i : Nat} {σ : St} (k : JV i σ) (a : Int32) : Q1 i σ (fX11_play σ a) (fun τ => fX12_play τ a) := by
  obtain ⟨g, p, lim, nh, kr, kp, bs, pl, hb, ch, ⟨k1, k2, k3, k4, k5, k6, k7⟩, _, _⟩ := id k
  exact Q1.of k (t_play k1.1 k4 a)
theorem q_wrong {i : Nat} {σ : St} (k : JV i σ) (a : Int32) : Q1 i σ (fX11_wrong σ a) (fun τ => fX12_wrong τ a) := by
  obtain ⟨g, p, lim, nh, kr, kp, bs, pl, hb, ch, ⟨k1, k2, k3, k4, k5, k6, k7⟩, _, _⟩ := id k
  exact Q1.of k (t_wrong k1 k4 a)
theorem q_rehearse {i : Nat} {σ : St} (k : JV i σ) (a b : Int32) : Q2 i (fX11_rehearse σ a b) (fun τ => fX12_rehearse τ a b) := by
  obtain ⟨g, p, lim, nh, kr, kp, bs, pl, hb, ch, ⟨k1, k2, k3, k4, k5, k6, k7⟩, _, _⟩ := id k
  exact Q2.of k (t_rehearse k1 a b)
theorem q_soon {i : Nat} {σ : St} (k : JV i σ) (a : Int32) : Q2 i (fX11_soon σ a) (fun τ => fX12_soon τ a) := by
  obtain ⟨g, p, lim, nh, kr, kp, bs, pl, hb, ch, ⟨k1, k2, k3, k4, k5, k6, k7⟩, _, _⟩ := id k
  exact Q2.of k (t_soon k1 k4 a)
theorem q_inside {i : Nat} {σ : St} (k : JV i σ) (a b : Int32) : Q1 i σ (fX11_inside σ a b) (fun τ => fX12_inside τ a b) := by
  obtain ⟨g, p, lim, nh, kr, kp, bs, pl, hb, ch, ⟨k1, k2, k3, k4, k5, k6, k7⟩, _, _⟩ := id k
  exact Q1.of k (t_inside k1 a b)
theorem q_tempted {i : Nat} {σ : St} (k : JV i σ) (a : Int32) : Q1 i σ (fX11_tempted σ a) (fun τ => fX12_tempted τ a) := by
  obtain ⟨g, p, lim, nh, kr, kp, bs, pl, hb, ch, ⟨k1, k2, k3, k4, k5, k6, k7⟩, _, _⟩ := id k
  exact Q1.of k (t_tempted k1 a)
theorem q_plot {i : Nat} {σ : St} (k : JV i σ) (a b : Int32) : Q1 i σ (fX11_plot σ a b) (fun τ => fX12_plot τ a b) := by
  obtain ⟨g, p, lim, nh, kr, kp, bs, pl, hb, ch, ⟨k1, k2, k3, k4, k5, k6, k7⟩, _, _⟩ := id k
  exact Q1.of k (t_plot k2 a b)
theorem q_bars {i : Nat} {σ : St} (k : JV i σ) (a b c d : Int32) : Q2 i (fX11_bars σ a b c d) (fun τ => fX12_bars τ a b c d) := by
  obtain ⟨g, p, lim, nh, kr, kp, bs, pl, hb, ch, ⟨k1, k2, k3, k4, k5, k6, k7⟩, _, _⟩ := id k
  exact Q2.of k (t_bars k2 a b c d)
theorem q_cast {i : Nat} {σ : St} (k : JV i σ) (a b c : Int32) : Q2 i (fX11_cast σ a b c) (fun τ => fX12_cast τ a b c) := by
  obtain ⟨g, p, lim, nh, kr, kp, bs, pl, hb, ch, ⟨k1, k2, k3, k4, k5, k6, k7⟩, _, _⟩ := id k
  exact Q2.of k (t_cast k2 a b c)
theorem q_crowd {i : Nat} {σ : St} (k : JV i σ) (a b : Int32) : Q1 i σ (fX11_crowd σ a b) (fun τ => fX12_crowd τ a b) := by
  obtain ⟨g, p, lim, nh, kr, kp, bs, pl, hb, ch, ⟨k1, k2, k3, k4, k5, k6, k7⟩, _, _⟩ := id k
  exact Q1.of k (t_crowd k2 a b)
theorem q_could {i : Nat} {σ : St} (k : JV i σ) (a b c d : Int32) : Q2 i (fX11_could σ a b c d) (fun τ => fX12_could τ a b c d) := by
  obtain ⟨g, p, lim, nh, kr, kp, bs, pl, hb, ch, ⟨k1, k2, k3, k4, k5, k6, k7⟩, _, _⟩ := id k
  exact Q2.of k (t_could k2 a b c d)
theorem q_count {i : Nat} {σ : St} (k : JV i σ) (a : Int32) : Q1 i σ (fX11_count σ a) (fun τ => fX12_count τ a) := by
  obtain ⟨g, p, lim, nh, kr, kp, bs, pl, hb, ch, ⟨k1, k2, k3, k4, k5, k6, k7⟩, _, _⟩ := id k
  exact Q1.of k (t_count ⟨k1, k2, k3, k5.2.1, k5.2.2.1⟩ a)
theorem lgr (x : Int64) : (lg_cmp x x = nI 0) = True := eq_true ((lg_cmp_eq _ _).mpr rfl)
theorem i_eq (x : Int32) : (x = x) = True := eq_true rfl
theorem law_step {xs : Nat → Int32} {n i : Nat} {σ : St} (hn : n ≤ 3072) (h6 : 6 * i + 6 ≤ n) (hJ : JV i σ) (kb : St → Int32 → Option (Bool × St)) : ∃ υ, JV (i + 1) υ ∧ fL_law_300_L23 xs n kb σ (nI (6 * i)) = kb υ (nI (6 * (i + 1))) := by
  have e0 : rd xs n (nI (6 * i)) = some (xs (6 * i)) := rd_nI (by omega) (by omega)
  have e1 : rd xs n (nI (6 * i) + (1 : Int32)) = some (xs (6 * i + 1)) := by rw [l1, nI_add, rd_nI (by omega) (by omega)]
  have e2 : rd xs n (nI (6 * i) + (2 : Int32)) = some (xs (6 * i + 2)) := by rw [l2, nI_add, rd_nI (by omega) (by omega)]
  have e3 : rd xs n (nI (6 * i) + (3 : Int32)) = some (xs (6 * i + 3)) := by rw [l3, nI_add, rd_nI (by omega) (by omega)]
  have e4 : rd xs n (nI (6 * i) + (4 : Int32)) = some (xs (6 * i + 4)) := by rw [l4, nI_add, rd_nI (by omega) (by omega)]
  have e5 : rd xs n (nI (6 * i) + (5 : Int32)) = some (xs (6 * i + 5)) := by rw [l5, nI_add, rd_nI (by omega) (by omega)]
  have e6 : nI (6 * i) + (6 : Int32) = nI (6 * (i + 1)) := by rw [l6, nI_add]; congr 1
  have eg : ¬ (Int32.ofNat n - (6 : Int32) < nI (6 * i)) := by
    rw [oNI, l6, pI_sub (by omega), pF_lt (by omega) (by omega)]
    exact id
  have hi : i ≤ 600 := by omega
  unfold fL_law_300_L23
  rw [if_neg eg, e0, bnd]
  generalize xs (6 * i) &&& (63 : Int32) = w
  by_cases h0 : w = 0
  · rw [if_pos h0]
    obtain ⟨r, τ, υ, c1, c2, c3⟩ := q_feed hJ (xs (6 * i + 1)) (xs (6 * i + 2)) (xs (6 * i + 3)) (xs (6 * i + 4)) (xs (6 * i + 5))
    have c2 : fX12_feed τ (xs (6 * i + 1)) (xs (6 * i + 2)) (xs (6 * i + 3)) (xs (6 * i + 4)) (xs (6 * i + 5)) = some (r, υ) := c2
    refine ⟨υ, c3, ?_⟩
    simp only [e1, e2, e3, e4, e5, bnd, c1, c2, i_eq, ↓reduceIte, fL_law_300_J1543, e6]
  rw [if_neg h0]
  by_cases h1 : w = 1
  · rw [if_pos h1]
    obtain ⟨r, τ, υ, c1, c2, c3⟩ := q_end hJ (xs (6 * i + 1))
    have c2 : fX12_end τ (xs (6 * i + 1)) = some (r, υ) := c2
    refine ⟨υ, c3, ?_⟩
    simp only [e1, bnd, c1, c2, i_eq, ↓reduceIte, fL_law_300_J1543, e6]
  rw [if_neg h1]
  by_cases h2 : w = 2
  · rw [if_pos h2]
    obtain ⟨r, τ, υ, c1, c2, c3⟩ := q_fault hJ (xs (6 * i + 1))
    have c2 : fX12_fault τ (xs (6 * i + 1)) = some (r, υ) := c2
    refine ⟨υ, c3, ?_⟩
    simp only [e1, bnd, c1, c2, i_eq, ↓reduceIte, fL_law_300_J1543, e6]
  rw [if_neg h2]
  by_cases h3 : w = 3
  · rw [if_pos h3]
    obtain ⟨r, τ, υ, c1, c2, c3⟩ := q_text hi hJ (xs (6 * i + 1))
    have c2 : fX12_text τ (xs (6 * i + 1)) = some (r, υ) := c2
    refine ⟨υ, c3, ?_⟩
    simp only [e1, bnd, c1, c2, i_eq, ↓reduceIte, fL_law_300_J1543, e6]
  rw [if_neg h3]
  by_cases h4 : w = 4
  · rw [if_pos h4]
    obtain ⟨r, v, τ, υ, c1, c2, c3, c4, c5⟩ := q_speech hJ (xs (6 * i + 1)) (xs (6 * i + 2))
    refine ⟨υ, c5, ?_⟩
    have c6 : fX12_thrown υ = some r := by rw [← c3]; rfl
    simp only [e1, e2, bnd, c1, c2, c6, i_eq, ↓reduceIte, fL_law_300_J1543, e6]
    by_cases hr : r = 0
    · have c7 : rd (zB υ 88) 1 (nI 0) = some (Int32.toInt64 v) := by rw [rd_nI (by omega) (by omega), c4 hr]
      rw [if_pos hr, l0, c7, bnd, if_pos (of_eq_true (lgr _))]
    · rw [if_neg hr]
  rw [if_neg h4]
  by_cases h5 : w = 5
  · rw [if_pos h5]
    obtain ⟨r, υ, c1, c2, c3⟩ := q_many hJ (xs (6 * i + 1))
    have c2 : fX12_many σ (xs (6 * i + 1)) = some (r, υ) := c2
    refine ⟨υ, c3, ?_⟩
    simp only [e1, bnd, c1, c2, i_eq, ↓reduceIte, fL_law_300_J1543, e6]
  rw [if_neg h5]
  by_cases h6 : w = 6
  · rw [if_pos h6]
    obtain ⟨r, υ, c1, c2, c3⟩ := q_ends hJ (xs (6 * i + 1)) (xs (6 * i + 2))
    have c2 : fX12_ends σ (xs (6 * i + 1)) (xs (6 * i + 2)) = some (r, υ) := c2
    refine ⟨υ, c3, ?_⟩
    simp only [e1, e2, bnd, c1, c2, i_eq, ↓reduceIte, fL_law_300_J1543, e6]
  rw [if_neg h6]
  by_cases h7 : w = 7
  · rw [if_pos h7]
    obtain ⟨r, τ, υ, c1, c2, c3⟩ := q_far hJ (xs (6 * i + 1)) (xs (6 * i + 2))
    have c2 : fX12_far τ (xs (6 * i + 1)) (xs (6 * i + 2)) = some (r, υ) := c2
    refine ⟨υ, c3, ?_⟩
    simp only [e1, e2, bnd, c1, c2, i_eq, ↓reduceIte, fL_law_300_J1543, e6]
  rw [if_neg h7]
  by_cases h8 : w = 8
  · rw [if_pos h8]
    obtain ⟨r, τ, υ, c1, c2, c3⟩ := q_limit hJ (xs (6 * i + 1))
    have c2 : fX12_limit τ (xs (6 * i + 1)) = some (r, υ) := c2
    refine ⟨υ, c3, ?_⟩
    simp only [e1, bnd, c1, c2, i_eq, ↓reduceIte, fL_law_300_J1543, e6]
  rw [if_neg h8]
  by_cases h9 : w = 9
  · rw [if_pos h9]
    obtain ⟨r, τ, υ, c1, c2, c3⟩ := q_kind hJ (xs (6 * i + 1)) (xs (6 * i + 2))
    have c2 : fX12_kind τ (xs (6 * i + 1)) (xs (6 * i + 2)) = some (r, υ) := c2
    refine ⟨υ, c3, ?_⟩
    simp only [e1, e2, bnd, c1, c2, i_eq, ↓reduceIte, fL_law_300_J1543, e6]
  rw [if_neg h9]
  by_cases h10 : w = 10
  · rw [if_pos h10]
    obtain ⟨r, τ, υ, c1, c2, c3⟩ := q_kinds hJ (xs (6 * i + 1)) (xs (6 * i + 2))
    have c2 : fX12_kinds τ (xs (6 * i + 1)) (xs (6 * i + 2)) = some (r, υ) := c2
    refine ⟨υ, c3, ?_⟩
    simp only [e1, e2, bnd, c1, c2, i_eq, ↓reduceIte, fL_law_300_J1543, e6]
  rw [if_neg h10]
  by_cases h11 : w = 11
  · rw [if_pos h11]
    obtain ⟨r, τ, υ, c1, c2, c3⟩ := q_nearest hJ (xs (6 * i + 1)) (xs (6 * i + 2))
    have c2 : fX12_nearest τ (xs (6 * i + 1)) (xs (6 * i + 2)) = some (r, υ) := c2
    refine ⟨υ, c3, ?_⟩
    simp only [e1, e2, bnd, c1, c2, i_eq, ↓reduceIte, fL_law_300_J1543, e6]
  rw [if_neg h11]
  by_cases h12 : w = 12
  · rw [if_pos h12]
    obtain ⟨r, τ, υ, c1, c2, c3⟩ := q_least hJ (xs (6 * i + 1))
    have c2 : fX12_least τ (xs (6 * i + 1)) = some (r, υ) := c2
    refine ⟨υ, c3, ?_⟩
    simp only [e1, bnd, c1, c2, i_eq, ↓reduceIte, fL_law_300_J1543, e6]
  rw [if_neg h12]
  by_cases h13 : w = 13
  · rw [if_pos h13]
    obtain ⟨r, τ, υ, c1, c2, c3⟩ := q_orders hJ (xs (6 * i + 1))
    have c2 : fX12_orders τ (xs (6 * i + 1)) = some (r, υ) := c2
    refine ⟨υ, c3, ?_⟩
    simp only [e1, bnd, c1, c2, l0, lgr, ↓reduceIte, fL_law_300_J1543, e6]
  rw [if_neg h13]
  by_cases h14 : w = 14
  · rw [if_pos h14]
    obtain ⟨r, τ, υ, c1, c2, c3⟩ := q_first hJ (xs (6 * i + 1)) (xs (6 * i + 2))
    have c2 : fX12_first τ (xs (6 * i + 1)) (xs (6 * i + 2)) = some (r, υ) := c2
    refine ⟨υ, c3, ?_⟩
    simp only [e1, e2, bnd, c1, c2, i_eq, ↓reduceIte, fL_law_300_J1543, e6]
  rw [if_neg h14]
  by_cases h15 : w = 15
  · rw [if_pos h15]
    obtain ⟨r, τ, υ, c1, c2, c3⟩ := q_sure hJ (xs (6 * i + 1)) (xs (6 * i + 2)) (xs (6 * i + 3))
    have c2 : fX12_sure τ (xs (6 * i + 1)) (xs (6 * i + 2)) (xs (6 * i + 3)) = some (r, υ) := c2
    refine ⟨υ, c3, ?_⟩
    simp only [e1, e2, e3, bnd, c1, c2, i_eq, ↓reduceIte, fL_law_300_J1543, e6]
  rw [if_neg h15]
  by_cases h16 : w = 16
  · rw [if_pos h16]
    obtain ⟨r, τ, υ, c1, c2, c3⟩ := q_length hJ (xs (6 * i + 1))
    have c2 : fX12_length τ (xs (6 * i + 1)) = some (r, υ) := c2
    refine ⟨υ, c3, ?_⟩
    simp only [e1, bnd, c1, c2, i_eq, ↓reduceIte, fL_law_300_J1543, e6]
  rw [if_neg h16]
  by_cases h17 : w = 17
  · rw [if_pos h17]
    obtain ⟨r, τ, υ, c1, c2, c3⟩ := q_one hJ (xs (6 * i + 1))
    have c2 : fX12_one τ (xs (6 * i + 1)) = some (r, υ) := c2
    refine ⟨υ, c3, ?_⟩
    simp only [e1, bnd, c1, c2, i_eq, ↓reduceIte, fL_law_300_J1543, e6]
  rw [if_neg h17]
  by_cases h18 : w = 18
  · rw [if_pos h18]
    obtain ⟨r, υ, c1, c2, c3⟩ := q_settles hJ (xs (6 * i + 1)) (xs (6 * i + 2))
    have c2 : fX12_settles σ (xs (6 * i + 1)) (xs (6 * i + 2)) = some (r, υ) := c2
    refine ⟨υ, c3, ?_⟩
    simp only [e1, e2, bnd, c1, c2, i_eq, ↓reduceIte, fL_law_300_J1543, e6]
  rw [if_neg h18]
  by_cases h19 : w = 19
  · rw [if_pos h19]
    obtain ⟨r, υ, c1, c2, c3⟩ := q_next hJ (xs (6 * i + 1))
    have c2 : fX12_next σ (xs (6 * i + 1)) = some (r, υ) := c2
    refine ⟨υ, c3, ?_⟩
    simp only [e1, bnd, c1, c2, i_eq, ↓reduceIte, fL_law_300_J1543, e6]
  rw [if_neg h19]
  by_cases h20 : w = 20
  · rw [if_pos h20]
    obtain ⟨r, τ, υ, c1, c2, c3⟩ := q_act hJ (xs (6 * i + 1))
    have c2 : fX12_act τ (xs (6 * i + 1)) = some (r, υ) := c2
    refine ⟨υ, c3, ?_⟩
    simp only [e1, bnd, c1, c2, i_eq, ↓reduceIte, fL_law_300_J1543, e6]
  rw [if_neg h20]
  by_cases h21 : w = 21
  · rw [if_pos h21]
    obtain ⟨r, υ, c1, c2, c3⟩ := q_play hJ (xs (6 * i + 1))
    have c2 : fX12_play σ (xs (6 * i + 1)) = some (r, υ) := c2
    refine ⟨υ, c3, ?_⟩
    simp only [e1, bnd, c1, c2, i_eq, ↓reduceIte, fL_law_300_J1543, e6]
  rw [if_neg h21]
  by_cases h22 : w = 22
  · rw [if_pos h22]
    obtain ⟨r, υ, c1, c2, c3⟩ := q_wrong hJ (xs (6 * i + 1))
    have c2 : fX12_wrong σ (xs (6 * i + 1)) = some (r, υ) := c2
    refine ⟨υ, c3, ?_⟩
    simp only [e1, bnd, c1, c2, i_eq, ↓reduceIte, fL_law_300_J1543, e6]
  rw [if_neg h22]
  by_cases h23 : w = 23
  · rw [if_pos h23]
    obtain ⟨r, τ, υ, c1, c2, c3⟩ := q_rehearse hJ (xs (6 * i + 1)) (xs (6 * i + 2))
    have c2 : fX12_rehearse τ (xs (6 * i + 1)) (xs (6 * i + 2)) = some (r, υ) := c2
    refine ⟨υ, c3, ?_⟩
    simp only [e1, e2, bnd, c1, c2, i_eq, ↓reduceIte, fL_law_300_J1543, e6]
  rw [if_neg h23]
  by_cases h24 : w = 24
  · rw [if_pos h24]
    obtain ⟨r, τ, υ, c1, c2, c3⟩ := q_soon hJ (xs (6 * i + 1))
    have c2 : fX12_soon τ (xs (6 * i + 1)) = some (r, υ) := c2
    refine ⟨υ, c3, ?_⟩
    simp only [e1, bnd, c1, c2, i_eq, ↓reduceIte, fL_law_300_J1543, e6]
  rw [if_neg h24]
  by_cases h25 : w = 25
  · rw [if_pos h25]
    obtain ⟨r, υ, c1, c2, c3⟩ := q_inside hJ (xs (6 * i + 1)) (xs (6 * i + 2))
    have c2 : fX12_inside σ (xs (6 * i + 1)) (xs (6 * i + 2)) = some (r, υ) := c2
    refine ⟨υ, c3, ?_⟩
    simp only [e1, e2, bnd, c1, c2, i_eq, ↓reduceIte, fL_law_300_J1543, e6]
  rw [if_neg h25]
  by_cases h26 : w = 26
  · rw [if_pos h26]
    obtain ⟨r, υ, c1, c2, c3⟩ := q_tempted hJ (xs (6 * i + 1))
    have c2 : fX12_tempted σ (xs (6 * i + 1)) = some (r, υ) := c2
    refine ⟨υ, c3, ?_⟩
    simp only [e1, bnd, c1, c2, i_eq, ↓reduceIte, fL_law_300_J1543, e6]
  rw [if_neg h26]
  by_cases h27 : w = 27
  · rw [if_pos h27]
    obtain ⟨r, τ, υ, c1, c2, c3⟩ := q_boys hJ (xs (6 * i + 1))
    have c2 : fX12_boys τ (xs (6 * i + 1)) = some (r, υ) := c2
    refine ⟨υ, c3, ?_⟩
    simp only [e1, bnd, c1, c2, i_eq, ↓reduceIte, fL_law_300_J1543, e6]
  rw [if_neg h27]
  by_cases h28 : w = 28
  · rw [if_pos h28]
    obtain ⟨r, υ, c1, c2, c3⟩ := q_plot hJ (xs (6 * i + 1)) (xs (6 * i + 2))
    have c2 : fX12_plot σ (xs (6 * i + 1)) (xs (6 * i + 2)) = some (r, υ) := c2
    refine ⟨υ, c3, ?_⟩
    simp only [e1, e2, bnd, c1, c2, i_eq, ↓reduceIte, fL_law_300_J1543, e6]
  rw [if_neg h28]
  by_cases h29 : w = 29
  · rw [if_pos h29]
    obtain ⟨r, τ, υ, c1, c2, c3⟩ := q_bars hJ (xs (6 * i + 1)) (xs (6 * i + 2)) (xs (6 * i + 3)) (xs (6 * i + 4))
    have c2 : fX12_bars τ (xs (6 * i + 1)) (xs (6 * i + 2)) (xs (6 * i + 3)) (xs (6 * i + 4)) = some (r, υ) := c2
    refine ⟨υ, c3, ?_⟩
    simp only [e1, e2, e3, e4, bnd, c1, c2, i_eq, ↓reduceIte, fL_law_300_J1543, e6]
  rw [if_neg h29]
  by_cases h30 : w = 30
  · rw [if_pos h30]
    obtain ⟨r, τ, υ, c1, c2, c3⟩ := q_cast hJ (xs (6 * i + 1)) (xs (6 * i + 2)) (xs (6 * i + 3))
    have c2 : fX12_cast τ (xs (6 * i + 1)) (xs (6 * i + 2)) (xs (6 * i + 3)) = some (r, υ) := c2
    refine ⟨υ, c3, ?_⟩
    simp only [e1, e2, e3, bnd, c1, c2, i_eq, ↓reduceIte, fL_law_300_J1543, e6]
  rw [if_neg h30]
  by_cases h31 : w = 31
  · rw [if_pos h31]
    obtain ⟨r, υ, c1, c2, c3⟩ := q_crowd hJ (xs (6 * i + 1)) (xs (6 * i + 2))
    have c2 : fX12_crowd σ (xs (6 * i + 1)) (xs (6 * i + 2)) = some (r, υ) := c2
    refine ⟨υ, c3, ?_⟩
    simp only [e1, e2, bnd, c1, c2, i_eq, ↓reduceIte, fL_law_300_J1543, e6]
  rw [if_neg h31]
  by_cases h32 : w = 32
  · rw [if_pos h32]
    obtain ⟨r, τ, υ, c1, c2, c3⟩ := q_could hJ (xs (6 * i + 1)) (xs (6 * i + 2)) (xs (6 * i + 3)) (xs (6 * i + 4))
    have c2 : fX12_could τ (xs (6 * i + 1)) (xs (6 * i + 2)) (xs (6 * i + 3)) (xs (6 * i + 4)) = some (r, υ) := c2
    refine ⟨υ, c3, ?_⟩
    simp only [e1, e2, e3, e4, bnd, c1, c2, i_eq, ↓reduceIte, fL_law_300_J1543, e6]
  rw [if_neg h32]
  by_cases h33 : w = 33
  · rw [if_pos h33]
    obtain ⟨r, τ, υ, c1, c2, c3⟩ := q_habit hJ (xs (6 * i + 1)) (xs (6 * i + 2))
    have c2 : fX12_habit τ (xs (6 * i + 1)) (xs (6 * i + 2)) = some (r, υ) := c2
    refine ⟨υ, c3, ?_⟩
    simp only [e1, e2, bnd, c1, c2, i_eq, ↓reduceIte, fL_law_300_J1543, e6]
  rw [if_neg h33]
  by_cases h34 : w = 34
  · rw [if_pos h34]
    obtain ⟨r, τ, υ, c1, c2, c3⟩ := q_worth hJ (xs (6 * i + 1)) (xs (6 * i + 2))
    have c2 : fX12_worth τ (xs (6 * i + 1)) (xs (6 * i + 2)) = some (r, υ) := c2
    refine ⟨υ, c3, ?_⟩
    simp only [e1, e2, bnd, c1, c2, i_eq, ↓reduceIte, fL_law_300_J1543, e6]
  rw [if_neg h34]
  by_cases h35 : w = 35
  · rw [if_pos h35]
    obtain ⟨r, τ, υ, c1, c2, c3⟩ := q_likely hJ (xs (6 * i + 1)) (xs (6 * i + 2))
    have c2 : fX12_likely τ (xs (6 * i + 1)) (xs (6 * i + 2)) = some (r, υ) := c2
    refine ⟨υ, c3, ?_⟩
    simp only [e1, e2, bnd, c1, c2, i_eq, ↓reduceIte, fL_law_300_J1543, e6]
  rw [if_neg h35]
  by_cases h36 : w = 36
  · rw [if_pos h36]
    obtain ⟨r, τ, υ, c1, c2, c3⟩ := q_keep hJ 
    have c2 : fX12_keep τ  = some (r, υ) := c2
    refine ⟨υ, c3, ?_⟩
    simp only [bnd, c1, c2, i_eq, ↓reduceIte, fL_law_300_J1543, e6]
  rw [if_neg h36]
  by_cases h37 : w = 37
  · rw [if_pos h37]
    obtain ⟨r, τ, υ, c1, c2, c3⟩ := q_back hi hJ 
    have c2 : fX12_back τ  = some (r, υ) := c2
    refine ⟨υ, c3, ?_⟩
    simp only [bnd, c1, c2, i_eq, ↓reduceIte, fL_law_300_J1543, e6]
  rw [if_neg h37]
  by_cases h38 : w = 38
  · rw [if_pos h38]
    obtain ⟨r, υ, c1, c2, c3⟩ := q_count hJ (xs (6 * i + 1))
    have c2 : fX12_count σ (xs (6 * i + 1)) = some (r, υ) := c2
    refine ⟨υ, c3, ?_⟩
    simp only [e1, bnd, c1, c2, i_eq, ↓reduceIte, fL_law_300_J1543, e6]
  rw [if_neg h38]
  refine ⟨σ, hJ.se (SE.rf σ), ?_⟩
  unfold fL_law_300_J1543
  rw [e6]
