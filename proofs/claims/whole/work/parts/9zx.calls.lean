/-! every call, under what holds between two calls -/
theorem q_feed {i : Nat} {σ : St} (k : JV i σ) (a b c d e : Int32) : Q2 i (fX11_feed σ a b c d e) (fun τ => fX12_feed τ a b c d e) := by
  obtain ⟨g, p, lim, nh, kr, kp, bs, pl, hb, ch, ⟨k1, k2, k3, k4, k5, k6, k7⟩, ⟨m1, m2, m3, m4, m5⟩, hd⟩ := id k
  rcases t_feed k3 a b c d e with ⟨υ, h1, h2, h3⟩ | ⟨r, τ, f, f', cs, h1, h2, h3⟩
  · exact ⟨_, _, υ, h1, h2, k.se h3⟩
  · exact ⟨r, τ, _, h1, h2, g, p, lim, nh, kr, kp, cs, pl, hb, ch, ⟨k1, k2, h3, k4, k5, k6, k7⟩, J1.more ⟨m1, m2, m3, m4, m5⟩, by omega⟩
theorem q_end {i : Nat} {σ : St} (k : JV i σ) (a : Int32) : Q2 i (fX11_end σ a) (fun τ => fX12_end τ a) := by
  obtain ⟨g, p, lim, nh, kr, kp, bs, pl, hb, ch, ⟨k1, k2, k3, k4, k5, k6, k7⟩, ⟨m1, m2, m3, m4, m5⟩, hd⟩ := id k
  rcases t_end k3 a with ⟨υ, h1, h2, h3⟩ | ⟨n, τ, hn, h1, h2⟩
  · exact ⟨_, _, υ, h1, h2, k.se h3⟩
  · exact ⟨_, τ, _, h1, h2, g, p, lim, nh, kr, kp, bs.take n, pl, hb, ch, ⟨k1, k2, TP_take k3 hn, k4, k5, k6, k7⟩, J1.more ⟨m1, m2, m3, m4, m5⟩, by omega⟩
theorem q_fault {i : Nat} {σ : St} (k : JV i σ) (a : Int32) : Q2 i (fX11_fault σ a) (fun τ => fX12_fault τ a) := by
  obtain ⟨g, p, lim, nh, kr, kp, bs, pl, hb, ch, ⟨k1, k2, k3, k4, k5, k6, k7⟩, ⟨m1, m2, m3, m4, m5⟩, hd⟩ := id k
  by_cases h0 : a = nI 0
  · subst h0
    obtain ⟨τ, υ, h1, h2, h3, h4⟩ := t_fault_r k3
    exact ⟨_, τ, υ, h1, h3, k.sf ((SF.of h2).tr h4)⟩
  by_cases h1 : a = nI 1
  · subst h1
    obtain ⟨τ, υ, h1, h2, h3, h4⟩ := t_fault_p k3
    exact ⟨_, τ, υ, h1, h3, k.sf ((SF.of h2).tr h4)⟩
  by_cases h2 : a = nI 2
  · subst h2
    obtain ⟨τ, υ, n, v, f, l, w, _, _, _, _, _, _, hc, hsf, _, _, _, hm, hse⟩ := t_fault_h k3 m1 m2
    refine ⟨_, τ, υ, ?_, hm, k.sf (hsf.tr (SF.of hse))⟩
    unfold fX11_fault
    simp (disch := omega) only [l0, l1, l2, l3, l4, l5, l6, l7, l8, l9, l10, l11, l12, l16, l18, l19, l20, l21, l24, l96, l128, l100, l144, l200, l256, l288, l1536, l1728, l1800, bnd, nI_add, pk_mul, pI_sub, pI_m1, pT_le, pF_le, pT_lt, pF_lt, pT_eq, pF_eq, pF_m1, mF_eq, mT_eq, mT_lt, mF_le, lm1, rd_nI, wr_nI, cl_nI, pk_us, un_ne, pk_uLs, uL_ne, zI_uI, zI_uJ, zI_uA, zI_uB, zI_uR, zI_uN, zJ_uI, zJ_uJ, zJ_uA, zJ_uB, zJ_uR, zJ_uN, zA_uI, zA_uJ, zA_uA, zA_uB, zA_uR, zA_uN, zB_uI, zB_uJ, zB_uA, zB_uB, zB_uR, zB_uN, zR_uI, zR_uJ, zR_uA, zR_uB, zR_uR, zR_uN, zN_uI, zN_uJ, zN_uA, zN_uB, zN_uR, zN_uN, zI_ne, zJ_ne, zA_ne, zB_ne, zR_ne, zN_ne, bi_T, bi_F, nz16, ↓reduceIte, not_true_eq_false, not_false_eq_true, Bool.false_eq_true, reduceCtorEq]
    rw [hc, bnd]
  obtain ⟨r, υ, c1, c2, c3⟩ := t_fault_o h0 h1 h2 (σ := σ)
  exact ⟨r, σ, υ, c1, c2, k.se c3⟩
theorem q_text {i : Nat} {σ : St} (hi : i ≤ 600) (k : JV i σ) (a : Int32) : Q2 i (fX11_text σ a) (fun τ => fX12_text τ a) := by
  obtain ⟨g, p, lim, nh, kr, kp, bs, pl, hb, ch, ⟨k1, k2, k3, k4, k5, k6, k7⟩, ⟨m1, m2, m3, m4, m5⟩, hd⟩ := id k
  by_cases h0 : a = nI 0
  · subst h0
    rcases t_text_r k1 k3 k5 m4 (by omega) with ⟨τ, υ, c1, c2, c3, c4⟩ | ⟨r, τ, υ, gi, c1, c2, c3, c4, c5, c6, c7, c8⟩
    · exact ⟨_, τ, υ, c1, c3, k.sf ((SF.of c2).tr c4)⟩
    · exact ⟨r, τ, υ, c1, c2, gadd g gi, p, lim, nh, kr, kp, [], pl, hb, ch + 1, ⟨c5, k2.sg c3, c6, k4.sg c3, c7, k6.sg c3, k7.sg k5.1 c3⟩, J1.more ⟨c3.2.2.2.2.2.2.2 m1, m2.sg c3, c3.2.2.2.2.1 m3, c8, m5.sg c3⟩, by omega⟩
  by_cases h1 : a = nI 1
  · subst h1
    rcases t_text_p k2 k3 with ⟨τ, υ, c1, c2, c3, c4⟩ | ⟨r, τ, υ, l, c1, c2, c3, c4, c5⟩
    · exact ⟨_, τ, υ, c1, c3, k.sf ((SF.of c2).tr c4)⟩
    · exact ⟨r, τ, υ, c1, c2, g, hadd p l, lim, nh, kr, kp, [], pl, hb, ch, ⟨k1.sgp c3, c4, c5, k4.sgp c3, k5.sgp c3, k6.sgp c3, k7.sgp k5.1 c3⟩, J1.more ⟨c3.2.2.2.2.2.2.2.2.2.2.2.2 m1, m2.sgp c3, c3.2.2.2.2.1 m3, m4.sgp c3, m5.sgp c3⟩, by omega⟩
  by_cases h2 : a = nI 2
  · subst h2
    rcases t_text_h k5 k3 m1 m2 k7 with ⟨τ, υ, c1, c2, c3, c4⟩ | ⟨r, τ, υ, c1, c2, c3, c4, c5, c6, c7⟩
    · exact ⟨_, τ, υ, c1, c3, k.sf (c2.tr c4)⟩
    · exact ⟨r, τ, υ, c1, c2, g, p, lim, nh + 1, kr, kp, [], pl, _, ch, ⟨k1.sgh c4, k2.sgh c4, c5, k4.sgh c4, c6, k6.sgh c4, c7⟩, J1.more ⟨c4.2.2.2.2.2.2.2.2.2.2.2.2.2.2 m1, m2.sgh c4, c4.2.2.2.2.1 m3, m4.sgh c4, m5.sgh c4⟩, by omega⟩
  obtain ⟨r, υ, c1, c2, c3⟩ := t_text_o h0 h1 h2 (σ := σ)
  exact ⟨r, σ, υ, c1, c2, k.se c3⟩
theorem q_limit {i : Nat} {σ : St} (k : JV i σ) (a : Int32) : Q2 i (fX11_limit σ a) (fun τ => fX12_limit τ a) := by
  obtain ⟨g, p, lim, nh, kr, kp, bs, pl, hb, ch, ⟨k1, k2, k3, k4, k5, k6, k7⟩, ⟨m1, m2, m3, m4, m5⟩, hd⟩ := id k
  rcases t_limit σ a with ⟨υ, h1, h2, h3⟩ | ⟨v, τ, hv, h1, h2⟩
  · exact ⟨_, _, υ, h1, h2, k.se h3⟩
  · exact ⟨_, τ, _, h1, h2, g, p, v, nh, kr, kp, bs, pl, hb, ch, ⟨⟨k1.1, k1.2.1, k1.2.2.1, hv, rfl, rfl⟩, k2, k3, k4, k5, k6, k7⟩, J1.more ⟨m1, m2, m3, m4, m5⟩, by omega⟩
theorem q_boys {i : Nat} {σ : St} (k : JV i σ) (a : Int32) : Q2 i (fX11_boys σ a) (fun τ => fX12_boys τ a) := by
  obtain ⟨g, p, lim, nh, kr, kp, bs, pl, hb, ch, ⟨k1, k2, k3, k4, k5, k6, k7⟩, ⟨m1, m2, m3, m4, m5⟩, hd⟩ := id k
  rcases t_boys σ a with ⟨υ, h1, h2, h3⟩ | ⟨v, τ, hv, h1, h2⟩
  · exact ⟨_, _, υ, h1, h2, k.se h3⟩
  · obtain ⟨n1, n2, n3, n4, n5, n6, n7⟩ := k2
    exact ⟨_, τ, _, h1, h2, g, (p.1, p.2.1, p.2.2.1, v), lim, nh, kr, kp, bs, pl, hb, ch, ⟨k1, ⟨n1, n2, n3, n4, hv, rfl, rfl⟩, k3, k4, k5, k6, k7⟩, J1.more ⟨m1, m2, m3, m4, m5⟩, by omega⟩
theorem q_habit {i : Nat} {σ : St} (k : JV i σ) (a b : Int32) : Q2 i (fX11_habit σ a b) (fun τ => fX12_habit τ a b) := by
  obtain ⟨g, p, lim, nh, kr, kp, bs, pl, hb, ch, ⟨k1, k2, k3, k4, k5, k6, k7⟩, ⟨m1, m2, m3, m4, m5⟩, hd⟩ := id k
  rcases t_habit k1 k5 a b with ⟨υ, h1, h2, h3⟩ | ⟨r, τ, hr, hx, h1, h2⟩
  · exact ⟨_, _, υ, h1, h2, k.se h3⟩
  · exact ⟨_, τ, _, h1, h2, g, p, lim, nh, kr, kp, bs, pl, hb, ch, ⟨k1, k2, k3, k4, HI_hab k5 hx, k6, k7⟩, J1.more ⟨m1, m2, m3, m4, m5⟩, by omega⟩
theorem q_act {i : Nat} {σ : St} (k : JV i σ) (a : Int32) : Q2 i (fX11_act σ a) (fun τ => fX12_act τ a) := by
  obtain ⟨g, p, lim, nh, kr, kp, bs, pl, hb, ch, ⟨k1, k2, k3, k4, k5, k6, k7⟩, ⟨m1, m2, m3, m4, m5⟩, hd⟩ := id k
  rcases t_act k1 k4 a with ⟨r, υ, h1, h2, h3⟩ | ⟨r, τ, hr, hc, h1, h2⟩
  · exact ⟨_, _, υ, h1, h2, k.se h3⟩
  · refine ⟨_, τ, _, h1, h2, g, p, lim, nh, kr, kp, bs, pl ++ [16 * r + cR pl r], hb, ch, ⟨k1, k2, k3, PI_act k1.1 k4 hr hc, k5, ?_, k7⟩, J1.more ⟨m1, m2, m3, m4, m5⟩, by omega⟩
    obtain ⟨n1, n2, n3, n4, n5, n6, n7⟩ := k6
    refine ⟨n1, n2, n3, n4, n5, ?_, fun j hj => ?_⟩
    · rw [List.length_append]
      omega
    · rw [getD_app (by omega)]
      exact n7 j hj
theorem q_keep {i : Nat} {σ : St} (k : JV i σ) : Q2 i (fX11_keep σ) (fun τ => fX12_keep τ) := by
  obtain ⟨g, p, lim, nh, kr, kp, bs, pl, hb, ch, ⟨k1, k2, k3, k4, k5, k6, k7⟩, ⟨m1, m2, m3, m4, m5⟩, hd⟩ := id k
  obtain ⟨r, τ, h1, h2⟩ := t_keep k1.1 k1.2.1 k1.2.2.1 k4
  refine ⟨r, τ, _, h1, h2, g, p, lim, nh, gN g, pl.length, bs, pl, hb, ch, ⟨k1, k2, k3, k4, k5, ⟨rfl, rfl, rfl, rfl, Nat.le_refl _, Nat.le_refl _, fun j hj => ?_⟩, k7⟩, J1.more ⟨m1, m2, m3, m4, m5⟩, by omega⟩
  exact (vd_iff.mp (k4.2.2.2.1 _ (getD_mem hj))).1
theorem q_length {i : Nat} {σ : St} (k : JV i σ) (a : Int32) : Q2 i (fX11_length σ a) (fun τ => fX12_length τ a) := by
  obtain ⟨g, p, lim, nh, kr, kp, bs, pl, hb, ch, ⟨k1, k2, k3, k4, k5, k6, k7⟩, ⟨m1, m2, m3, m4, m5⟩, hd⟩ := id k
  obtain ⟨r, τ, υ, f, h1, h2, h3⟩ := t_length k1 a
  have kk : JV i (uA σ 33 f) := ⟨g, p, lim, nh, kr, kp, bs, pl, hb, ch, ⟨k1, k2, k3, k4, k5, k6, k7⟩, ⟨m1, m2, m3, m4, m5⟩, hd⟩
  exact ⟨r, τ, υ, h1, h2, kk.se h3⟩
theorem q_least {i : Nat} {σ : St} (k : JV i σ) (a : Int32) : Q2 i (fX11_least σ a) (fun τ => fX12_least τ a) := by
  obtain ⟨g, p, lim, nh, kr, kp, bs, pl, hb, ch, j0, j1, hd⟩ := k
  exact Q2.of3 j0 j1 hd (t_least j0.1 j1.2.2.1 j1.2.2.2.2 j1.2.2.2.1 a)
theorem q_orders {i : Nat} {σ : St} (k : JV i σ) (a : Int32) : Q2 i (fX11_orders σ a) (fun τ => fX12_orders τ a) := by
  obtain ⟨g, p, lim, nh, kr, kp, bs, pl, hb, ch, j0, j1, hd⟩ := k
  exact Q2.of3 j0 j1 hd (t_orders j0.1 j1.2.2.1 j1.2.2.2.2 j1.2.2.2.1 a)
theorem q_first {i : Nat} {σ : St} (k : JV i σ) (a b : Int32) : Q2 i (fX11_first σ a b) (fun τ => fX12_first τ a b) := by
  obtain ⟨g, p, lim, nh, kr, kp, bs, pl, hb, ch, j0, j1, hd⟩ := k
  exact Q2.of3 j0 j1 hd (t_first j0.1 j1.2.2.1 j1.2.2.2.2 j1.2.2.2.1 a b)
theorem q_sure {i : Nat} {σ : St} (k : JV i σ) (a b c : Int32) : Q2 i (fX11_sure σ a b c) (fun τ => fX12_sure τ a b c) := by
  obtain ⟨g, p, lim, nh, kr, kp, bs, pl, hb, ch, j0, j1, hd⟩ := k
  exact Q2.of3 j0 j1 hd (t_sure j0.1 j1.2.2.1 j1.2.2.2.2 j1.2.2.2.1 a b c)
theorem q_worth {i : Nat} {σ : St} (k : JV i σ) (a b : Int32) : Q2 i (fX11_worth σ a b) (fun τ => fX12_worth τ a b) := by
  obtain ⟨g, p, lim, nh, kr, kp, bs, pl, hb, ch, ⟨k1, k2, k3, k4, k5, k6, k7⟩, ⟨m1, m2, m3, m4, m5⟩, hd⟩ := id k
  obtain ⟨r, τ, υ, h1, h2, h3, h4, h5⟩ := t_worth k1 k5 k7 m1 m2 a b
  exact ⟨r, τ, υ, h1, h2, k.sv (h3.tr (SV.of h5)) (h4.se h5)⟩
theorem q_likely {i : Nat} {σ : St} (k : JV i σ) (a b : Int32) : Q2 i (fX11_likely σ a b) (fun τ => fX12_likely τ a b) := by
  obtain ⟨g, p, lim, nh, kr, kp, bs, pl, hb, ch, ⟨k1, k2, k3, k4, k5, k6, k7⟩, ⟨m1, m2, m3, m4, m5⟩, hd⟩ := id k
  obtain ⟨r, τ, υ, h1, h2, h3, h4, h5⟩ := t_likely k1 k5 k7 m1 m2 a b
  exact ⟨r, τ, υ, h1, h2, k.sv (h3.tr (SV.of h5)) (h4.se h5)⟩
theorem q_speech {i : Nat} {σ : St} (k : JV i σ) (a b : Int32) : ∃ e v τ υ, fL_speech_88 σ a b = some (e, τ) ∧ fX12_speech τ a b = some (v, υ) ∧ zI υ 30 = e ∧ (e = 0 → zB υ 88 0 = Int32.toInt64 v) ∧ JV (i + 1) υ := by
  obtain ⟨g, p, lim, nh, kr, kp, bs, pl, hb, ch, ⟨k1, k2, k3, k4, k5, k6, k7⟩, ⟨m1, m2, m3, m4, m5⟩, hd⟩ := id k
  rcases t_speech k1 a b with ⟨v, f, υ, hv, h1, h2, h3, h4, h5, h6⟩ | ⟨υ, h1, h2, h3⟩
  · refine ⟨nI 0, nI v, _, υ, h1, h3, h5, fun _ => ?_, k.se h4⟩
    rw [h6, h2, nI_l (by omega)]
  · refine ⟨nI 1, nI 0, _, υ, h1, h2, by rw [h3]; rfl, fun x => absurd x (by decide), g, p, lim, nh, kr, kp, bs, pl, hb, ch, ?_, ?_, by omega⟩
    · rw [h3]
      exact ⟨k1, k2, k3, k4, k5, k6, k7⟩
    · rw [h3]
      refine ⟨m1, m2, m3, m4, ?_⟩
      obtain ⟨a1, a2, a3, a4⟩ := m5
      have e0 : zN (uI (uN (uN σ 0 (zN σ 0 + 1)) 1 (zN σ 1 + 6)) 30 (nI 1)) 0 = zN σ 0 + 1 := rfl
      have e1 : zN (uI (uN (uN σ 0 (zN σ 0 + 1)) 1 (zN σ 1 + 6)) 30 (nI 1)) 1 = zN σ 1 + 6 := rfl
      have e45 : zN (uI (uN (uN σ 0 (zN σ 0 + 1)) 1 (zN σ 1 + 6)) 30 (nI 1)) 45 = zN σ 45 := rfl
      have e46 : zN (uI (uN (uN σ 0 (zN σ 0 + 1)) 1 (zN σ 1 + 6)) 30 (nI 1)) 46 = zN σ 46 := rfl
      unfold AC
      rw [e0, e1, e45, e46]
      exact ⟨a1, a2, by omega, by omega⟩
theorem q_back {i : Nat} {σ : St} (hi : i ≤ 600) (k : JV i σ) : Q2 i (fX11_back σ) (fun τ => fX12_back τ) := by
  obtain ⟨g, p, lim, nh, kr, kp, bs, pl, hb, ch, ⟨k1, k2, k3, k4, k5, k6, k7⟩, ⟨m1, m2, m3, m4, m5⟩, hd⟩ := k
  obtain ⟨n1, n2, n3, n4, n5, n6, n7⟩ := id k6
  have hg := k1.1
  have hpl := pl_le hg k4.2.2.2.1 k4.2.2.2.2
  obtain ⟨c1, c26, c18, c17⟩ := c_back hg k1.2.1 k4 k6
  have eA : zA (backC σ g kr kp) = zA σ := by
    unfold backC
    split <;> split <;> rfl
  have eB : zB (backC σ g kr kp) = zB σ := by
    unfold backC
    split <;> split <;> rfl
  have eN : zN (backC σ g kr kp) = zN σ := by
    unfold backC
    split <;> split <;> rfl
  have eR : zR (backC σ g kr kp) = zR σ := by
    unfold backC
    split <;> split <;> rfl
  have eI : ∀ j, j ∉ [17, 18, 19, 26] → zI (backC σ g kr kp) j = zI σ j := by
    have hf : FR [] [] [17, 18, 19, 26] [] σ (backC σ g kr kp) := by
      unfold backC
      split
      · split
        · exact FR.uI (FR.uI (FR.uI (FR.uI (FR.rf _ _ _ _ _) (by decide)) (by decide)) (by decide)) (by decide)
        · exact FR.uI (FR.uI (FR.uI (FR.rf _ _ _ _ _) (by decide)) (by decide)) (by decide)
      · split
        · exact FR.uI (FR.rf _ _ _ _ _) (by decide)
        · exact FR.rf _ _ _ _ _
    exact hf.2.2.1
  have hm := m_back (τ := backC σ g kr kp) hg ((eI 32 (by decide)).trans k1.2.2.1.1) ((eI 48 (by decide)).trans k4.2.1) ((eI 51 (by decide)).trans n2) ((eI 52 (by decide)).trans n4) (fun s hs => vd_lt hg (k4.2.2.2.1 s hs)) (fun j hj => by rw [eA]; exact (k4.2.2.1 j hj).2) n7 n5 n6 hpl.1
  refine ⟨_, _, _, c1, hm, ?_⟩
  obtain ⟨υ, hυ⟩ : ∃ υ, υ = backM (backC σ g kr kp) kr kp := ⟨_, rfl⟩
  have fA : zA υ = zA σ := by rw [hυ]; exact eA
  have fB : zB υ = zB σ := by rw [hυ]; exact eB
  have fN : zN υ = zN σ := by rw [hυ]; exact eN
  have fR : zR υ = zR σ := by rw [hυ]; exact eR
  have fI : ∀ j, j ∉ [17, 18, 19, 26, 30, 32, 48] → zI υ j = zI σ j := by
    intro j hj
    simp only [List.mem_cons, List.not_mem_nil, or_false] at hj
    rw [hυ]
    unfold backM
    rw [zI_ne (show j ≠ 48 by omega), zI_ne (show j ≠ 32 by omega), zI_ne (show j ≠ 30 by omega)]
    refine eI j (fun x => ?_)
    simp only [List.mem_cons, List.not_mem_nil, or_false] at x
    omega
  have f26 : zI υ 26 = nI kp := by rw [hυ]; exact c26
  have f18 : zI υ 18 = nI kr := by rw [hυ]; exact c18
  have f17 : zI υ 17 = nI (fb_sm (gS g) kr) := by rw [hυ]; exact c17
  have f32 : zI υ 32 = nI kr := by rw [hυ]; rfl
  have f48 : zI υ 48 = nI kp := by rw [hυ]; rfl
  rw [← hυ]
  have a1 : RI υ (gcut g kr) lim := by
    refine ⟨gcut_ok hg n5, JC_cut hg k1.2.1 n5 f18 f17 fA fB, ⟨f32, fun r hr => ?_, fun s hs => ?_⟩, k1.2.2.2.1, (fI 20 (by decide)).trans k1.2.2.2.2.1, (fI 45 (by decide)).trans k1.2.2.2.2.2⟩
    · rw [fA]
      exact k1.2.2.1.2.1 r (Nat.lt_of_lt_of_le hr n5)
    · rw [gcut_vd n5, Bool.and_eq_true] at hs
      have h := k1.2.2.1.2.2 s hs.1
      unfold wAt at h ⊢
      rw [fA]
      exact h
  have a2 : TI υ p := by
    unfold TI
    rw [fI 28 (by decide), fI 33 (by decide), fI 29 (by decide), fI 50 (by decide), fA]
    exact k2
  have a3 : TP υ bs := by
    unfold TP
    rw [fI 2 (by decide), fI 31 (by decide), fA]
    exact k3
  have a4 : PI υ (gcut g kr) (pl.take kp) := PI_cut hg k4 n5 n6 n7 f26 f48 (by rw [fA]) (by rw [fA])
  have a5 : HI υ (gcut g kr) nh := by
    refine ⟨k5.1, (fI 11 (by decide)).trans k5.2.1, (fI 34 (by decide)).trans k5.2.2.1, fun r hr => ?_⟩
    rw [fA]
    exact k5.2.2.2 r (Nat.lt_of_lt_of_le hr n5)
  have a6 : KI υ (gcut g kr) (pl.take kp) kr kp := by
    refine ⟨(fI 0 (by decide)).trans n1, (fI 51 (by decide)).trans n2, (fI 1 (by decide)).trans n3, (fI 52 (by decide)).trans n4, Nat.le_refl _, by rw [List.length_take]; omega, fun j hj => ?_⟩
    rw [getD_take hj]
    exact n7 j hj
  have a7 : HX υ nh hb := k7.fr k5.1 (fun q _ => by rw [fB]) (by rw [fA]) (by rw [fA])
  have b1 : P22 υ := by
    unfold P22
    rw [fA]
    exact m1
  have b2 : E15 υ := by
    unfold E15
    rw [fI 12 (by decide), fI 13 (by decide), fI 14 (by decide), fI 15 (by decide)]
    exact m2
  have b3 : rOk υ := by
    unfold rOk
    rw [fR]
    exact m3
  have b5 : AC υ (89 + 3 * i) (733829 + 6 * i) := by
    unfold AC
    rw [fN]
    exact m5
  by_cases hlt : kr < gN g
  · have f19 : zI υ 19 = nI (ch + 1) := by
      have e : zI (backC σ g kr kp) 19 = zI σ 19 + 1 := by
        unfold backC
        rw [if_pos hlt]
        split <;> rfl
      have e2 : zI υ 19 = zI (backC σ g kr kp) 19 := by rw [hυ]; rfl
      rw [e2, e, m4.1]
      exact nI_add ch 1
    obtain ⟨q1, q2, j, q3, q4, q5⟩ := m4
    exact ⟨gcut g kr, p, lim, nh, kr, kp, bs, pl.take kp, hb, ch + 1, ⟨a1, a2, a3, a4, a5, a6, a7⟩, J1.more ⟨b1, b2, b3, ⟨f19, by omega, j, by omega, (fI 24 (by decide)).trans q4, fun x => by omega⟩, b5⟩, by omega⟩
  · have hk : kr = gN g := by omega
    have eg1 : gcut g kr = g := by rw [hk]; rfl
    have b4 : CH υ g ch := by
      rw [hυ]
      unfold backC
      rw [if_neg hlt]
      split
      · exact m4
      · exact m4
    rw [eg1] at a1 a4 a5 a6
    exact ⟨g, p, lim, nh, kr, kp, bs, pl.take kp, hb, ch, ⟨a1, a2, a3, a4, a5, a6, a7⟩, J1.more ⟨b1, b2, b3, b4, b5⟩, by omega⟩
