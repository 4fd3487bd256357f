/-! the model reads a habit: clauses, the whole *-/
def HC2 (σ υ : St) : Prop := FR [] [] [37, 38, 39, 41, 42] [] σ υ
theorem HC2.tr {σ τ υ : St} (h : HC2 σ τ) (k : HC2 τ υ) : HC2 σ υ := FR.tr h k
theorem HC2.of {σ τ : St} (h : HM σ τ) : HC2 σ τ := FR.mono h (by decide) (by decide) (by decide) (by decide)
theorem EM.fc {σ υ : St} {e : En} (h : EM σ e) (f : HC2 σ υ) : EM υ e := by
  unfold EM
  rw [f.1 59 (by decide)]
  exact h
def RX (q b0 : Nat) (bs : List Nat) (e : En) (σ0 : St) (h : Bool) (w : Int) (υ : St) (r : Bool × (Int × Sx)) : Prop := (MG υ q b0 bs r.2.2 ∧ zI υ 39 = nI 0 ∧ (EM σ0 e → zI υ 42 = bi (h || r.1) ∧ zI υ 41 = iI (if (r.1 && !h) = true then r.2.1 else w))) ∨ MB υ r.2.2
theorem ln200 : fJ0_length_8abf5_200 = some (nI 1) := by decide
theorem ch200 : fJ0_charAt_5068e_200 (nI 0) = some (nI 121) := by decide
theorem am200 (x : Int32) : fX12_isAmong_200 x = some (decide (x = nI 121)) := by
  have key := it_for (β := Unit) (body := fun (kb : Int32 → Option Bool) (t : Int32) => fX12_isAmong_200_L2 x (fun v2 => kb v2) t) 1 (by omega) (fun k _ => nI k) (fun k _ => k = 1 → x ≠ nI 121) (fun _ _ z => z = some (decide (x = nI 121))) ?_ 0 () (Nat.zero_le _) (fun h => by cases h)
  · exact key
  · intro k _ hk hno kb hkb
    show fX12_isAmong_200_L2 x (fun v2 => kb v2) (nI k) = _
    unfold fX12_isAmong_200_L2
    rw [ln200, bnd]
    by_cases h5 : k = 1
    · rw [h5, if_pos (by rw [pT_le (Nat.le_refl _) (by decide)]; trivial), decide_eq_false (hno h5)]
    · have hk5 : k = 0 := by omega
      rw [hk5]
      rw [if_neg (by rw [pF_le (by omega) (by omega)]; exact fun h => h), ch200, bnd]
      by_cases e : x = nI 121
      · rw [if_pos e.symm, decide_eq_true e]
      · rw [if_neg (fun h => e h.symm), l1, nI_add]
        rw [hk5] at hkb
        exact hkb () (by decide) (fun _ => e)
theorem sm_flt {e : En} (heb : eB e) {x : Sx} {f : Nat} (hf : flt x f) (k dp : Nat) : flt (smS (atS e (k + 1) dp) x).2 f := by
  have hsg := flt_sg hf
  have he : e 257 = none := by
    cases h : e 257 with
    | none => rfl
    | some v => have := (heb.2 _ _ h).2; omega
  have hat : atS e (k + 1) dp x = (0, slx x) := by
    show atB _ e dp x = _
    unfold atB
    rw [if_neg (fun h => by omega), if_neg (by omega), hsg, he]
  have hs := flt_sl hf
  have ht : tmS (atS e (k + 1) dp) x = (0, slx x) := by
    unfold tmS
    rw [hat, tmL_flt hs]
  unfold smS
  rw [ht, smL_flt hs]
  exact hs
theorem cls_flt {e : En} (heb : eB e) {x : Sx} {f : Nat} (hf : flt (clX x) f) : flt (cls e x).2.2 f := by
  have h1 := flt_sg hf
  have h2 : flt (clV0 e x).2 f := sm_flt heb hf 7 0
  have h3 := flt_sg h2
  unfold cls
  rw [if_neg (by omega), h3, if_neg (by decide)]
  exact h2
theorem nd_T {v : Nat} {x : Sx} (h : tb v x = true) : nd v x = tlx x := by
  cases x with
  | inl p => cases h
  | inr R => exact if_pos (of_decide_eq_true h)
theorem nd_N {v : Nat} {R : List Tk} (h : tb v (.inr R) = false) : nd v (.inr R) = slx (.inr R) := if_neg (of_decide_eq_false h)
theorem m_J134 {q b0 : Nat} {bs : List Nat} {e : En} {σ0 υ : St} {h c : Bool} {w v : Int} {x : Sx} {r : Bool} {t : Int32} (h40 : zI υ 40 = nI 121) (hfd : EM σ0 e → zI υ 42 = bi h ∧ zI υ 41 = iI w) (hm : MSx q b0 bs 0 υ x (EM σ0 e → c = r ∧ t = iI v)) : ∃ ω, fX12_clause_J134 υ (nI 121) (bi c) t = some ω ∧ HC2 υ ω ∧ RX q b0 bs e σ0 h w ω (r, v, x) := by
  unfold fX12_clause_J134
  rw [mI_eq]
  rcases hm with ⟨hG, h39, hv⟩ | hB
  · have h38 := hG.m1
    obtain ⟨p, m1, m2⟩ := hG
    rw [if_pos h38]
    by_cases z : zI υ 42 = 0
    · rw [if_pos z, if_pos h40.symm]
      cases c with
      | false =>
        refine ⟨υ, by rw [if_pos (by decide)], FR.rf _ _ _ _ _, .inl ⟨⟨p, m1, m2⟩, h39, fun hE => ?_⟩⟩
        obtain ⟨e1, e2⟩ := hv hE
        rw [← e1, Bool.or_false]
        exact hfd hE
      | true =>
        refine ⟨uI (uI υ 42 1) 41 t, by rw [if_neg (by decide), bnd, bnd], FR.uI (FR.uI (FR.rf _ _ _ _ _) (by decide)) (by decide), .inl ⟨⟨p, m1.fr (FR.uI (FR.uI (FR.rf [] [] [42, 41] [] _) (by decide)) (by decide)) (fun x => by cases x) (by decide), m2⟩, ?_, fun hE => ?_⟩⟩
        · rw [zI_ne (by decide), zI_ne (by decide)]; exact h39
        · obtain ⟨e1, e2⟩ := hv hE
          obtain ⟨e3, e4⟩ := hfd hE
          have hh : h = false := by
            cases h with
            | false => rfl
            | true => rw [e3] at z; exact absurd z (by decide)
          rw [← e1, hh]
          refine ⟨?_, ?_⟩
          · rw [zI_ne (by decide), zI_uI]; rfl
          · rw [zI_uI, e2]; rfl
    · rw [if_neg z]
      refine ⟨υ, rfl, FR.rf _ _ _ _ _, .inl ⟨⟨p, m1, m2⟩, h39, fun hE => ?_⟩⟩
      obtain ⟨e3, e4⟩ := hfd hE
      have hh : h = true := by
        cases h with
        | false => rw [e3] at z; exact absurd (by decide) z
        | true => rfl
      rw [hh] at e3 ⊢
      rw [Bool.true_or]
      refine ⟨e3, ?_⟩
      rw [if_neg (show ¬ ((r && !true) = true) from by cases r <;> decide)]
      exact e4
  · have h38 := hB.m1
    exact ⟨υ, if_neg h38, FR.rf _ _ _ _ _, .inr hB⟩
theorem m_clause {q b0 N : Nat} {bs : List Nat} {e : En} (hN201 : N ≤ 201) (heb : eB e) (hsm : mOK q b0 bs e N 0 (fun σ => fX12_sum 8 σ) (smD e 0)) (hun : mBK q b0 bs e N 0 (fun σ => fX12_unit 8 σ) (unS e 8 0)) {σ0 σ : St} {x : Sx} {N' : Nat} {h : Bool} {w : Int} (hN : N' ≤ N) (hx : gX N' x) (hF : HC2 σ0 σ) (hG : MG σ q b0 bs x) (h39 : zI σ 39 = nI 0) (h40 : zI σ 40 = nI 121) (hfd : EM σ0 e → zI σ 42 = bi h ∧ zI σ 41 = iI w) : ∃ υ, fX12_clause σ = some υ ∧ HC2 σ υ ∧ RX q b0 bs e σ0 h w υ (cls e x) := by
  obtain ⟨p, y1, a1, a2, a3, a4, a5⟩ := m_lookS hG
  have hF1 : HM σ y1 := HM.of a4 (by decide)
  have c121 := lk_sg (v := 121) a1 a3 (by decide) (by decide)
  rw [← a2] at c121
  have hgu := unS_g heb N 8 0
  -- behind a condition
  have beh : ∀ (z : St) (cc : Bool) (c : Bool × Sx), MSx q b0 bs 0 z c.2 (EM σ0 e → cc = c.1) → gX N' c.2 → HM σ z → ∃ υ, ((fX12_takes z (nI 63)).bind fun r7 => if (bi r7.1) = 0 then (some r7.2) else ((fX12_sum 8 r7.2).bind fun r8 => fX12_clause_J134 r8.2 (nI 121) (bi cc) r8.1)) = some υ ∧ HC2 σ υ ∧ RX q b0 bs e σ0 h w υ (c.1, clV e c) := by
    intro z cc c hm hc hFz
    rcases hm with ⟨hGz, h39z, hcc⟩ | hB
    · rcases m_takesS (v := 63) hGz (by decide) (by decide) with ⟨t1, z1, t2, t3, t4⟩ | ⟨t1, z1, t2, t3, t4⟩
      · have h391 : zI z1 39 = nI 0 := (t4.2.2.1 39 (by decide)).trans h39z
        have g3 := gX_nd (v := 63) hc (by decide)
        have hFt := hFz.tr (HM.of t4 (by decide))
        obtain ⟨v, z2, r1, r2, r3⟩ := hsm z1 (nd 63 c.2) N' hN t3 g3 h391
        have r1 : fX12_sum 8 z1 = some (v, z2) := r1
        have hF2 := hFt.tr r2
        obtain ⟨ω, k1, k2, k3⟩ := m_J134 (q := q) (b0 := b0) (bs := bs) (e := e) (σ0 := σ0) (υ := z2) (h := h) (c := cc) (w := w) (v := (clV e c).1) (x := (clV e c).2) (r := c.1) (t := v) ((hF2.2.2.1 40 (by decide)).trans h40) (by rw [hF2.2.2.1 42 (by decide), hF2.2.2.1 41 (by decide)]; exact hfd) (by
          rcases r3 with ⟨r3, r4, r5⟩ | r3
          · exact .inl ⟨r3, r4, fun hE => ⟨hcc hE, r5 ((hE.fc hF).fr hFt)⟩⟩
          · exact .inr r3)
        refine ⟨ω, ?_, (HC2.of hF2).tr k2, k3⟩
        rw [t2, bnd, if_neg biT0, r1, bnd]
        exact k1
      · obtain ⟨f, f1, f2, f3⟩ := t3
        refine ⟨z1, by rw [t2, bnd, if_pos biF0], HC2.of (hFz.tr t4), .inr ⟨f, sm_flt heb f1 7 0, f2, f3⟩⟩
    · obtain ⟨t1, t2⟩ := m_takesB (c := nI 63) (v := 63) hB (by decide)
      obtain ⟨f, f1, f2, f3⟩ := t2
      exact ⟨z, by rw [t1, bnd, if_pos biF0], HC2.of hFz, .inr ⟨f, sm_flt heb f1 7 0, f2, f3⟩⟩
  unfold fX12_clause
  rw [a5, bnd, am200, bnd, mI_eq]
  by_cases s121 : sg x = 121
  · have hlk := c121.mpr s121
    obtain ⟨n1, n2, n3, n4, n5⟩ := sg_next a1 a3 (by rw [← a2]; omega)
    rw [← a2] at n4
    have h37 := a1.2.2.2.2.1
    have hnd : nd 121 x = tlx x := nd_T (tbs_of (by decide) s121)
    have hG2 : MG (uI y1 37 (nI (p + 1))) q b0 bs (nd 121 x) := ⟨p + 1, n5, by rw [hnd]; exact n4⟩
    have g1 := gX_nd (v := 121) hx (by decide)
    have g2 : gX N' (clX x) := gX_nd (v := 58) g1 (by decide)
    have hF2 : HM σ (uI y1 37 (nI (p + 1))) := hF1.tr (FR.uI (FR.rf _ _ _ _ _) (by decide))
    rw [hlk, decide_eq_true rfl, if_neg biT0, bnd, h37, l1, nI_add, l58, l63, l33, l40]
    rcases m_takesS (v := 58) hG2 (by decide) (by decide) with ⟨t1, z1, t2, t3, t4⟩ | ⟨t1, z1, t2, t3, t4⟩
    · rw [t2, bnd, if_neg biT0]
      have t3 : MG z1 q b0 bs (clX x) := t3
      have hF3 := hF2.tr (HM.of t4 (by decide))
      obtain ⟨p2, y2, b1, b2, b3, b4, b5⟩ := m_lookS t3
      have hF4 := hF3.tr (HM.of b4 (by decide))
      have d33 := lk_sg (v := 33) b1 b3 (by decide) (by decide)
      have d40 := lk_sg (v := 40) b1 b3 (by decide) (by decide)
      rw [← b2] at d33 d40
      have hG3 : MG y2 q b0 bs (clX x) := ⟨p2, b1, b2⟩
      have h392 : zI y2 39 = nI 0 := (hF4.2.2.1 39 |> fun _ => (b4.2.2.1 39 (by decide)).trans ((t4.2.2.1 39 (by decide)).trans ((zI_ne (by decide)).trans ((a4.2.2.1 39 (by decide)).trans h39))))
      rw [b5, bnd]
      unfold cls
      by_cases hop : sg (clX x) = 33 ∨ sg (clX x) = 40
      · rw [if_pos hop]
        obtain ⟨cc, z2, r1, r2, r3⟩ := m_hcS hN201 hun hgu y2 (clX x) N' hN hG3 g2 h392
        have r1 : fX12_condition 8 y2 0 0 = some (cc, z2) := r1
        have hFz := hF4.tr r2
        have g3 := hcS_g hgu N' (clX x) hN g2
        obtain ⟨υ, k1, k2, k3⟩ := beh z2 cc (clC1 e x) (by
          rcases r3 with ⟨r3, r4, r5⟩ | r3
          · exact .inl ⟨r3, r4, fun hE => r5 ((hE.fc hF).fr hF4)⟩
          · exact .inr r3) g3 hFz
        refine ⟨υ, ?_, k2, k3⟩
        rcases hop with hop | hop
        · rw [if_pos (d33.mpr hop), r1, bnd]
          exact k1
        · rw [if_neg (fun h => by have := d33.mp h; omega), if_pos (d40.mpr hop), r1, bnd]
          exact k1
      · rw [if_neg hop, if_neg (fun h => hop (.inl (d33.mp h))), if_neg (fun h => hop (.inr (d40.mp h)))]
        obtain ⟨v, z2, r1, r2, r3⟩ := hsm y2 (clX x) N' hN hG3 g2 h392
        have r1 : fX12_sum 8 y2 = some (v, z2) := r1
        have hFz := hF4.tr r2
        have g3 := smD_g heb 0 N' (clX x) g2
        rw [r1, bnd]
        rcases r3 with ⟨r3, r4, r5⟩ | r3
        · have h38 := r3.m1
          rw [if_pos h38]
          have r3 : MG z2 q b0 bs (clV0 e x).2 := r3
          obtain ⟨p3, y3, f1, f2, f3, f4, f5⟩ := m_lookS r3
          have his := m_isSign f1 f3
          rw [← f2] at his
          have hG4 : MG y3 q b0 bs (clV0 e x).2 := ⟨p3, f1, f2⟩
          have h393 : zI y3 39 = nI 0 := (f4.2.2.1 39 (by decide)).trans r4
          have hF5 := hFz.tr (HM.of f4 (by decide))
          rw [f5, bnd, his, bnd]
          by_cases hr : isRl (sg (clV0 e x).2) = true
          · rw [if_pos hr, hr, if_neg biT0]
            obtain ⟨cc, z3, k1, k2, k3⟩ := m_hcC (σ0 := σ) (σ := y3) (x := (clV0 e x).2) (l := (clV0 e x).1) (c := v) hN201 hsm heb hun hgu g3.2 hN g3.1 hF5 (.inl ⟨hG4, h393, fun hE => r5 (hE.fr hF4)⟩)
            rw [l1] at k1
            have k1 : fX12_condition 8 y3 (nI 1) v = some (cc, z3) := k1
            have g4 := cmS_g heb 0 N' (clV0 e x).1 (clV0 e x).2 g3.1
            have g5 : gX N' (clC0 e x).2 := ulL_g hgu 200 _ N' _ hN g4
            have g6 : gX N' (clC2 e x).2 := trL_g hgu 200 _ N' _ hN g5
            obtain ⟨υ, m1, m2, m3⟩ := beh z3 cc (clC2 e x) (by
              rcases k3 with ⟨k3, k4, k5⟩ | k3
              · exact .inl ⟨k3, k4, fun hE => k5 (hE.fc hF)⟩
              · exact .inr k3) g6 k2
            refine ⟨υ, ?_, m2, m3⟩
            rw [k1, bnd]
            exact m1
          · have hf : isRl (sg (clV0 e x).2) = false := Bool.eq_false_iff.mpr hr
            rw [if_neg hr, hf, if_pos biF0]
            obtain ⟨ω, k1, k2, k3⟩ := m_J134 (q := q) (b0 := b0) (bs := bs) (e := e) (σ0 := σ0) (υ := y3) (h := h) (c := true) (w := w) (v := (clV0 e x).1) (x := (clV0 e x).2) (r := true) (t := v) ((hF5.2.2.1 40 (by decide)).trans h40) (by rw [hF5.2.2.1 42 (by decide), hF5.2.2.1 41 (by decide)]; exact hfd) (.inl ⟨hG4, h393, fun hE => ⟨rfl, r5 ((hE.fc hF).fr hF4)⟩⟩)
            exact ⟨ω, k1, (HC2.of hF5).tr k2, k3⟩
        · have h38 := r3.m1
          obtain ⟨f, f1, f2, f3⟩ := r3
          have hsg : sg (clV0 e x).2 = 257 := flt_sg f1
          rw [if_neg h38, hsg, if_neg (by decide)]
          have hJ : fX12_clause_J134 z2 (nI 121) (nI 1) v = some z2 := by
            unfold fX12_clause_J134
            rw [mI_eq, if_neg h38]
          exact ⟨z2, hJ, HC2.of hFz, .inr ⟨f, f1, f2, f3⟩⟩
    · obtain ⟨f, f1, f2, f3⟩ := t3
      refine ⟨z1, by rw [t2, bnd, if_pos biF0], HC2.of (hF2.tr t4), .inr ⟨f, cls_flt heb f1, f2, f3⟩⟩
  · have hlk : ¬ lk bs p = nI 121 := fun h => s121 (c121.mp h)
    obtain ⟨f1, f2⟩ := m_failS a1 a3
    rw [decide_eq_false hlk, if_pos biF0, f1, bnd]
    have hnd : nd 121 x = slx x := by
      rw [a2]
      rw [a2] at s121
      exact nd_N (tb_F (by decide) s121)
    rw [← a2, ← hnd] at f2
    obtain ⟨f, f3, f4, f5⟩ := f2
    exact ⟨uI y1 38 (nI p), rfl, HC2.of (hF1.tr (FR.uI (FR.rf _ _ _ _ _) (by decide))), .inr ⟨f, cls_flt heb (flt_nd f3 (by decide)), f4, f5⟩⟩
