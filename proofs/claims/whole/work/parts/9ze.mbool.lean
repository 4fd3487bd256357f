/-! the model reads a habit: comparisons, units, parts, conditions *-/
def MSx (q b0 : Nat) (bs : List Nat) (dp : Nat) (σ : St) (x : Sx) (P : Prop) : Prop := (MG σ q b0 bs x ∧ zI σ 39 = nI dp ∧ P) ∨ MB σ x
def mBK (q b0 : Nat) (bs : List Nat) (e : En) (N dp : Nat) (f : St → Option (Bool × St)) (s : Sx → Bool × Sx) : Prop := ∀ σ x N', N' ≤ N → MG σ q b0 bs x → gX N' x → zI σ 39 = nI dp → ∃ v υ, f σ = some (v, υ) ∧ HM σ υ ∧ MSx q b0 bs dp υ (s x).2 (EM σ e → v = (s x).1)
theorem tb_flt {v f : Nat} {x : Sx} (h : flt x f) (hv : v < 256) : tb v x = false := by
  cases hb : tb v x with
  | false => rfl
  | true =>
    have h1 := tb_sg hv hb
    have h2 := flt_sg h
    omega
theorem tbs_of {v : Nat} {x : Sx} (hv : v < 256) (h : sg x = v) : tb v x = true := by
  cases hb : tb v x with
  | true => rfl
  | false => exact absurd h (tb_no hv (by rw [hb]; decide))
theorem tb_F {v : Nat} {x : Sx} (hv : v < 256) (h : sg x ≠ v) : tb v x = false := by
  cases hb : tb v x with
  | false => rfl
  | true => exact absurd (tb_sg hv hb) h
theorem ulL_flt {u : Sx → Bool × Sx} {x : Sx} {f : Nat} (h : flt x f) (n : Nat) (a : Bool) : ulL u n a x = (a, x) := by
  cases n with
  | zero => rfl
  | succ n =>
    unfold ulL
    rw [tb_flt h (by decide), if_neg (by decide)]
theorem trL_flt {u : Sx → Bool × Sx} {x : Sx} {f : Nat} (h : flt x f) (n : Nat) (a : Bool) : trL u n a x = (a, x) := by
  cases n with
  | zero => rfl
  | succ n =>
    unfold trL
    rw [tb_flt h (by decide), if_neg (by decide)]
theorem m_isSign {σ : St} {q b0 p : Nat} {bs : List Nat} (hM : MX σ q b0 bs p) (h32 : p < bs.length → bs.getD p 0 ≠ 32) : fX12_isSign (lk bs p) = some (isRl (sg (.inr (tkR Jh 4 gh bs p)))) := by
  have c61 := lk_sg (v := 61) hM h32 (by decide) (by decide)
  have c60 := lk_sg (v := 60) hM h32 (by decide) (by decide)
  have c62 := lk_sg (v := 62) hM h32 (by decide) (by decide)
  unfold fX12_isSign isRl
  rw [l61, l60', l62]
  by_cases h1 : sg (.inr (tkR Jh 4 gh bs p)) = 61
  · rw [if_pos (c61.mpr h1), decide_eq_true (.inl h1)]
  · rw [if_neg (fun x => h1 (c61.mp x))]
    by_cases h2 : sg (.inr (tkR Jh 4 gh bs p)) = 60
    · rw [if_pos (c60.mpr h2), decide_eq_true (.inr (.inl h2))]
    · rw [if_neg (fun x => h2 (c60.mp x))]
      by_cases h3 : sg (.inr (tkR Jh 4 gh bs p)) = 62
      · rw [if_pos (c62.mpr h3), decide_eq_true (.inr (.inr h3))]
      · rw [if_neg (fun x => h3 (c62.mp x)), decide_eq_false (by omega)]
theorem cmp_tot (s t0 r : Int32) (w : St) : ∃ v, (if s = nI 61 then (if t0 = r then some (true, w) else some (false, w)) else if s = nI 60 then (if r ≤ t0 then some (false, w) else some (true, w)) else (if t0 ≤ r then some (false, w) else some (true, w))) = some (v, w) := by
  by_cases h1 : s = nI 61
  · rw [if_pos h1]
    by_cases h2 : t0 = r
    · exact ⟨_, if_pos h2⟩
    · exact ⟨_, if_neg h2⟩
  · rw [if_neg h1]
    by_cases h3 : s = nI 60
    · rw [if_pos h3]
      by_cases h2 : r ≤ t0
      · exact ⟨_, if_pos h2⟩
      · exact ⟨_, if_neg h2⟩
    · rw [if_neg h3]
      by_cases h2 : t0 ≤ r
      · exact ⟨_, if_pos h2⟩
      · exact ⟨_, if_neg h2⟩
theorem m_cmS {q b0 N dp : Nat} {bs : List Nat} {e : En} (hr : mOK q b0 bs e N dp (fun σ => fX12_sum 8 σ) (smD e dp)) (heb : eB e) {σ0 σ : St} {x : Sx} {N' : Nat} {l : Int} {c : Int32} (hl : bnd6 l) (hN : N' ≤ N) (hx : gX N' x) (hF : HM σ0 σ) (hs : MSx q b0 bs dp σ x (EM σ0 e → c = iI l)) : ∃ v υ, fX12_compares_J12 σ c = some (v, υ) ∧ HM σ0 υ ∧ MSx q b0 bs dp υ (cmS e dp l x).2 (EM σ0 e → v = (cmS e dp l x).1) := by
  unfold fX12_compares_J12
  rw [mI_eq]
  rcases hs with ⟨hG, h39, hc⟩ | hB
  · have h38 := hG.m1
    obtain ⟨p, y1, a1, a2, a3, a4, a5⟩ := m_lookS hG
    have his := m_isSign a1 a3
    rw [← a2] at his
    have hF1 : HM σ0 y1 := hF.tr (HM.of a4 (by decide))
    have h391 : zI y1 39 = nI dp := (a4.2.2.1 39 (by decide)).trans h39
    unfold cmS
    by_cases h : isRl (sg x) = true
    · rw [if_pos h]
      rw [h] at his
      have hrl := isRl_lt h
      obtain ⟨n1, n2, n3, n4, n5⟩ := sg_next a1 a3 (by rw [← a2]; exact hrl.2.2)
      rw [← a2] at n2 n4
      have hlk : lk bs p = nI (sg x) := by rw [n2]; exact if_pos n1
      have h37 := a1.2.2.2.2.1
      have hx1 := gX_tl hx hrl.1
      have h39n : zI (uI y1 37 (nI (p + 1))) 39 = nI dp := by rw [zI_ne (by decide)]; exact h391
      obtain ⟨v', y2, r1, r2, r3⟩ := hr (uI y1 37 (nI (p + 1))) (tlx x) (N' - 1) (by omega) ⟨p + 1, n5, n4⟩ hx1 h39n
      have r1 : fX12_sum 8 (uI y1 37 (nI (p + 1))) = some (v', y2) := r1
      have hg := smD_g heb dp (N' - 1) (tlx x) hx1
      have hF2 : HM σ0 y2 := (hF1.tr (FR.uI (FR.rf _ _ _ _ _) (by decide))).tr r2
      have hFn : HM σ0 (uI y1 37 (nI (p + 1))) := hF1.tr (FR.uI (FR.rf _ _ _ _ _) (by decide))
      obtain ⟨v, hv⟩ := cmp_tot (nI (sg x)) c v' y2
      refine ⟨v, y2, ?_, hF2, ?_⟩
      · rw [hlk] at a5 his
        rw [if_pos h38, a5, bnd, his, bnd, if_neg (by decide), bnd, h37, l1, nI_add, r1, bnd, l61, l60']
        exact hv
      · rcases r3 with ⟨r3, r4, r5⟩ | r3
        · refine .inl ⟨r3, r4, fun hE => ?_⟩
          have e1 := hc hE
          have e2 := r5 (hE.fr hFn)
          rw [e1, e2] at hv
          rw [cmp_ok h hl hg.2] at hv
          exact (congrArg Prod.fst (Option.some.inj hv)).symm
        · exact .inr r3
    · rw [if_neg h]
      have hf : isRl (sg x) = false := Bool.eq_false_iff.mpr h
      rw [hf] at his
      obtain ⟨f1, f2⟩ := m_failS a1 a3
      rw [← a2] at f2
      refine ⟨false, uI y1 38 (nI p), ?_, hF1.tr (FR.uI (FR.rf _ _ _ _ _) (by decide)), .inr f2⟩
      rw [if_pos h38, a5, bnd, his, bnd, if_pos (by decide), f1, bnd]
  · have h38 := hB.m1
    obtain ⟨f, hf1, hf2, hf3⟩ := hB
    have hsg := flt_sg hf1
    have hcm : cmS e dp l x = (false, slx x) := by
      unfold cmS
      rw [hsg, if_neg (by decide)]
    rw [hcm]
    exact ⟨false, σ, if_neg h38, hF, .inr ⟨f, flt_sl hf1, hf2, hf3⟩⟩
theorem m_ulL {q b0 N dp : Nat} {bs : List Nat} {e : En} {rec : St → Option (Bool × St)} {u : Sx → Bool × Sx} (hN201 : N ≤ 201) (hr : mBK q b0 bs e N dp rec u) (hg : gB N u) {σ0 σ : St} {x : Sx} {N' : Nat} {a c : Bool} (hN : N' ≤ N) (hx : gX N' x) (hF : HM σ0 σ) (hs : MSx q b0 bs dp σ x (EM σ0 e → c = a)) : ∃ v υ, fX12_part_P18 rec σ (bi c) = some (v, υ) ∧ HM σ0 υ ∧ MSx q b0 bs dp υ (ulL u 200 a x).2 (EM σ0 e → v = (ulL u 200 a x).1) := by
  have key := it_for (β := St × Bool × Bool × Sx × Nat) (body := fun (kb : (St × Int32) → Option (Bool × St)) (t : St × Int32) => fX12_part_L18 rec (fun σ v3 => kb (σ, v3)) t.1 t.2) 200 (by omega) (fun i b => (b.1, bi b.2.1)) (fun i b => ulL u 200 a x = ulL u (200 - i) b.2.2.1 b.2.2.2.1 ∧ b.2.2.2.2 ≤ N ∧ b.2.2.2.2 + i ≤ 201 ∧ gX b.2.2.2.2 b.2.2.2.1 ∧ HM σ0 b.1 ∧ MSx q b0 bs dp b.1 b.2.2.2.1 (EM σ0 e → b.2.1 = b.2.2.1)) (fun i b z => ∃ v υ, z = some (v, υ) ∧ HM σ0 υ ∧ MSx q b0 bs dp υ (ulL u 200 a x).2 (EM σ0 e → v = (ulL u 200 a x).1)) ?_ 0 (σ, c, a, x, N') (Nat.zero_le _) ⟨rfl, hN, (by show N' + 0 ≤ 201; omega), hx, hF, hs⟩
  · exact key
  · rintro i ⟨z, c, a', w, M⟩ hi ⟨jt, jN, jM, jx, jF, jc⟩ kb hkb
    have ht : ulL u 200 a x = ulL u (200 - i) a' w := jt
    have hM : M ≤ N := jN
    have hMi : M + i ≤ 201 := jM
    have hw : gX M w := jx
    have hFz : HM σ0 z := jF
    have hcs : MSx q b0 bs dp z w (EM σ0 e → c = a') := jc
    clear jt jN jM jx jF jc
    show ∃ v' υ, fX12_part_L18 rec (fun σ v3 => kb (σ, v3)) z (bi c) = _ ∧ _
    unfold fX12_part_L18
    rw [mI_eq]
    have hzc := zb_bi c
    rcases hcs with ⟨hGz, h39z, hval⟩ | hB
    · have h38 := hGz.m1
      obtain ⟨p, y1, a1, a2, a3, a4, a5⟩ := m_lookS hGz
      have c42 := lk_sg (v := 38) a1 a3 (by decide) (by decide)
      rw [← a2] at c42
      have hG1 : MG y1 q b0 bs w := ⟨p, a1, a2⟩
      have h391 : zI y1 39 = nI dp := (a4.2.2.1 39 (by decide)).trans h39z
      have hF1 : HM σ0 y1 := hFz.tr (HM.of a4 (by decide))
      by_cases h42 : sg w = 38
      · have hi200 : i < 200 := by
          apply Decidable.byContradiction
          intro hc
          have := gX_1 (gX_mono hw (show M ≤ 1 by omega))
          omega
        obtain ⟨n1, n2, n3, n4, n5⟩ := sg_next a1 a3 (by rw [← a2]; omega)
        rw [← a2] at n4
        have hw1 := gX_tl hw (by omega)
        have h39n : zI (uI y1 37 (nI (p + 1))) 39 = nI dp := by rw [zI_ne (by decide)]; exact h391
        have hFn : HM σ0 (uI y1 37 (nI (p + 1))) := hF1.tr (FR.uI (FR.rf _ _ _ _ _) (by decide))
        obtain ⟨v', y3, r1, r2, r3⟩ := hr (uI y1 37 (nI (p + 1))) (tlx w) (M - 1) (by omega) ⟨p + 1, n5, n4⟩ hw1 h39n
        have q1 := hg (M - 1) (tlx w) (by omega) hw1
        rw [show 200 - i = (200 - (i + 1)) + 1 by omega] at ht
        have ht : ulL u 200 a x = if tb 38 w = true then ulL u (200 - (i + 1)) (a' && (u (tlx w)).1) (u (tlx w)).2 else (a', w) := ht
        rw [if_pos (tbs_of (by decide) h42)] at ht
        obtain ⟨v2, υ, k1, k2, k3⟩ := hkb (y3, (c && v'), (a' && (u (tlx w)).1), (u (tlx w)).2, M - 1) hi200 ⟨ht, by show M - 1 ≤ N; omega, by show M - 1 + (i + 1) ≤ 201; omega, q1, hFn.tr r2, by
          rcases r3 with ⟨r3, r4, r5⟩ | r3
          · exact .inl ⟨r3, r4, fun hE => by rw [hval hE, r5 (hE.fr hFn)]⟩
          · exact .inr r3⟩
        refine ⟨v2, υ, ?_, k2, k3⟩
        rw [← k1]
        have e1 := c42.mpr h42
        have h37 := a1.2.2.2.2.1
        clear hzc hval hkb k1 k2 k3
        rw [if_pos h38, a5, bnd, l38, if_pos e1, bnd, h37, l1, nI_add, r1, bnd]
        cases c <;> cases v' <;> rfl
      · have he : ulL u (200 - i) a' w = (a', w) := by
          cases 200 - i with
          | zero => rfl
          | succ n =>
            unfold ulL
            rw [tb_F (by decide) h42, if_neg (by decide)]
        rw [he] at ht
        have e1 : ¬ lk bs p = nI 38 := fun h => h42 (c42.mp h)
        refine ⟨c, y1, ?_, hF1, .inl ⟨by rw [ht]; exact hG1, h391, fun hE => by rw [ht]; exact hval hE⟩⟩
        rw [if_pos h38, a5, bnd, l38, if_neg e1, hzc, bnd]
    · have h38 := hB.m1
      obtain ⟨f, hf1, hf2, hf3⟩ := hB
      rw [ulL_flt hf1] at ht
      refine ⟨c, z, ?_, hFz, .inr ⟨f, by rw [ht]; exact hf1, hf2, hf3⟩⟩
      rw [if_neg h38, hzc, bnd]
theorem m_ptS {q b0 N dp : Nat} {bs : List Nat} {e : En} {rec : St → Option (Bool × St)} {u : Sx → Bool × Sx} (hN201 : N ≤ 201) (hr : mBK q b0 bs e N dp rec u) (hg : gB N u) : mBK q b0 bs e N dp (fun σ => fX12_part_B rec σ 0 0) (ptS u) := by
  intro σ x N' hN hG hx h39
  obtain ⟨v', y1, r1, r2, r3⟩ := hr σ x N' hN hG hx h39
  obtain ⟨v, υ, k1, k2, k3⟩ := m_ulL (a := (u x).1) hN201 hr hg hN (hg N' x hN hx) r2 r3
  refine ⟨v, υ, ?_, k2, k3⟩
  show fX12_part_B rec σ 0 0 = _
  unfold fX12_part_B
  rw [if_pos rfl, r1, bnd]
  exact k1
theorem m_trL {q b0 N dp : Nat} {bs : List Nat} {e : En} {rec : St → Option (Bool × St)} {u : Sx → Bool × Sx} (hN201 : N ≤ 201) (hr0 : mBK q b0 bs e N dp rec u) (hg0 : gB N u) {σ0 σ : St} {x : Sx} {N' : Nat} {a c : Bool} (hN : N' ≤ N) (hx : gX N' x) (hF : HM σ0 σ) (hs : MSx q b0 bs dp σ x (EM σ0 e → c = a)) : ∃ v υ, fX12_condition_P7 rec σ (bi c) = some (v, υ) ∧ HM σ0 υ ∧ MSx q b0 bs dp υ (trL u 200 a x).2 (EM σ0 e → v = (trL u 200 a x).1) := by
  have hr := m_ptS hN201 hr0 hg0
  have hg := ptS_g hg0
  have key := it_for (β := St × Bool × Bool × Sx × Nat) (body := fun (kb : (St × Int32) → Option (Bool × St)) (t : St × Int32) => fX12_condition_L7 rec (fun σ v3 => kb (σ, v3)) t.1 t.2) 200 (by omega) (fun i b => (b.1, bi b.2.1)) (fun i b => trL u 200 a x = trL u (200 - i) b.2.2.1 b.2.2.2.1 ∧ b.2.2.2.2 ≤ N ∧ b.2.2.2.2 + i ≤ 201 ∧ gX b.2.2.2.2 b.2.2.2.1 ∧ HM σ0 b.1 ∧ MSx q b0 bs dp b.1 b.2.2.2.1 (EM σ0 e → b.2.1 = b.2.2.1)) (fun i b z => ∃ v υ, z = some (v, υ) ∧ HM σ0 υ ∧ MSx q b0 bs dp υ (trL u 200 a x).2 (EM σ0 e → v = (trL u 200 a x).1)) ?_ 0 (σ, c, a, x, N') (Nat.zero_le _) ⟨rfl, hN, (by show N' + 0 ≤ 201; omega), hx, hF, hs⟩
  · exact key
  · rintro i ⟨z, c, a', w, M⟩ hi ⟨jt, jN, jM, jx, jF, jc⟩ kb hkb
    have ht : trL u 200 a x = trL u (200 - i) a' w := jt
    have hM : M ≤ N := jN
    have hMi : M + i ≤ 201 := jM
    have hw : gX M w := jx
    have hFz : HM σ0 z := jF
    have hcs : MSx q b0 bs dp z w (EM σ0 e → c = a') := jc
    clear jt jN jM jx jF jc
    show ∃ v' υ, fX12_condition_L7 rec (fun σ v3 => kb (σ, v3)) z (bi c) = _ ∧ _
    unfold fX12_condition_L7
    rw [mI_eq]
    have hzc := zb_bi c
    rcases hcs with ⟨hGz, h39z, hval⟩ | hB
    · have h38 := hGz.m1
      obtain ⟨p, y1, a1, a2, a3, a4, a5⟩ := m_lookS hGz
      have c42 := lk_sg (v := 124) a1 a3 (by decide) (by decide)
      rw [← a2] at c42
      have hG1 : MG y1 q b0 bs w := ⟨p, a1, a2⟩
      have h391 : zI y1 39 = nI dp := (a4.2.2.1 39 (by decide)).trans h39z
      have hF1 : HM σ0 y1 := hFz.tr (HM.of a4 (by decide))
      by_cases h42 : sg w = 124
      · have hi200 : i < 200 := by
          apply Decidable.byContradiction
          intro hc
          have := gX_1 (gX_mono hw (show M ≤ 1 by omega))
          omega
        obtain ⟨n1, n2, n3, n4, n5⟩ := sg_next a1 a3 (by rw [← a2]; omega)
        rw [← a2] at n4
        have hw1 := gX_tl hw (by omega)
        have h39n : zI (uI y1 37 (nI (p + 1))) 39 = nI dp := by rw [zI_ne (by decide)]; exact h391
        have hFn : HM σ0 (uI y1 37 (nI (p + 1))) := hF1.tr (FR.uI (FR.rf _ _ _ _ _) (by decide))
        obtain ⟨v', y3, r1, r2, r3⟩ := hr (uI y1 37 (nI (p + 1))) (tlx w) (M - 1) (by omega) ⟨p + 1, n5, n4⟩ hw1 h39n
        have r1 : fX12_part_B rec (uI y1 37 (nI (p + 1))) 0 0 = some (v', y3) := r1
        have q1 := hg (M - 1) (tlx w) (by omega) hw1
        rw [show 200 - i = (200 - (i + 1)) + 1 by omega] at ht
        have ht : trL u 200 a x = if tb 124 w = true then trL u (200 - (i + 1)) (a' || (ptS u (tlx w)).1) (ptS u (tlx w)).2 else (a', w) := ht
        rw [if_pos (tbs_of (by decide) h42)] at ht
        obtain ⟨v2, υ, k1, k2, k3⟩ := hkb (y3, (c || v'), (a' || (ptS u (tlx w)).1), (ptS u (tlx w)).2, M - 1) hi200 ⟨ht, by show M - 1 ≤ N; omega, by show M - 1 + (i + 1) ≤ 201; omega, q1, hFn.tr r2, by
          rcases r3 with ⟨r3, r4, r5⟩ | r3
          · exact .inl ⟨r3, r4, fun hE => by rw [hval hE, r5 (hE.fr hFn)]⟩
          · exact .inr r3⟩
        refine ⟨v2, υ, ?_, k2, k3⟩
        rw [← k1]
        have e1 := c42.mpr h42
        have h37 := a1.2.2.2.2.1
        clear hzc hval hkb k1 k2 k3
        rw [if_pos h38, a5, bnd, l124, if_pos e1, bnd, h37, l1, nI_add, r1, bnd]
        cases c <;> cases v' <;> rfl
      · have he : trL u (200 - i) a' w = (a', w) := by
          cases 200 - i with
          | zero => rfl
          | succ n =>
            unfold trL
            rw [tb_F (by decide) h42, if_neg (by decide)]
        rw [he] at ht
        have e1 : ¬ lk bs p = nI 124 := fun h => h42 (c42.mp h)
        refine ⟨c, y1, ?_, hF1, .inl ⟨by rw [ht]; exact hG1, h391, fun hE => by rw [ht]; exact hval hE⟩⟩
        rw [if_pos h38, a5, bnd, l124, if_neg e1, hzc, bnd]
    · have h38 := hB.m1
      obtain ⟨f, hf1, hf2, hf3⟩ := hB
      rw [trL_flt hf1] at ht
      refine ⟨c, z, ?_, hFz, .inr ⟨f, by rw [ht]; exact hf1, hf2, hf3⟩⟩
      rw [if_neg h38, hzc, bnd]
theorem m_hcS {q b0 N dp : Nat} {bs : List Nat} {e : En} {rec : St → Option (Bool × St)} {u : Sx → Bool × Sx} (hN201 : N ≤ 201) (hr : mBK q b0 bs e N dp rec u) (hg : gB N u) : mBK q b0 bs e N dp (fun σ => fX12_condition_B rec σ 0 0) (hcS u) := by
  intro σ x N' hN hG hx h39
  obtain ⟨v', y1, r1, r2, r3⟩ := m_ptS hN201 hr hg σ x N' hN hG hx h39
  have r1 : fX12_part_B rec σ 0 0 = some (v', y1) := r1
  obtain ⟨v, υ, k1, k2, k3⟩ := m_trL (a := (ptS u x).1) hN201 hr hg hN (ptS_g hg N' x hN hx) r2 r3
  refine ⟨v, υ, ?_, k2, k3⟩
  show fX12_condition_B rec σ 0 0 = _
  unfold fX12_condition_B
  rw [r1, bnd]
  exact k1
/-- goes on from a compared value *-/
theorem m_hcC {q b0 N dp : Nat} {bs : List Nat} {e : En} {rec : St → Option (Bool × St)} {u : Sx → Bool × Sx} (hN201 : N ≤ 201) (hs : mOK q b0 bs e N dp (fun σ => fX12_sum 8 σ) (smD e dp)) (heb : eB e) (hr : mBK q b0 bs e N dp rec u) (hg : gB N u) {σ0 σ : St} {x : Sx} {N' : Nat} {l : Int} {c : Int32} (hl : bnd6 l) (hN : N' ≤ N) (hx : gX N' x) (hF : HM σ0 σ) (hm : MSx q b0 bs dp σ x (EM σ0 e → c = iI l)) : ∃ v υ, fX12_condition_B rec σ 1 c = some (v, υ) ∧ HM σ0 υ ∧ MSx q b0 bs dp υ (trL u 200 (ulL u 200 (cmS e dp l x).1 (cmS e dp l x).2).1 (ulL u 200 (cmS e dp l x).1 (cmS e dp l x).2).2).2 (EM σ0 e → v = (trL u 200 (ulL u 200 (cmS e dp l x).1 (cmS e dp l x).2).1 (ulL u 200 (cmS e dp l x).1 (cmS e dp l x).2).2).1) := by
  obtain ⟨v1, y1, a1, a2, a3⟩ := m_cmS hs heb hl hN hx hF hm
  have g1 := cmS_g heb dp N' l x hx
  obtain ⟨v2, y2, b1, b2, b3⟩ := m_ulL (a := (cmS e dp l x).1) hN201 hr hg hN g1 a2 a3
  have g2 := ulL_g hg 200 (cmS e dp l x).1 N' _ hN g1
  obtain ⟨v3, y3, c1, c2, c3⟩ := m_trL (a := (ulL u 200 (cmS e dp l x).1 (cmS e dp l x).2).1) hN201 hr hg hN g2 b2 b3
  refine ⟨v3, y3, ?_, c2, c3⟩
  unfold fX12_condition_B fX12_part_B fX12_compares
  rw [if_neg (by decide), if_neg (by decide), a1, bnd, b1, bnd]
  exact c1
theorem sm_bad {e : En} (h33 : e 33 = none) (h40 : e 40 = none) {x : Sx} {f : Nat} (hx : sg x = 33 ∨ sg x = 40) (hf : flt (slx x) f) (k dp : Nat) (l : Int) : flt (smS (atS e (k + 1) dp) x).2 f := by
  have hat : atS e (k + 1) dp x = (0, slx x) := by
    show atB _ e dp x = _
    unfold atB
    rw [if_neg (fun h => by omega), if_neg (by omega)]
    rcases hx with h | h
    · rw [h, h33]
    · rw [h, h40]
  have ht : tmS (atS e (k + 1) dp) x = (0, slx x) := by
    unfold tmS
    rw [hat, tmL_flt hf]
  unfold smS
  rw [ht, smL_flt hf]
  exact hf
theorem biT0 : ¬ bi true = 0 := by decide
theorem biF0 : bi false = 0 := by decide
theorem m_unit {q b0 N : Nat} {bs : List Nat} {e : En} (hN201 : N ≤ 201) (heb : eB e) (h33 : e 33 = none) (h40 : e 40 = none) (hsm : ∀ dp, dp ≤ 6 → mOK q b0 bs e N dp (fun σ => fX12_sum 8 σ) (smD e dp)) : ∀ (k dp j : Nat), 7 ≤ k + dp → 7 ≤ j + dp → dp ≤ 6 → mBK q b0 bs e N dp (fun σ => fX12_unit k σ) (unS e j dp)
  | 0, dp, j, h1, h2, h3 => by omega
  | k + 1, dp, 0, h1, h2, h3 => by omega
  | k + 1, dp, j + 1, h1, h2, h3 => by
    intro σ x N' hN hG hx h39
    have hs := hsm dp h3
    obtain ⟨p, y1, a1, a2, a3, a4, a5⟩ := m_lookS hG
    have h391 : zI y1 39 = nI dp := (a4.2.2.1 39 (by decide)).trans h39
    have hF1 : HM σ y1 := HM.of a4 (by decide)
    have hG1 : MG y1 q b0 bs x := ⟨p, a1, a2⟩
    have c33 := lk_sg (v := 33) a1 a3 (by decide) (by decide)
    have c40 := lk_sg (v := 40) a1 a3 (by decide) (by decide)
    rw [← a2] at c33 c40
    show ∃ v υ, fX12_unit_B (fX12_unit k) σ = some (v, υ) ∧ HM σ υ ∧ MSx q b0 bs dp υ (unN (fun dp x => hcS (unS e j dp) x) e (6 - dp) dp x).2 (EM σ e → v = (unN (fun dp x => hcS (unS e j dp) x) e (6 - dp) dp x).1)
    unfold fX12_unit_B
    rw [a5, bnd, l33, l40, l41]
    by_cases s33 : sg x = 33
    · rw [if_pos (c33.mpr s33)]
      rcases m_goesIn a1 a3 h391 h3 (by rw [← a2]; omega) with ⟨h6, y2, d1, d2, d3, d4⟩ | ⟨h6, y2, d1, d2, d3⟩
      · rw [← a2] at d2
        have hx1 := gX_tl hx (by omega)
        obtain ⟨v', y3, r1, r2, r3⟩ := m_unit (q := q) (b0 := b0) (bs := bs) hN201 heb h33 h40 hsm k (dp + 1) (j + 1) (by omega) (by omega) (by omega) y2 (tlx x) (N' - 1) (by omega) d2 hx1 d3
        have r1 : fX12_unit k y2 = some (v', y3) := r1
        have hF2 := hF1.tr d4
        have hu : unN (fun dp x => hcS (unS e j dp) x) e (6 - dp) dp x = (!(unS e (j + 1) (dp + 1) (tlx x)).1, (unS e (j + 1) (dp + 1) (tlx x)).2) := by
          rw [show 6 - dp = (6 - (dp + 1)) + 1 by omega]
          show (if tb 33 x = true then _ else _) = _
          rw [if_pos (tbs_of (by decide) s33)]
          rfl
        rw [hu]
        refine ⟨!v', uI y3 39 (zI y3 39 - 1), ?_, (hF2.tr r2).tr (FR.uI (FR.rf _ _ _ _ _) (by decide)), ?_⟩
        · rw [d1, bnd, if_neg biT0, r1, bnd, bnd]
          cases v' <;> rfl
        · rcases r3 with ⟨⟨pp, m1, m2⟩, r4, r5⟩ | ⟨f, r3, r4, r5⟩
          · have hsub : nI (dp + 1) - nI 1 = nI dp := by rw [pI_sub (by omega), Nat.add_sub_cancel]
            refine .inl ⟨⟨pp, m1.fr (FR.uI (FR.rf [] [] [39] [] _) (by decide)) (fun x => by cases x) (by decide), m2⟩, by rw [zI_uI, r4, l1, hsub], fun hE => by rw [r5 (hE.fr hF2)]⟩
          · exact .inr ⟨f, r3, by rw [zI_ne (by decide)]; exact r4, r5⟩
      · have hu : unN (fun dp x => hcS (unS e j dp) x) e (6 - dp) dp x = cmS e dp (smD e dp x).1 (smD e dp x).2 := by
          rw [h6]
          show bsS _ e 6 x = _
          unfold bsS
          rw [if_neg (fun h => by omega)]
        rw [hu]
        rw [← a2] at d2
        obtain ⟨f, f1, f2, f3⟩ := d2
        have hb := sm_bad h33 h40 (.inl s33) f1 7 dp 0
        refine ⟨false, y2, ?_, hF1.tr d3, .inr ⟨f, ?_, f2, f3⟩⟩
        · rw [d1, bnd, if_pos biF0]
        · unfold cmS
          have hsg : sg (smD e dp x).2 = 257 := flt_sg hb
          rw [hsg, if_neg (by decide)]
          exact flt_sl hb
    · rw [if_neg (fun h => s33 (c33.mp h))]
      have hu : unN (fun dp x => hcS (unS e j dp) x) e (6 - dp) dp x = bsS (fun dp x => hcS (unS e j dp) x) e dp x := by
        cases 6 - dp with
        | zero => rfl
        | succ n =>
          show (if tb 33 x = true then _ else _) = _
          rw [tb_F (by decide) s33, if_neg (by decide)]
      rw [hu]
      unfold bsS
      by_cases s40 : sg x = 40
      · rw [if_pos (c40.mpr s40)]
        rcases m_goesIn a1 a3 h391 h3 (by rw [← a2]; omega) with ⟨h6, y2, d1, d2, d3, d4⟩ | ⟨h6, y2, d1, d2, d3⟩
        · rw [← a2] at d2
          have hc : dp < 6 ∧ tb 40 x = true := ⟨h6, tbs_of (by decide) s40⟩
          rw [if_pos hc]
          have hx1 := gX_tl hx (by omega)
          have hgu : gB N (unS e j (dp + 1)) := unS_g heb N j (dp + 1)
          obtain ⟨v', y3, r1, r2, r3⟩ := m_hcS hN201 (m_unit (q := q) (b0 := b0) (bs := bs) hN201 heb h33 h40 hsm k (dp + 1) j (by omega) (by omega) (by omega)) hgu y2 (tlx x) (N' - 1) (by omega) d2 hx1 d3
          have r1 : fX12_condition_B (fX12_unit k) y2 0 0 = some (v', y3) := r1
          have hF3 := (hF1.tr d4).tr r2
          rcases r3 with ⟨r3, r4, r5⟩ | r3
          · rcases m_takesS (v := 41) r3 (by decide) (by decide) with ⟨t1, y4, t2, t3, t4⟩ | ⟨t1, y4, t2, t3, t4⟩
            · have h394 : zI y4 39 = nI (dp + 1) := (t4.2.2.1 39 (by decide)).trans r4
              have hsub : nI (dp + 1) - nI 1 = nI dp := by rw [pI_sub (by omega), Nat.add_sub_cancel]
              obtain ⟨pp, m1, m2⟩ := t3
              refine ⟨v', uI y4 39 (nI dp), ?_, (hF3.tr (HM.of t4 (by decide))).tr (FR.uI (FR.rf _ _ _ _ _) (by decide)), .inl ⟨⟨pp, m1.fr (FR.uI (FR.rf [] [] [39] [] _) (by decide)) (fun x => by cases x) (by decide), m2⟩, by rw [zI_uI], fun hE => r5 (hE.fr (hF1.tr d4))⟩⟩
              rw [d1, bnd, if_neg biT0, r1, bnd, t2, bnd, if_neg biT0, bnd, h394, l1, hsub]
            · refine ⟨false, y4, ?_, hF3.tr t4, .inr t3⟩
              rw [d1, bnd, if_neg biT0, r1, bnd, t2, bnd, if_pos biF0]
          · obtain ⟨t1, t2⟩ := m_takesB (c := nI 41) (v := 41) r3 (by decide)
            refine ⟨false, y3, ?_, hF3, .inr t2⟩
            rw [d1, bnd, if_neg biT0, r1, bnd, t1, bnd, if_pos biF0]
        · have hc : ¬ (dp < 6 ∧ tb 40 x = true) := fun h => by omega
          rw [if_neg hc]
          rw [← a2] at d2
          obtain ⟨f, f1, f2, f3⟩ := d2
          have hb := sm_bad h33 h40 (.inr s40) f1 7 dp 0
          refine ⟨false, y2, ?_, hF1.tr d3, .inr ⟨f, ?_, f2, f3⟩⟩
          · rw [d1, bnd, if_pos biF0]
          · unfold cmS
            have hsg : sg (smD e dp x).2 = 257 := flt_sg hb
            rw [hsg, if_neg (by decide)]
            exact flt_sl hb
      · have hc : ¬ (dp < 6 ∧ tb 40 x = true) := fun h => s40 (tb_sg (by decide) h.2)
        rw [if_neg (fun h => s40 (c40.mp h)), if_neg hc]
        obtain ⟨v', y2, r1, r2, r3⟩ := hs y1 x N' hN hG1 hx h391
        have r1 : fX12_sum 8 y1 = some (v', y2) := r1
        have hgs := smD_g heb dp N' x hx
        have hF2 := hF1.tr r2
        obtain ⟨v, υ, k1, k2, k3⟩ := m_cmS (σ0 := σ) (c := v') hs heb hgs.2 hN hgs.1 hF2 (by
          rcases r3 with ⟨r3, r4, r5⟩ | r3
          · exact .inl ⟨r3, r4, fun hE => r5 (hE.fr hF1)⟩
          · exact .inr r3)
        refine ⟨v, υ, ?_, k2, k3⟩
        unfold fX12_compares
        rw [if_pos rfl, r1, bnd, k1, bnd]
