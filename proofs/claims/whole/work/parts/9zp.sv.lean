/-! what worth and likely change: the four numbers of the habit reader *-/
def SV (σ τ : St) : Prop := (∀ q, q ∈ pA → zA τ q = zA σ q) ∧ (∀ q, q ∈ pB → zB τ q = zB σ q) ∧ (∀ k, k ∈ pI → k ∉ [12, 13, 14, 15] → zI τ k = zI σ k) ∧ zN τ = zN σ ∧ (rOk σ → rOk τ)
def pre4 (σ : St) (a b c d : Int32) : St := uI (uI (uI (uI σ 12 a) 13 b) 14 c) 15 d
theorem SV.of {σ τ : St} (h : SE σ τ) : SV σ τ := ⟨h.1, h.2.1, fun k hk _ => h.2.2.1 k hk, h.2.2.2.1, h.2.2.2.2⟩
theorem SV.tr {σ τ υ : St} (h : SV σ τ) (k : SV τ υ) : SV σ υ :=
  ⟨fun q hq => (k.1 q hq).trans (h.1 q hq), fun q hq => (k.2.1 q hq).trans (h.2.1 q hq), fun q hq hn => (k.2.2.1 q hq hn).trans (h.2.2.1 q hq hn), k.2.2.2.1.trans h.2.2.2.1, fun r => k.2.2.2.2 (h.2.2.2.2 r)⟩
/-- the same as a frame of the old kind, from a state that has the four numbers already -/
theorem SV.se {σ τ : St} (h : SV σ τ) : SE (pre4 σ (zI τ 12) (zI τ 13) (zI τ 14) (zI τ 15)) τ := by
  refine ⟨fun q hq => h.1 q hq, fun q hq => h.2.1 q hq, fun k hk => ?_, h.2.2.2.1, fun r => h.2.2.2.2 r⟩
  unfold pre4
  by_cases e15 : k = 15
  · rw [e15, zI_uI]
  · rw [zI_ne e15]
    by_cases e14 : k = 14
    · rw [e14, zI_uI]
    · rw [zI_ne e14]
      by_cases e13 : k = 13
      · rw [e13, zI_uI]
      · rw [zI_ne e13]
        by_cases e12 : k = 12
        · rw [e12, zI_uI]
        · rw [zI_ne e12]
          refine h.2.2.1 k hk (fun x => ?_)
          simp only [List.mem_cons, List.not_mem_nil, or_false] at x
          omega
theorem sv_fr {σ τ : St} {k : Nat} (f : FR [] [] [9, 10, 12, 13, 14, 15, 16] [] (uR σ 2 k) τ) (hv : k ≠ 45 ∧ k ≠ 46) : SV σ τ :=
  ⟨fun q _ => f.1 q (by intro x; cases x), fun q _ => f.2.1 q (by intro x; cases x), fun q hq hn => f.2.2.1 q (fun x => by
    have hd : ∀ q, q ∈ pI → q ∈ [9, 10, 12, 13, 14, 15, 16] → q ∈ [12, 13, 14, 15] := by decide
    exact hn (hd q hq x)), by
    funext j
    exact f.2.2.2.1 j (by intro x; cases x), fun r j => by
    rw [f.2.2.2.2]
    exact (rOk_uR hv r) j⟩
theorem P22.sv {σ τ : St} (h : SV σ τ) (k : P22 σ) : P22 τ := by
  unfold P22
  rw [h.1 22 (by decide)]
  exact k
theorem HX.sv {σ τ : St} {nh : Nat} {hb : Nat → List Nat} (hn : nh ≤ 4) (h : SV σ τ) (k : HX σ nh hb) : HX τ nh hb :=
  k.fr hn (fun q hq => h.2.1 q (by
    have hd : ∀ q, q ∈ [83, 84, 85, 86] → q ∈ pB := by decide
    exact hd q hq)) (h.1 57 (by decide)) (h.1 58 (by decide))
theorem HI.sv {σ τ : St} {g : Gh} {nh : Nat} (h : SV σ τ) (k : HI σ g nh) : HI τ g nh := by
  unfold HI
  rw [h.2.2.1 11 (by decide) (by decide), h.2.2.1 34 (by decide) (by decide), h.1 24 (by decide), h.1 69 (by decide)]
  exact k
theorem AC.sv {σ τ : St} {c s : Nat} (h : SV σ τ) (k : AC σ c s) : AC τ c s := by
  unfold AC
  rw [h.2.2.2.1]
  exact k
theorem RI.p4 {σ : St} {g : Gh} {lim : Nat} (a b c d : Int32) (k : RI σ g lim) : RI (pre4 σ a b c d) g lim := k
theorem RI.sv {σ τ : St} {g : Gh} {lim : Nat} (h : SV σ τ) (k : RI σ g lim) : RI τ g lim := (k.p4 _ _ _ _).se h.se
theorem TI.p4 {σ : St} {h : Gp} (a b c d : Int32) (k : TI σ h) : TI (pre4 σ a b c d) h := k
theorem TI.sv {σ τ : St} {h : Gp} (e : SV σ τ) (k : TI σ h) : TI τ h := (k.p4 _ _ _ _).se e.se
theorem TP.p4 {σ : St} {bs : List Nat} (a b c d : Int32) (k : TP σ bs) : TP (pre4 σ a b c d) bs := k
theorem TP.sv {σ τ : St} {bs : List Nat} (e : SV σ τ) (k : TP σ bs) : TP τ bs := (k.p4 _ _ _ _).se e.se
theorem PI.p4 {σ : St} {g : Gh} {pl : List Nat} (a b c d : Int32) (k : PI σ g pl) : PI (pre4 σ a b c d) g pl := k
theorem PI.sv {σ τ : St} {g : Gh} {pl : List Nat} (e : SV σ τ) (k : PI σ g pl) : PI τ g pl := (k.p4 _ _ _ _).se e.se
theorem KI.p4 {σ : St} {g : Gh} {pl : List Nat} {kr kp : Nat} (a b c d : Int32) (k : KI σ g pl kr kp) : KI (pre4 σ a b c d) g pl kr kp := k
theorem KI.sv {σ τ : St} {g : Gh} {pl : List Nat} {kr kp : Nat} (e : SV σ τ) (k : KI σ g pl kr kp) : KI τ g pl kr kp := (k.p4 _ _ _ _).se e.se
theorem CH.p4 {σ : St} {g : Gh} {n : Nat} (a b c d : Int32) (k : CH σ g n) : CH (pre4 σ a b c d) g n := k
theorem CH.sv {σ τ : St} {g : Gh} {n : Nat} (e : SV σ τ) (k : CH σ g n) : CH τ g n := (k.p4 _ _ _ _).se e.se
