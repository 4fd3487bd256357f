/-! what holds between two calls -/
theorem PI.sg {σ υ : St} {g : Gh} {gi : List It} {pl : List Nat} (h : SG σ υ) (k : PI σ g pl) : PI υ (gadd g gi) pl := by
  obtain ⟨k1, k2, k3, k4, k5⟩ := k
  obtain ⟨eA, eB, eI, eN, eR, e67, e68, e22⟩ := h
  refine ⟨(eI 26 (by decide) (by decide)).trans k1, (eI 48 (by decide) (by decide)).trans k2, fun i hi => ?_, fun s hs => ?_, fun r hr => ?_⟩
  · rw [eA 47 (by decide) (by decide), eA 78 (by decide) (by decide)]
    exact k3 i hi
  · rw [gadd_vd, k4 s hs, Bool.true_or]
  · have e2 : gS (gadd g gi) r = if r = gN g then gi.length else gS g r := rfl
    rw [e2]
    have hr : r < gN g + 1 := hr
    by_cases e : r = gN g
    · rw [if_pos e, cR_zero k4 (by omega)]
      exact Nat.zero_le _
    · rw [if_neg e]
      exact k5 r (by omega)
theorem KI.sg {σ υ : St} {g : Gh} {gi : List It} {pl : List Nat} {kr kp : Nat} (h : SG σ υ) (k : KI σ g pl kr kp) : KI υ (gadd g gi) pl kr kp := by
  obtain ⟨k1, k2, k3, k4, k5, k6, k7⟩ := k
  obtain ⟨eA, eB, eI, eN, eR, e67, e68, e22⟩ := h
  exact ⟨(eI 0 (by decide) (by decide)).trans k1, (eI 51 (by decide) (by decide)).trans k2, (eI 1 (by decide) (by decide)).trans k3, (eI 52 (by decide) (by decide)).trans k4, Nat.le_succ_of_le k5, k6, k7⟩
def J0 (σ : St) (g : Gh) (p : Gp) (lim nh kr kp : Nat) (bs pl : List Nat) (hb : Nat → List Nat) : Prop := RI σ g lim ∧ TI σ p ∧ TP σ bs ∧ PI σ g pl ∧ HI σ g nh ∧ KI σ g pl kr kp ∧ HX σ nh hb
def J1 (σ : St) (g : Gh) (c cc s : Nat) : Prop := P22 σ ∧ E15 σ ∧ rOk σ ∧ CH σ g c ∧ AC σ cc s
def JV (i : Nat) (σ : St) : Prop := ∃ g p lim nh kr kp bs pl hb c, J0 σ g p lim nh kr kp bs pl hb ∧ J1 σ g c (89 + 3 * i) (733829 + 6 * i) ∧ c ≤ 2 * i
theorem J0.se {σ τ : St} {g : Gh} {p : Gp} {lim nh kr kp : Nat} {bs pl : List Nat} {hb : Nat → List Nat} (h : SE σ τ) (k : J0 σ g p lim nh kr kp bs pl hb) : J0 τ g p lim nh kr kp bs pl hb := by
  obtain ⟨k1, k2, k3, k4, k5, k6, k7⟩ := k
  exact ⟨k1.se h, k2.se h, k3.se h, k4.se h, k5.se h, k6.se h, k7.se k5.1 h⟩
theorem J1.se {σ τ : St} {g : Gh} {c cc s : Nat} (h : SE σ τ) (k : J1 σ g c cc s) : J1 τ g c cc s := by
  obtain ⟨k1, k2, k3, k4, k5⟩ := k
  exact ⟨k1.sf (SF.of h), k2.se h, h.2.2.2.2 k3, k4.se h, k5.se h⟩
theorem J1.more {σ : St} {g : Gh} {c i : Nat} (k : J1 σ g c (89 + 3 * i) (733829 + 6 * i)) : J1 σ g c (89 + 3 * (i + 1)) (733829 + 6 * (i + 1)) := by
  obtain ⟨k1, k2, k3, k4, k5⟩ := k
  exact ⟨k1, k2, k3, k4, k5.more (by omega) (by omega)⟩
theorem J0.sf {σ τ : St} {g : Gh} {p : Gp} {lim nh kr kp : Nat} {bs pl : List Nat} {hb : Nat → List Nat} (h : SF σ τ) (k : J0 σ g p lim nh kr kp bs pl hb) : J0 τ g p lim nh kr kp bs pl hb := by
  obtain ⟨k1, k2, k3, k4, k5, k6, k7⟩ := k
  exact ⟨k1.sf h, k2.sf h, k3.sf h, k4.sf h, k5.sf h, k6.sf h, k7.sf k5.1 h⟩
theorem J1.sf {σ τ : St} {g : Gh} {c cc s : Nat} (h : SF σ τ) (k : J1 σ g c cc s) : J1 τ g c cc s := by
  obtain ⟨k1, k2, k3, k4, k5⟩ := k
  exact ⟨k1.sf h, k2.sf h, h.2.2.2.2.1 k3, k4.sf h, k5.sf h⟩
theorem J0.sv {σ τ : St} {g : Gh} {p : Gp} {lim nh kr kp : Nat} {bs pl : List Nat} {hb : Nat → List Nat} (h : SV σ τ) (k : J0 σ g p lim nh kr kp bs pl hb) : J0 τ g p lim nh kr kp bs pl hb := by
  obtain ⟨k1, k2, k3, k4, k5, k6, k7⟩ := k
  exact ⟨k1.sv h, k2.sv h, k3.sv h, k4.sv h, k5.sv h, k6.sv h, k7.sv k5.1 h⟩
theorem J1.sv {σ τ : St} {g : Gh} {c cc s : Nat} (h : SV σ τ) (he : E15 τ) (k : J1 σ g c cc s) : J1 τ g c cc s := by
  obtain ⟨k1, k2, k3, k4, k5⟩ := k
  exact ⟨k1.sv h, he, h.2.2.2.2 k3, k4.sv h, k5.sv h⟩
theorem J0.of {σ τ : St} {g : Gh} {p : Gp} {lim nh kr kp : Nat} {bs pl : List Nat} {hb : Nat → List Nat} (f : OF σ τ) (k : J0 σ g p lim nh kr kp bs pl hb) : J0 τ g p lim nh kr kp bs pl hb := by
  obtain ⟨k1, k2, k3, k4, k5, k6, k7⟩ := k
  refine ⟨k1.of f, ?_, ?_, ?_, ?_, ?_, ?_⟩
  · unfold TI
    rw [f.2.2.1 28 (by decide), f.2.2.1 33 (by decide), f.1 51 (by decide), f.1 67 (by decide), f.1 50 (by decide), f.1 68 (by decide), f.2.2.1 29 (by decide), f.2.2.1 50 (by decide)]
    exact k2
  · unfold TP
    rw [f.2.2.1 2 (by decide), f.2.2.1 31 (by decide), f.1 11 (by decide), f.1 55 (by decide)]
    exact k3
  · unfold PI
    rw [f.2.2.1 26 (by decide), f.2.2.1 48 (by decide), f.1 47 (by decide), f.1 78 (by decide)]
    exact k4
  · unfold HI
    rw [f.2.2.1 11 (by decide), f.2.2.1 34 (by decide), f.1 24 (by decide), f.1 69 (by decide)]
    exact k5
  · unfold KI
    rw [f.2.2.1 0 (by decide), f.2.2.1 51 (by decide), f.2.2.1 1 (by decide), f.2.2.1 52 (by decide)]
    exact k6
  · exact k7.fr k5.1 (fun q hq => f.2.1 q (by
      have hd : ∀ q, q ∈ [83, 84, 85, 86] → q ∉ [43, 44, 45, 46] := by decide
      exact hd q hq)) (f.1 57 (by decide)) (f.1 58 (by decide))
theorem J1.of {σ τ : St} {g : Gh} {c i : Nat} (f : OF σ τ) (hC : CH τ g c) (hA : AC τ (89 + 3 * i + 2) (733829 + 6 * i)) (k : J1 σ g c (89 + 3 * i) (733829 + 6 * i)) : J1 τ g c (89 + 3 * (i + 1)) (733829 + 6 * (i + 1)) := by
  obtain ⟨k1, k2, k3, k4, k5⟩ := k
  refine ⟨?_, ?_, ?_, hC, hA.more (by omega) (by omega)⟩
  · unfold P22
    rw [f.1 22 (by decide)]
    exact k1
  · unfold E15
    rw [f.2.2.1 12 (by decide), f.2.2.1 13 (by decide), f.2.2.1 14 (by decide), f.2.2.1 15 (by decide)]
    exact k2
  · unfold rOk
    rw [f.2.2.2.2]
    exact k3
theorem JV.se {σ τ : St} {i : Nat} (h : SE σ τ) (k : JV i σ) : JV (i + 1) τ := by
  obtain ⟨g, p, lim, nh, kr, kp, bs, pl, hb, c, a, b, d⟩ := k
  exact ⟨g, p, lim, nh, kr, kp, bs, pl, hb, c, a.se h, (b.se h).more, by omega⟩
theorem JV.sf {σ τ : St} {i : Nat} (h : SF σ τ) (k : JV i σ) : JV (i + 1) τ := by
  obtain ⟨g, p, lim, nh, kr, kp, bs, pl, hb, c, a, b, d⟩ := k
  exact ⟨g, p, lim, nh, kr, kp, bs, pl, hb, c, a.sf h, (b.sf h).more, by omega⟩
theorem JV.sv {σ τ : St} {i : Nat} (h : SV σ τ) (he : E15 τ) (k : JV i σ) : JV (i + 1) τ := by
  obtain ⟨g, p, lim, nh, kr, kp, bs, pl, hb, c, a, b, d⟩ := k
  exact ⟨g, p, lim, nh, kr, kp, bs, pl, hb, c, a.sv h, (b.sv h he).more, by omega⟩
/-- a call whose answers agree, and what holds behind it -/
def Q2 {α : Type} (i : Nat) (cl : Option (α × St)) (m : St → Option (α × St)) : Prop := ∃ r τ υ, cl = some (r, τ) ∧ m τ = some (r, υ) ∧ JV (i + 1) υ
def Q1 {α : Type} (i : Nat) (σ : St) (cl : Option α) (m : St → Option (α × St)) : Prop := ∃ r υ, cl = some r ∧ m σ = some (r, υ) ∧ JV (i + 1) υ
theorem Q1.of {i : Nat} {σ : St} {cl : Option Int32} {m : St → Option (Int32 × St)} (k : JV i σ) (h : B1 σ cl m) : Q1 i σ cl m := by
  obtain ⟨r, υ, h1, h2, h3⟩ := h
  exact ⟨r, υ, h1, h2, k.se h3⟩
theorem Q2.of {i : Nat} {σ : St} {cl : Option (Int32 × St)} {m : St → Option (Int32 × St)} (k : JV i σ) (h : B2 σ cl m) : Q2 i cl m := by
  obtain ⟨r, τ, υ, h1, h2, h3, h4⟩ := h
  exact ⟨r, τ, υ, h1, h3, k.se (h2.tr h4)⟩
theorem Q2.of3 {α : Type} {i : Nat} {σ : St} {g : Gh} {p : Gp} {lim nh kr kp c : Nat} {bs pl : List Nat} {hb : Nat → List Nat} {cl : Option (α × St)} {m : St → Option (α × St)} (a : J0 σ g p lim nh kr kp bs pl hb) (b : J1 σ g c (89 + 3 * i) (733829 + 6 * i)) (d : c ≤ 2 * i) (h : B3 σ g c (89 + 3 * i) (733829 + 6 * i) cl m) : Q2 i cl m := by
  obtain ⟨r, τ, υ, h1, h2, h3, h4, h5, h6⟩ := h
  exact ⟨r, τ, υ, h1, h5, g, p, lim, nh, kr, kp, bs, pl, hb, c, (a.of h2).se h6, (b.of h2 h3 h4).se h6, by omega⟩
