/-! what doesn't hang on the rolls, under the text of a roll -/
theorem TI.sg {σ τ : St} {h : Gp} (e : SG σ τ) (k : TI σ h) : TI τ h := by
  obtain ⟨k1, k2, k3, k4, k5, k6, k7⟩ := k
  obtain ⟨eA, eB, eI, eN, eR, e67, e68, e22⟩ := e
  refine ⟨k1, (eI 28 (by decide) (by decide)).trans k2, (eI 33 (by decide) (by decide)).trans k3, fun p hp => ?_, k5, (eI 29 (by decide) (by decide)).trans k6, (eI 50 (by decide) (by decide)).trans k7⟩
  obtain ⟨a1, a2, a3, a4, a5⟩ := k4 p hp
  refine ⟨a1, a2, ?_, (e67 p (by omega)).trans a4, fun k hk => ?_⟩
  · rw [eA 51 (by decide) (by decide)]
    exact a3
  · obtain ⟨b1, b2, b3, b4⟩ := a5 k hk
    refine ⟨b1, b2, ?_, (e68 _ (by omega)).trans b4⟩
    rw [eA 50 (by decide) (by decide)]
    exact b3
theorem AC.sg {σ υ : St} {c s : Nat} (h : SG σ υ) (k : AC σ c s) : AC υ c s := by
  unfold AC
  rw [h.2.2.2.1]
  exact k
theorem E15.sg {σ υ : St} (h : SG σ υ) (k : E15 σ) : E15 υ := by
  unfold E15
  rw [h.2.2.1 12 (by decide) (by decide), h.2.2.1 13 (by decide) (by decide), h.2.2.1 14 (by decide) (by decide), h.2.2.1 15 (by decide) (by decide)]
  exact k
theorem HX.sg {σ υ : St} {nh : Nat} {hb : Nat → List Nat} (hn : nh ≤ 4) (h : SG σ υ) (k : HX σ nh hb) : HX υ nh hb :=
  k.fr hn (fun q hq => by
    have hd : ∀ q, q ∈ [83, 84, 85, 86] → q ∈ pB ∧ q ∉ [26, 28] := by decide
    exact h.2.1 q (hd q hq).1 (hd q hq).2) (h.1 57 (by decide) (by decide)) (h.1 58 (by decide) (by decide))
