/-! the other invariants under the text of a plot and of a habit -/
def preP (σ υ : St) : St := uI (uI (uI (uI (uA (uA (uA (uA σ 50 (zA υ 50)) 51 (zA υ 51)) 67 (zA υ 67)) 68 (zA υ 68)) 2 (zI υ 2)) 28 (zI υ 28)) 31 (zI υ 31)) 33 (zI υ 33)
theorem SGp.sf {σ υ : St} (h : SGp σ υ) : SF (preP σ υ) υ := by
  obtain ⟨hA, hB, hI, hN, hR, e60, e61, e62, e63, e64, e65, e66, h22⟩ := h
  refine ⟨fun q hq hn => ?_, fun q hq => hB q hq, fun k hk => ?_, hN, fun r => hR r, e60, e61, e62, e63, e64, e65, e66, fun j _ => rfl, fun j _ => rfl, h22⟩
  · simp only [List.mem_cons, List.not_mem_nil, or_false] at hn
    show _ = zA (uA (uA (uA (uA σ 50 (zA υ 50)) 51 (zA υ 51)) 67 (zA υ 67)) 68 (zA υ 68)) q
    rw [zA_ne (show q ≠ 68 by omega), zA_ne (show q ≠ 67 by omega)]
    by_cases c1 : q = 51
    · rw [c1, zA_uA]
    · rw [zA_ne c1]
      by_cases c2 : q = 50
      · rw [c2, zA_uA]
      · rw [zA_ne c2]
        refine hA q hq (fun x => ?_)
        simp only [List.mem_cons, List.not_mem_nil, or_false] at x
        omega
  · unfold preP
    by_cases c1 : k = 33
    · rw [c1, zI_uI]
    · rw [zI_ne c1]
      by_cases c2 : k = 31
      · rw [c2, zI_uI]
      · rw [zI_ne c2]
        by_cases c3 : k = 28
        · rw [c3, zI_uI]
        · rw [zI_ne c3]
          by_cases c4 : k = 2
          · rw [c4, zI_uI]
          · rw [zI_ne c4]
            refine hI k hk (fun x => ?_)
            simp only [List.mem_cons, List.not_mem_nil, or_false] at x
            omega
theorem RI.pp {σ υ : St} {g : Gh} {lim : Nat} (k : RI σ g lim) : RI (preP σ υ) g lim := k
theorem RI.sgp {σ υ : St} {g : Gh} {lim : Nat} (h : SGp σ υ) (k : RI σ g lim) : RI υ g lim := k.pp.sf h.sf
theorem PI.pp {σ υ : St} {g : Gh} {pl : List Nat} (k : PI σ g pl) : PI (preP σ υ) g pl := k
theorem PI.sgp {σ υ : St} {g : Gh} {pl : List Nat} (h : SGp σ υ) (k : PI σ g pl) : PI υ g pl := k.pp.sf h.sf
theorem KI.pp {σ υ : St} {g : Gh} {pl : List Nat} {kr kp : Nat} (k : KI σ g pl kr kp) : KI (preP σ υ) g pl kr kp := k
theorem KI.sgp {σ υ : St} {g : Gh} {pl : List Nat} {kr kp : Nat} (h : SGp σ υ) (k : KI σ g pl kr kp) : KI υ g pl kr kp := k.pp.sf h.sf
theorem HI.pp {σ υ : St} {g : Gh} {nh : Nat} (k : HI σ g nh) : HI (preP σ υ) g nh := k
theorem HI.sgp {σ υ : St} {g : Gh} {nh : Nat} (h : SGp σ υ) (k : HI σ g nh) : HI υ g nh := k.pp.sf h.sf
theorem CH.pp {σ υ : St} {g : Gh} {c : Nat} (k : CH σ g c) : CH (preP σ υ) g c := k
theorem CH.sgp {σ υ : St} {g : Gh} {c : Nat} (h : SGp σ υ) (k : CH σ g c) : CH υ g c := k.pp.sf h.sf
theorem AC.sgp {σ υ : St} {c s : Nat} (h : SGp σ υ) (k : AC σ c s) : AC υ c s := by
  unfold AC
  rw [h.2.2.2.1]
  exact k
theorem E15.pp {σ υ : St} (k : E15 σ) : E15 (preP σ υ) := k
theorem E15.sgp {σ υ : St} (h : SGp σ υ) (k : E15 σ) : E15 υ := k.pp.sf h.sf
theorem HX.sgp {σ υ : St} {nh : Nat} {hb : Nat → List Nat} (hn : nh ≤ 4) (h : SGp σ υ) (k : HX σ nh hb) : HX υ nh hb :=
  k.fr hn (fun q hq => h.2.1 q (by
    have hd : ∀ q, q ∈ [83, 84, 85, 86] → q ∈ pB := by decide
    exact hd q hq)) (h.1 57 (by decide) (by decide)) (h.1 58 (by decide) (by decide))
def preH (σ υ : St) : St := uI (uI (uI (uI (uB (uB (uB (uB (uA (uA σ 57 (zA υ 57)) 58 (zA υ 58)) 83 (zB υ 83)) 84 (zB υ 84)) 85 (zB υ 85)) 86 (zB υ 86)) 2 (zI υ 2)) 11 (zI υ 11)) 31 (zI υ 31)) 34 (zI υ 34)
theorem SGh.sf {σ υ : St} (h : SGh σ υ) : SF (preH σ υ) υ := by
  obtain ⟨hA, hB, hI, hN, hR, e60, e61, e62, e63, e64, e65, e66, e67, e68, h22⟩ := h
  refine ⟨fun q hq hn => ?_, fun q hq => ?_, fun k hk => ?_, hN, fun r => hR r, e60, e61, e62, e63, e64, e65, e66, e67, e68, h22⟩
  · simp only [List.mem_cons, List.not_mem_nil, or_false] at hn
    show _ = zA (uA (uA σ 57 (zA υ 57)) 58 (zA υ 58)) q
    by_cases c1 : q = 58
    · rw [c1, zA_uA]
    · rw [zA_ne c1]
      by_cases c2 : q = 57
      · rw [c2, zA_uA]
      · rw [zA_ne c2]
        refine hA q hq (fun x => ?_)
        simp only [List.mem_cons, List.not_mem_nil, or_false] at x
        omega
  · show _ = zB (uB (uB (uB (uB σ 83 (zB υ 83)) 84 (zB υ 84)) 85 (zB υ 85)) 86 (zB υ 86)) q
    by_cases c1 : q = 86
    · rw [c1, zB_uB]
    · rw [zB_ne c1]
      by_cases c2 : q = 85
      · rw [c2, zB_uB]
      · rw [zB_ne c2]
        by_cases c3 : q = 84
        · rw [c3, zB_uB]
        · rw [zB_ne c3]
          by_cases c4 : q = 83
          · rw [c4, zB_uB]
          · rw [zB_ne c4]
            refine hB q hq (fun x => ?_)
            simp only [List.mem_cons, List.not_mem_nil, or_false] at x
            omega
  · unfold preH
    by_cases c1 : k = 34
    · rw [c1, zI_uI]
    · rw [zI_ne c1]
      by_cases c2 : k = 31
      · rw [c2, zI_uI]
      · rw [zI_ne c2]
        by_cases c3 : k = 11
        · rw [c3, zI_uI]
        · rw [zI_ne c3]
          by_cases c4 : k = 2
          · rw [c4, zI_uI]
          · rw [zI_ne c4]
            refine hI k hk (fun x => ?_)
            simp only [List.mem_cons, List.not_mem_nil, or_false] at x
            omega
theorem RI.ph {σ υ : St} {g : Gh} {lim : Nat} (k : RI σ g lim) : RI (preH σ υ) g lim := k
theorem RI.sgh {σ υ : St} {g : Gh} {lim : Nat} (h : SGh σ υ) (k : RI σ g lim) : RI υ g lim := k.ph.sf h.sf
theorem TI.ph {σ υ : St} {p : Gp} (k : TI σ p) : TI (preH σ υ) p := k
theorem TI.sgh {σ υ : St} {p : Gp} (h : SGh σ υ) (k : TI σ p) : TI υ p := k.ph.sf h.sf
theorem PI.ph {σ υ : St} {g : Gh} {pl : List Nat} (k : PI σ g pl) : PI (preH σ υ) g pl := k
theorem PI.sgh {σ υ : St} {g : Gh} {pl : List Nat} (h : SGh σ υ) (k : PI σ g pl) : PI υ g pl := k.ph.sf h.sf
theorem KI.ph {σ υ : St} {g : Gh} {pl : List Nat} {kr kp : Nat} (k : KI σ g pl kr kp) : KI (preH σ υ) g pl kr kp := k
theorem KI.sgh {σ υ : St} {g : Gh} {pl : List Nat} {kr kp : Nat} (h : SGh σ υ) (k : KI σ g pl kr kp) : KI υ g pl kr kp := k.ph.sf h.sf
theorem CH.ph {σ υ : St} {g : Gh} {c : Nat} (k : CH σ g c) : CH (preH σ υ) g c := k
theorem CH.sgh {σ υ : St} {g : Gh} {c : Nat} (h : SGh σ υ) (k : CH σ g c) : CH υ g c := k.ph.sf h.sf
theorem AC.sgh {σ υ : St} {c s : Nat} (h : SGh σ υ) (k : AC σ c s) : AC υ c s := by
  unfold AC
  rw [h.2.2.2.1]
  exact k
theorem E15.ph {σ υ : St} (k : E15 σ) : E15 (preH σ υ) := k
theorem E15.sgh {σ υ : St} (h : SGh σ υ) (k : E15 σ) : E15 υ := k.ph.sf h.sf
