/-! the last words of cues and speeches, the class's side *-/
def w2o (l : List Wd) : Wd := if 2 ≤ l.length then l.getD (l.length - 2) [] else []
theorem neg12 : (nI 1 - nI 2 : Int32) < 0 := by decide
theorem c_lcw {σ : St} {g : Gh} {s : Nat} (hg : okG g) (hj : JC σ g) (h : vd g s = true) (h1 : 1 ≤ (gC g s).length) : fX7_lastCueWord σ (nI s) = some (lN (enc ((gC g s).getD ((gC g s).length - 1) []))) := by
  unfold fX7_lastCueWord
  rw [c_cw hg hj h, bnd, l1, pI_sub h1, c_cue hg hj h (by omega), bnd]
theorem c_lcw2 {σ : St} {g : Gh} {s : Nat} (hg : okG g) (hj : JC σ g) (h : vd g s = true) (h1 : 1 ≤ (gC g s).length) : fX7_lastCueWordButOne σ (nI s) = some (lN (enc (w2o (gC g s)))) := by
  have hs := vd_lt hg h
  unfold fX7_lastCueWordButOne w2o
  rw [c_cw hg hj h, bnd, l2]
  by_cases h2 : 2 ≤ (gC g s).length
  · rw [if_pos h2, pI_sub h2, c_cue hg hj h (by omega), bnd]
  · have e : (gC g s).length = 1 := by omega
    rw [if_neg h2, e]
    unfold fX7_cueWord
    rw [if_neg (show ¬ nI s < 0 by rw [l0, pF_lt (by omega) (by omega)]; exact fun h => h), l128, if_neg (show ¬ nI 128 ≤ nI s by rw [pF_le (by omega) (by omega)]; exact fun h => h), if_pos neg12, bnd]
    rfl
theorem c_lw {σ : St} {g : Gh} {s : Nat} (hg : okG g) (hj : JC σ g) (h : vd g s = true) (h1 : 1 ≤ (gW g s).length) : fX7_lastWord σ (nI s) = some (lN (enc ((gW g s).getD ((gW g s).length - 1) []))) := by
  unfold fX7_lastWord
  rw [c_ww hg hj h, bnd, l1, pI_sub h1, c_word hg hj h (by omega), bnd]
theorem c_lw2 {σ : St} {g : Gh} {s : Nat} (hg : okG g) (hj : JC σ g) (h : vd g s = true) (h1 : 1 ≤ (gW g s).length) : fX7_lastButOne σ (nI s) = some (lN (enc (w2o (gW g s)))) := by
  have hs := vd_lt hg h
  unfold fX7_lastButOne w2o
  rw [c_ww hg hj h, bnd, l2]
  by_cases h2 : 2 ≤ (gW g s).length
  · rw [if_pos h2, pI_sub h2, c_word hg hj h (by omega), bnd]
  · have e : (gW g s).length = 1 := by omega
    rw [if_neg h2, e]
    unfold fX7_word
    rw [if_neg (show ¬ nI s < 0 by rw [l0, pF_lt (by omega) (by omega)]; exact fun h => h), l128, if_neg (show ¬ nI 128 ≤ nI s by rw [pF_le (by omega) (by omega)]; exact fun h => h), if_pos neg12, bnd]
    rfl
