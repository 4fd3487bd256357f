/-! the tape: feed, end -/
def bt8 (x : Int32) (i : Nat) : Nat := x.toBitVec.toNat / 2 ^ (24 - 8 * i) % 256
theorem bt8_lt (x : Int32) (i : Nat) : bt8 x i < 256 := Nat.mod_lt _ (by decide)
def sh (i : Nat) : Int32 := if i < 4 then nI (24 - 8 * i) else -8
theorem sh_next : ∀ {i : Nat}, i < 4 → sh i + (-8) = sh (i + 1) := by decide
theorem sh_pos : ∀ {i : Nat}, i < 4 → ¬ sh i < 0 := by decide
theorem sh_c : ∀ i, i < 4 → (((sh i).toUInt32 &&& Int32.toUInt32 31).toBitVec % 32).toNat = 24 - 8 * i := by decide
theorem cby (x : Int32) {i : Nat} (hi : i < 4) : ushr32 x (sh i) &&& 255 = nI (bt8 x i) := by
  have h := pk_and (ushr32 x (sh i)) 8 (m := 255) (by decide)
  rw [h]
  unfold bt8
  congr 2
  exact pk_ushr x (sh i) (24 - 8 * i) (sh_c i hi)
theorem mby (x : Int32) {i : Nat} (hi : i < 4) : (x >>> (sh i &&& 31)) &&& 255 = ushr32 x (sh i) &&& 255 := by
  have e : sh i = nI (24 - 8 * i) := if_pos hi
  rw [e]
  apply b_ext
  intro j hj
  rw [b_and, b_and, b_255]
  by_cases h8 : j < 8
  · unfold ushr32
    rw [b_sshr _ (by omega) x hj, b_ushr _ (by omega), if_pos (by omega)]
  · rw [decide_eq_false h8, Bool.and_false, Bool.and_false]
def blF (x : Int32) (i : Nat) : Option Nat := if bt8 x i = 0 then none else some (bt8 x i)
def bl (x : Int32) : List Nat := (List.range 4).filterMap (blF x)
def sbv (b : Nat) : Int32 := (nI b).toInt8.toInt32
def hB (f : Nat → Int32) (bs : List Nat) : Prop := ∀ j, j < bs.length → f j = sbv (bs.getD j 0)
theorem hB_snoc {f : Nat → Int32} {bs : List Nat} {b : Nat} (h : hB f bs) : hB (upd f bs.length (sbv b)) (bs ++ [b]) := by
  intro j hj
  rw [List.length_append, List.length_singleton] at hj
  by_cases e : j = bs.length
  · rw [e, pk_us, getD_snoc_eq]
  · rw [pk_un e, getD_snoc_lt (by omega)]
    exact h j (by omega)
theorem bl_len (x : Int32) : (bl x).length ≤ 4 := Nat.le_trans (List.length_filterMap_le _ _) (by rw [List.length_range]; exact Nat.le_refl 4)
theorem bl_mem {x : Int32} {b : Nat} (h : b ∈ bl x) : 1 ≤ b ∧ b < 256 := by
  unfold bl at h
  rw [List.mem_filterMap] at h
  obtain ⟨i, _, hi⟩ := h
  unfold blF at hi
  split at hi
  · cases hi
  · cases hi
    have := bt8_lt x i
    omega
theorem c_told (x : Int32) : fX9_told x = some (nI (bl x).length) := by
  unfold fX9_told
  have key := it_for (β := Nat) (body := fun (kb : (Int32 × Int32) → Option Int32) (t : Int32 × Int32) => fX9_told_L5 x (fun v1 v2 => kb (v1, v2)) t.1 t.2) 4 (by omega) (fun i a => (nI a, sh i)) (fun i a => a ≤ i) (fun i a z => z = some (nI (a + (((List.range 4).drop i).filterMap (blF x)).length))) ?_ 0 0 (Nat.zero_le _) (Nat.le_refl _)
  · rw [Nat.zero_add] at key
    exact key
  · intro i a hi ha kb hkb
    show fX9_told_L5 _ _ (nI a) (sh i) = _
    unfold fX9_told_L5
    by_cases hi4 : i = 4
    · subst hi4
      rw [if_pos (show sh 4 < 0 by decide)]
      rfl
    · have hby := cby x (i := i) (by omega)
      have hlt := bt8_lt x i
      rw [if_neg (sh_pos (by omega)), hby, rng_drop (by omega), List.filterMap_cons, sh_next (by omega)]
      by_cases h0 : bt8 x i = 0
      · have hF : blF x i = none := if_pos h0
        rw [hF, if_pos (by rw [h0]; rfl)]
        exact hkb a (by omega) (by omega)
      · have hF : blF x i = some (bt8 x i) := if_neg h0
        have e0 : ¬ (nI (bt8 x i) = (0 : Int32)) := fun e => h0 ((nI_eq (b := 0) (by omega) (by omega)).mp e)
        rw [hF, if_neg e0, l1, nI_add]
        refine (hkb (a + 1) (by omega) (by omega)).trans ?_
        simp only [List.length_cons]
        congr 2
        omega
theorem m_bytes (x : Int32) : fX12_bytesIn x = some (nI (bl x).length) := by
  unfold fX12_bytesIn
  have key := it_for (β := Nat) (body := fun (kb : (Int32 × Int32) → Option Int32) (t : Int32 × Int32) => fX12_bytesIn_L5 x (fun v1 v2 => kb (v1, v2)) t.1 t.2) 4 (by omega) (fun i a => (nI a, sh i)) (fun i a => a ≤ i) (fun i a z => z = some (nI (a + (((List.range 4).drop i).filterMap (blF x)).length))) ?_ 0 0 (Nat.zero_le _) (Nat.le_refl _)
  · rw [Nat.zero_add] at key
    exact key
  · intro i a hi ha kb hkb
    show fX12_bytesIn_L5 _ _ (nI a) (sh i) = _
    unfold fX12_bytesIn_L5
    by_cases hi4 : i = 4
    · subst hi4
      rw [if_pos (show sh 4 < 0 by decide)]
      rfl
    · have hby := cby x (i := i) (by omega)
      have hlt := bt8_lt x i
      rw [if_neg (sh_pos (by omega)), mby x (by omega), hby, rng_drop (by omega), List.filterMap_cons, sh_next (by omega)]
      by_cases h0 : bt8 x i = 0
      · have hF : blF x i = none := if_pos h0
        rw [hF, if_pos (by rw [h0]; rfl), bnd, l0, nI_add]
        exact hkb a (by omega) (by omega)
      · have hF : blF x i = some (bt8 x i) := if_neg h0
        have e0 : ¬ (nI (bt8 x i) = (0 : Int32)) := fun e => h0 ((nI_eq (b := 0) (by omega) (by omega)).mp e)
        rw [hF, if_neg e0, bnd, l1, nI_add]
        refine (hkb (a + 1) (by omega) (by omega)).trans ?_
        simp only [List.length_cons]
        congr 2
        omega
theorem c_put (σ : St) (x : Int32) (bs : List Nat) (f : Nat → Int32) (hf : hB f bs) (hl : bs.length + (bl x).length ≤ 200) : ∃ f', fX9_put (mo σ 11 2 f bs.length) x = some (mo σ 11 2 f' (bs ++ bl x).length) ∧ hB f' (bs ++ bl x) := by
  have key := it_for (β := (Nat → Int32) × List Nat) (body := fun (kb : (St × Int32) → Option St) (t : St × Int32) => fX9_put_L3 x (fun σ v2 => kb (σ, v2)) t.1 t.2) 4 (by omega) (fun i b => (mo σ 11 2 b.1 b.2.length, sh i)) (fun i b => hB b.1 b.2 ∧ b.2 ++ ((List.range 4).drop i).filterMap (blF x) = bs ++ bl x) (fun i b z => ∃ f', z = some (mo σ 11 2 f' (bs ++ bl x).length) ∧ hB f' (bs ++ bl x)) ?_ 0 (f, bs) (Nat.zero_le _) ⟨hf, rfl⟩
  · exact key
  · rintro i ⟨g, cs⟩ hi ⟨hg, hc⟩ kb hkb
    have hg : hB g cs := hg
    have hc : cs ++ ((List.range 4).drop i).filterMap (blF x) = bs ++ bl x := hc
    have hcl := congrArg List.length hc
    rw [List.length_append, List.length_append] at hcl
    show ∃ f', fX9_put_L3 _ _ (mo σ 11 2 g cs.length) (sh i) = _ ∧ _
    unfold fX9_put_L3
    have e2 : zI (mo σ 11 2 g cs.length) 2 = nI cs.length := rfl
    have e11 : zA (mo σ 11 2 g cs.length) 11 = g := rfl
    by_cases hi4 : i = 4
    · subst hi4
      have e1 : (List.range 4).drop 4 = [] := rfl
      rw [e1, List.filterMap_nil, List.append_nil] at hc
      subst hc
      refine ⟨g, ?_, hg⟩
      rw [if_pos (show sh 4 < 0 by decide)]
    · have hs0 : ¬ sh i < 0 := sh_pos (by omega)
      have hsn := sh_next (i := i) (by omega)
      rw [rng_drop (by omega), List.filterMap_cons] at hc hcl
      have hby := cby x (i := i) (by omega)
      have hlt := bt8_lt x i
      rw [if_neg hs0, bnd, hby]
      by_cases h0 : bt8 x i = 0
      · have hF : blF x i = none := if_pos h0
        rw [hF] at hc
        have nx := hkb (g, cs) (by omega) ⟨hg, hc⟩
        rw [h0]
        have e0 : (nI 0 = (0 : Int32)) = True := eq_true rfl
        simp only [e0, if_true]
        rw [hsn]
        exact nx
      · have hF : blF x i = some (bt8 x i) := if_neg h0
        rw [hF] at hc hcl
        rw [List.length_cons] at hcl
        have hcs : cs.length < 200 := by omega
        have nx := hkb (upd g cs.length (sbv (bt8 x i)), cs ++ [bt8 x i]) (by omega) ⟨hB_snoc hg, by
          show (cs ++ [bt8 x i]) ++ _ = _
          rw [List.append_assoc, List.singleton_append]
          exact hc⟩
        have e0 : (nI (bt8 x i) = (0 : Int32)) = False := pF_eq (b := 0) h0 (by omega) (by omega)
        have e3 : (nI cs.length < (0 : Int32)) = False := neg_nI (by omega)
        have e4 : ((200 : Int32) ≤ nI cs.length) = False := pF_le (b := cs.length) (a := 200) (by omega) (by omega)
        have e5 : vp_nar .byte ((nI (bt8 x i)).toInt8.toInt32) = sbv (bt8 x i) := pk_vb _
        simp only [e0, if_false, e2, e3, e4, e11, e5, cl_nI (show cs.length < 2147483648 by omega), wr_nI hcs (show cs.length < 2147483648 by omega), bnd]
        rw [hsn]
        have hst : uI (uA (mo σ 11 2 g cs.length) 11 (upd g cs.length (sbv (bt8 x i)))) 2 (zI (uA (mo σ 11 2 g cs.length) 11 (upd g cs.length (sbv (bt8 x i)))) 2 + 1) = mo σ 11 2 (upd g cs.length (sbv (bt8 x i))) (cs ++ [bt8 x i]).length := by
          rw [zI_uA, e2, l1, nI_add, List.length_append, List.length_singleton]
          exact mo_mo σ 11 2 _ _ _ _
        rw [hst]
        exact nx
theorem m_put (σ : St) (x : Int32) (bs : List Nat) (f : Nat → Int32) (hf : hB f bs) (hl : bs.length + (bl x).length ≤ 200) : ∃ f', fX12_put (mo σ 55 31 f bs.length) x = some (mo σ 55 31 f' (bs ++ bl x).length) ∧ hB f' (bs ++ bl x) := by
  have key := it_for (β := (Nat → Int32) × List Nat) (body := fun (kb : (St × Int32) → Option St) (t : St × Int32) => fX12_put_L3 x (fun σ v2 => kb (σ, v2)) t.1 t.2) 4 (by omega) (fun i b => (mo σ 55 31 b.1 b.2.length, sh i)) (fun i b => hB b.1 b.2 ∧ b.2 ++ ((List.range 4).drop i).filterMap (blF x) = bs ++ bl x) (fun i b z => ∃ f', z = some (mo σ 55 31 f' (bs ++ bl x).length) ∧ hB f' (bs ++ bl x)) ?_ 0 (f, bs) (Nat.zero_le _) ⟨hf, rfl⟩
  · exact key
  · rintro i ⟨g, cs⟩ hi ⟨hg, hc⟩ kb hkb
    have hg : hB g cs := hg
    have hc : cs ++ ((List.range 4).drop i).filterMap (blF x) = bs ++ bl x := hc
    have hcl := congrArg List.length hc
    rw [List.length_append, List.length_append] at hcl
    show ∃ f', fX12_put_L3 _ _ (mo σ 55 31 g cs.length) (sh i) = _ ∧ _
    unfold fX12_put_L3
    have e2 : zI (mo σ 55 31 g cs.length) 31 = nI cs.length := rfl
    have e11 : zA (mo σ 55 31 g cs.length) 55 = g := rfl
    by_cases hi4 : i = 4
    · subst hi4
      have e1 : (List.range 4).drop 4 = [] := rfl
      rw [e1, List.filterMap_nil, List.append_nil] at hc
      subst hc
      refine ⟨g, ?_, hg⟩
      rw [if_pos (show sh 4 < 0 by decide)]
    · have hs0 : ¬ sh i < 0 := sh_pos (by omega)
      have hsn := sh_next (i := i) (by omega)
      rw [rng_drop (by omega), List.filterMap_cons] at hc hcl
      have hby := cby x (i := i) (by omega)
      have hlt := bt8_lt x i
      rw [if_neg hs0, mby x (by omega), hby]
      by_cases h0 : bt8 x i = 0
      · have hF : blF x i = none := if_pos h0
        rw [hF] at hc
        have nx := hkb (g, cs) (by omega) ⟨hg, hc⟩
        rw [h0]
        have e0 : (nI 0 = (0 : Int32)) = True := eq_true rfl
        simp only [e0, if_true]
        rw [hsn]
        exact nx
      · have hF : blF x i = some (bt8 x i) := if_neg h0
        rw [hF] at hc hcl
        rw [List.length_cons] at hcl
        have hcs : cs.length < 200 := by omega
        have nx := hkb (upd g cs.length (sbv (bt8 x i)), cs ++ [bt8 x i]) (by omega) ⟨hB_snoc hg, by
          show (cs ++ [bt8 x i]) ++ _ = _
          rw [List.append_assoc, List.singleton_append]
          exact hc⟩
        have e0 : (nI (bt8 x i) = (0 : Int32)) = False := pF_eq (b := 0) h0 (by omega) (by omega)
        have e5 : vp_nar .byte ((x >>> (sh i &&& 31)).toInt8.toInt32) = sbv (bt8 x i) := by
          rw [pk_vb, ← fa_byte_low, mby x (by omega), hby]
          rfl
        simp only [e0, if_false, e2, e11, e5, cl_nI (show cs.length < 2147483648 by omega), wr_nI hcs (show cs.length < 2147483648 by omega), bnd]
        rw [hsn]
        have hst : uI (uA (mo σ 55 31 g cs.length) 55 (upd g cs.length (sbv (bt8 x i)))) 31 (zI (uA (mo σ 55 31 g cs.length) 55 (upd g cs.length (sbv (bt8 x i)))) 31 + 1) = mo σ 55 31 (upd g cs.length (sbv (bt8 x i))) (cs ++ [bt8 x i]).length := by
          rw [zI_uA, e2, l1, nI_add, List.length_append, List.length_singleton]
          exact mo_mo σ 55 31 _ _ _ _
        rw [hst]
        exact nx
/-- the tape, on both sides -/
def TP (σ : St) (bs : List Nat) : Prop := bs.length ≤ 200 ∧ (∀ b, b ∈ bs → 1 ≤ b ∧ b < 256) ∧ zI σ 2 = nI bs.length ∧ zI σ 31 = nI bs.length ∧ hB (zA σ 11) bs ∧ hB (zA σ 55) bs
theorem TP.se {σ τ : St} {bs : List Nat} (h : SE σ τ) (k : TP σ bs) : TP τ bs := by
  unfold TP
  rw [h.i 2 (by decide), h.i 31 (by decide), h.a 11 (by decide), h.a 55 (by decide)]
  exact k
theorem mo_self (σ : St) (q k n : Nat) (h : zI σ k = nI n) : mo σ q k (zA σ q) n = σ := by
  unfold mo
  rw [uA_self, ← h]
  unfold uI zI
  have : va_up σ.1 k (σ.1 k) = σ.1 := by
    funext j
    unfold va_up
    split
    · rename_i e; rw [e]
    · rfl
  rw [this]
theorem t_feed {σ : St} {bs : List Nat} (h : TP σ bs) (a b c d e : Int32) : (∃ υ, fX11_feed σ a b c d e = some (mI, σ) ∧ fX12_feed σ a b c d e = some (mI, υ) ∧ SE σ υ) ∨ ∃ r τ f f' cs, fX11_feed σ a b c d e = some (r, τ) ∧ fX12_feed τ a b c d e = some (r, mo (uI (mo σ 11 2 f cs.length) 30 (nI 0)) 55 31 f' cs.length) ∧ TP (mo (uI (mo σ 11 2 f cs.length) 30 (nI 0)) 55 31 f' cs.length) cs := by
  obtain ⟨h200, hby, h2, h31, h11, h55⟩ := h
  have l1' := bl_len a
  have l2' := bl_len b
  have l3' := bl_len c
  have l4' := bl_len d
  have l5' := bl_len e
  by_cases hfit : bs.length + ((bl a).length + (bl b).length + (bl c).length + (bl d).length + (bl e).length) ≤ 200
  · refine Or.inr ?_
    have hs0 : mo σ 11 2 (zA σ 11) bs.length = σ := mo_self σ 11 2 _ h2
    obtain ⟨f1, p1, q1⟩ := c_put σ a bs (zA σ 11) h11 (by omega)
    obtain ⟨f2, p2, q2⟩ := c_put σ b (bs ++ bl a) f1 q1 (by rw [List.length_append]; omega)
    obtain ⟨f3, p3, q3⟩ := c_put σ c (bs ++ bl a ++ bl b) f2 q2 (by simp only [List.length_append]; omega)
    obtain ⟨f4, p4, q4⟩ := c_put σ d (bs ++ bl a ++ bl b ++ bl c) f3 q3 (by simp only [List.length_append]; omega)
    obtain ⟨f5, p5, q5⟩ := c_put σ e (bs ++ bl a ++ bl b ++ bl c ++ bl d) f4 q4 (by simp only [List.length_append]; omega)
    rw [hs0] at p1
    obtain ⟨τ1, hτ1⟩ : ∃ τ1, τ1 = uI (mo σ 11 2 f5 (bs ++ bl a ++ bl b ++ bl c ++ bl d ++ bl e).length) 30 (nI 0) := ⟨_, rfl⟩
    have h31' : zI τ1 31 = nI bs.length := by rw [hτ1]; exact h31
    have h55' : hB (zA τ1 55) bs := by rw [hτ1]; exact h55
    have hs1 : mo τ1 55 31 (zA τ1 55) bs.length = τ1 := mo_self τ1 55 31 _ h31'
    obtain ⟨g1, r1, s1⟩ := m_put τ1 a bs (zA τ1 55) h55' (by omega)
    obtain ⟨g2, r2, s2⟩ := m_put τ1 b (bs ++ bl a) g1 s1 (by rw [List.length_append]; omega)
    obtain ⟨g3, r3, s3⟩ := m_put τ1 c (bs ++ bl a ++ bl b) g2 s2 (by simp only [List.length_append]; omega)
    obtain ⟨g4, r4, s4⟩ := m_put τ1 d (bs ++ bl a ++ bl b ++ bl c) g3 s3 (by simp only [List.length_append]; omega)
    obtain ⟨g5, r5, s5⟩ := m_put τ1 e (bs ++ bl a ++ bl b ++ bl c ++ bl d) g4 s4 (by simp only [List.length_append]; omega)
    rw [hs1] at r1
    have hlen : (bs ++ bl a ++ bl b ++ bl c ++ bl d ++ bl e).length ≤ 200 := by simp only [List.length_append]; omega
    have hz2 : zI (mo σ 11 2 f5 (bs ++ bl a ++ bl b ++ bl c ++ bl d ++ bl e).length) 2 = nI (bs ++ bl a ++ bl b ++ bl c ++ bl d ++ bl e).length := rfl
    have hz31 : zI (mo τ1 55 31 g5 (bs ++ bl a ++ bl b ++ bl c ++ bl d ++ bl e).length) 31 = nI (bs ++ bl a ++ bl b ++ bl c ++ bl d ++ bl e).length := rfl
    refine ⟨nI (bs ++ bl a ++ bl b ++ bl c ++ bl d ++ bl e).length, mo σ 11 2 f5 (bs ++ bl a ++ bl b ++ bl c ++ bl d ++ bl e).length, f5, g5, bs ++ bl a ++ bl b ++ bl c ++ bl d ++ bl e, ?_, ?_, ?_⟩
    · unfold fX11_feed fX9_size
      simp (disch := omega) only [l0, l1, l2, l3, l4, l5, l6, l7, l8, l9, l10, l11, l12, l16, l18, l19, l20, l21, l24, l96, l128, l100, l144, l200, l256, l288, l1536, l1728, l1800, bnd, nI_add, pk_mul, pI_sub, pI_m1, pT_le, pF_le, pT_lt, pF_lt, pT_eq, pF_eq, pF_m1, mF_eq, mT_eq, mT_lt, mF_le, lm1, rd_nI, wr_nI, cl_nI, pk_us, un_ne, pk_uLs, uL_ne, zI_uI, zI_uJ, zI_uA, zI_uB, zI_uR, zI_uN, zJ_uI, zJ_uJ, zJ_uA, zJ_uB, zJ_uR, zJ_uN, zA_uI, zA_uJ, zA_uA, zA_uB, zA_uR, zA_uN, zB_uI, zB_uJ, zB_uA, zB_uB, zB_uR, zB_uN, zR_uI, zR_uJ, zR_uA, zR_uB, zR_uR, zR_uN, zN_uI, zN_uJ, zN_uA, zN_uB, zN_uR, zN_uN, zI_ne, zJ_ne, zA_ne, zB_ne, zR_ne, zN_ne, bi_T, bi_F, nz16, ↓reduceIte, not_true_eq_false, not_false_eq_true, Bool.false_eq_true, reduceCtorEq, c_told, h2]
      rw [p1, bnd, p2, bnd, p3, bnd, p4, bnd, p5, bnd, hz2]
    · unfold fX12_feed
      simp (disch := omega) only [l0, l1, l2, l3, l4, l5, l6, l7, l8, l9, l10, l11, l12, l16, l18, l19, l20, l21, l24, l96, l128, l100, l144, l200, l256, l288, l1536, l1728, l1800, bnd, nI_add, pk_mul, pI_sub, pI_m1, pT_le, pF_le, pT_lt, pF_lt, pT_eq, pF_eq, pF_m1, mF_eq, mT_eq, mT_lt, mF_le, lm1, rd_nI, wr_nI, cl_nI, pk_us, un_ne, pk_uLs, uL_ne, zI_uI, zI_uJ, zI_uA, zI_uB, zI_uR, zI_uN, zJ_uI, zJ_uJ, zJ_uA, zJ_uB, zJ_uR, zJ_uN, zA_uI, zA_uJ, zA_uA, zA_uB, zA_uR, zA_uN, zB_uI, zB_uJ, zB_uA, zB_uB, zB_uR, zB_uN, zR_uI, zR_uJ, zR_uA, zR_uB, zR_uR, zR_uN, zN_uI, zN_uJ, zN_uA, zN_uB, zN_uR, zN_uN, zI_ne, zJ_ne, zA_ne, zB_ne, zR_ne, zN_ne, bi_T, bi_F, nz16, ↓reduceIte, not_true_eq_false, not_false_eq_true, Bool.false_eq_true, reduceCtorEq, m_bytes]
      have hz31o : zI (mo σ 11 2 f5 (bs ++ bl a ++ bl b ++ bl c ++ bl d ++ bl e).length) 31 = nI bs.length := h31
      rw [← hτ1, hz31o]
      simp (disch := omega) only [l0, l1, l2, l3, l4, l5, l6, l7, l8, l9, l10, l11, l12, l16, l18, l19, l20, l21, l24, l96, l128, l100, l144, l200, l256, l288, l1536, l1728, l1800, bnd, nI_add, pk_mul, pI_sub, pI_m1, pT_le, pF_le, pT_lt, pF_lt, pT_eq, pF_eq, pF_m1, mF_eq, mT_eq, mT_lt, mF_le, lm1, rd_nI, wr_nI, cl_nI, pk_us, un_ne, pk_uLs, uL_ne, zI_uI, zI_uJ, zI_uA, zI_uB, zI_uR, zI_uN, zJ_uI, zJ_uJ, zJ_uA, zJ_uB, zJ_uR, zJ_uN, zA_uI, zA_uJ, zA_uA, zA_uB, zA_uR, zA_uN, zB_uI, zB_uJ, zB_uA, zB_uB, zB_uR, zB_uN, zR_uI, zR_uJ, zR_uA, zR_uB, zR_uR, zR_uN, zN_uI, zN_uJ, zN_uA, zN_uB, zN_uR, zN_uN, zI_ne, zJ_ne, zA_ne, zB_ne, zR_ne, zN_ne, bi_T, bi_F, nz16, ↓reduceIte, not_true_eq_false, not_false_eq_true, Bool.false_eq_true, reduceCtorEq]
      rw [r1, bnd, r2, bnd, r3, bnd, r4, bnd, r5, bnd, hz31]
    · rw [← hτ1]
      refine ⟨hlen, ?_, ?_, rfl, ?_, s5⟩
      · intro y hy
        simp only [List.mem_append] at hy
        rcases hy with ((((hy | hy) | hy) | hy) | hy) | hy
        · exact hby y hy
        all_goals exact bl_mem hy
      · rw [hτ1]; rfl
      · rw [hτ1]; exact q5
  · refine Or.inl ⟨uI σ 30 (nI 0), ?_, ?_, se30 σ _⟩
    · unfold fX11_feed fX9_size
      simp (disch := omega) only [l0, l1, l2, l3, l4, l5, l6, l7, l8, l9, l10, l11, l12, l16, l18, l19, l20, l21, l24, l96, l128, l100, l144, l200, l256, l288, l1536, l1728, l1800, bnd, nI_add, pk_mul, pI_sub, pI_m1, pT_le, pF_le, pT_lt, pF_lt, pT_eq, pF_eq, pF_m1, mF_eq, mT_eq, mT_lt, mF_le, lm1, rd_nI, wr_nI, cl_nI, pk_us, un_ne, pk_uLs, uL_ne, zI_uI, zI_uJ, zI_uA, zI_uB, zI_uR, zI_uN, zJ_uI, zJ_uJ, zJ_uA, zJ_uB, zJ_uR, zJ_uN, zA_uI, zA_uJ, zA_uA, zA_uB, zA_uR, zA_uN, zB_uI, zB_uJ, zB_uA, zB_uB, zB_uR, zB_uN, zR_uI, zR_uJ, zR_uA, zR_uB, zR_uR, zR_uN, zN_uI, zN_uJ, zN_uA, zN_uB, zN_uR, zN_uN, zI_ne, zJ_ne, zA_ne, zB_ne, zR_ne, zN_ne, bi_T, bi_F, nz16, ↓reduceIte, not_true_eq_false, not_false_eq_true, Bool.false_eq_true, reduceCtorEq, c_told, h2]
    · unfold fX12_feed
      simp (disch := omega) only [l0, l1, l2, l3, l4, l5, l6, l7, l8, l9, l10, l11, l12, l16, l18, l19, l20, l21, l24, l96, l128, l100, l144, l200, l256, l288, l1536, l1728, l1800, bnd, nI_add, pk_mul, pI_sub, pI_m1, pT_le, pF_le, pT_lt, pF_lt, pT_eq, pF_eq, pF_m1, mF_eq, mT_eq, mT_lt, mF_le, lm1, rd_nI, wr_nI, cl_nI, pk_us, un_ne, pk_uLs, uL_ne, zI_uI, zI_uJ, zI_uA, zI_uB, zI_uR, zI_uN, zJ_uI, zJ_uJ, zJ_uA, zJ_uB, zJ_uR, zJ_uN, zA_uI, zA_uJ, zA_uA, zA_uB, zA_uR, zA_uN, zB_uI, zB_uJ, zB_uA, zB_uB, zB_uR, zB_uN, zR_uI, zR_uJ, zR_uA, zR_uB, zR_uR, zR_uN, zN_uI, zN_uJ, zN_uA, zN_uB, zN_uR, zN_uN, zI_ne, zJ_ne, zA_ne, zB_ne, zR_ne, zN_ne, bi_T, bi_F, nz16, ↓reduceIte, not_true_eq_false, not_false_eq_true, Bool.false_eq_true, reduceCtorEq, m_bytes, h31]
theorem getD_take {α : Type} {l : List α} {n j : Nat} {d : α} (h : j < n) : (l.take n).getD j d = l.getD j d := by
  rw [List.getD_eq_getElem?_getD, List.getD_eq_getElem?_getD, List.getElem?_take, if_pos h]
theorem TP_take {σ : St} {bs : List Nat} (h : TP σ bs) {n : Nat} (hn : n ≤ bs.length) : TP (uI (uI (uI σ 2 (nI n)) 30 (nI 0)) 31 (nI n)) (bs.take n) := by
  obtain ⟨h200, hby, h2, h31, h11, h55⟩ := h
  have hl : (bs.take n).length = n := by rw [List.length_take]; omega
  refine ⟨by omega, fun b hb => hby b (List.mem_of_mem_take hb), ?_, ?_, fun j hj => ?_, fun j hj => ?_⟩
  · rw [hl]; rfl
  · rw [hl]; rfl
  · rw [getD_take (by omega)]; exact h11 j (by omega)
  · rw [getD_take (by omega)]; exact h55 j (by omega)
theorem t_end {σ : St} {bs : List Nat} (h : TP σ bs) (p : Int32) : (∃ υ, fX11_end σ p = some (false, σ) ∧ fX12_end σ p = some (false, υ) ∧ SE σ υ) ∨ ∃ n τ, n ≤ bs.length ∧ fX11_end σ p = some (true, τ) ∧ fX12_end τ p = some (true, uI (uI (uI σ 2 (nI n)) 30 (nI 0)) 31 (nI n)) := by
  have h2 := h.2.2.1
  have h31 := h.2.2.2.1
  have h200 := h.1
  rcases i32_of p with hn | ⟨k, hk, rfl⟩
  · have hn' : (p < nI 0) = True := eq_true hn
    refine Or.inl ⟨uI σ 30 (nI 0), ?_, ?_, se30 σ _⟩
    · unfold fX11_end fX9_cut
      simp (disch := omega) only [l0, l1, l2, l3, l4, l5, l6, l7, l8, l9, l10, l11, l12, l16, l18, l19, l20, l21, l24, l96, l128, l100, l144, l200, l256, l288, l1536, l1728, l1800, bnd, nI_add, pk_mul, pI_sub, pI_m1, pT_le, pF_le, pT_lt, pF_lt, pT_eq, pF_eq, pF_m1, mF_eq, mT_eq, mT_lt, mF_le, lm1, rd_nI, wr_nI, cl_nI, pk_us, un_ne, pk_uLs, uL_ne, zI_uI, zI_uJ, zI_uA, zI_uB, zI_uR, zI_uN, zJ_uI, zJ_uJ, zJ_uA, zJ_uB, zJ_uR, zJ_uN, zA_uI, zA_uJ, zA_uA, zA_uB, zA_uR, zA_uN, zB_uI, zB_uJ, zB_uA, zB_uB, zB_uR, zB_uN, zR_uI, zR_uJ, zR_uA, zR_uB, zR_uR, zR_uN, zN_uI, zN_uJ, zN_uA, zN_uB, zN_uR, zN_uN, zI_ne, zJ_ne, zA_ne, zB_ne, zR_ne, zN_ne, bi_T, bi_F, nz16, ↓reduceIte, not_true_eq_false, not_false_eq_true, Bool.false_eq_true, reduceCtorEq, hn']
    · unfold fX12_end
      simp (disch := omega) only [l0, l1, l2, l3, l4, l5, l6, l7, l8, l9, l10, l11, l12, l16, l18, l19, l20, l21, l24, l96, l128, l100, l144, l200, l256, l288, l1536, l1728, l1800, bnd, nI_add, pk_mul, pI_sub, pI_m1, pT_le, pF_le, pT_lt, pF_lt, pT_eq, pF_eq, pF_m1, mF_eq, mT_eq, mT_lt, mF_le, lm1, rd_nI, wr_nI, cl_nI, pk_us, un_ne, pk_uLs, uL_ne, zI_uI, zI_uJ, zI_uA, zI_uB, zI_uR, zI_uN, zJ_uI, zJ_uJ, zJ_uA, zJ_uB, zJ_uR, zJ_uN, zA_uI, zA_uJ, zA_uA, zA_uB, zA_uR, zA_uN, zB_uI, zB_uJ, zB_uA, zB_uB, zB_uR, zB_uN, zR_uI, zR_uJ, zR_uA, zR_uB, zR_uR, zR_uN, zN_uI, zN_uJ, zN_uA, zN_uB, zN_uR, zN_uN, zI_ne, zJ_ne, zA_ne, zB_ne, zR_ne, zN_ne, bi_T, bi_F, nz16, ↓reduceIte, not_true_eq_false, not_false_eq_true, Bool.false_eq_true, reduceCtorEq, hn']
  · by_cases hkl : k ≤ bs.length
    · refine Or.inr ⟨k, uI σ 2 (nI k), hkl, ?_, ?_⟩
      · unfold fX11_end fX9_cut
        simp (disch := omega) only [l0, l1, l2, l3, l4, l5, l6, l7, l8, l9, l10, l11, l12, l16, l18, l19, l20, l21, l24, l96, l128, l100, l144, l200, l256, l288, l1536, l1728, l1800, bnd, nI_add, pk_mul, pI_sub, pI_m1, pT_le, pF_le, pT_lt, pF_lt, pT_eq, pF_eq, pF_m1, mF_eq, mT_eq, mT_lt, mF_le, lm1, rd_nI, wr_nI, cl_nI, pk_us, un_ne, pk_uLs, uL_ne, zI_uI, zI_uJ, zI_uA, zI_uB, zI_uR, zI_uN, zJ_uI, zJ_uJ, zJ_uA, zJ_uB, zJ_uR, zJ_uN, zA_uI, zA_uJ, zA_uA, zA_uB, zA_uR, zA_uN, zB_uI, zB_uJ, zB_uA, zB_uB, zB_uR, zB_uN, zR_uI, zR_uJ, zR_uA, zR_uB, zR_uR, zR_uN, zN_uI, zN_uJ, zN_uA, zN_uB, zN_uR, zN_uN, zI_ne, zJ_ne, zA_ne, zB_ne, zR_ne, zN_ne, bi_T, bi_F, nz16, ↓reduceIte, not_true_eq_false, not_false_eq_true, Bool.false_eq_true, reduceCtorEq, h2]
      · unfold fX12_end
        simp (disch := omega) only [l0, l1, l2, l3, l4, l5, l6, l7, l8, l9, l10, l11, l12, l16, l18, l19, l20, l21, l24, l96, l128, l100, l144, l200, l256, l288, l1536, l1728, l1800, bnd, nI_add, pk_mul, pI_sub, pI_m1, pT_le, pF_le, pT_lt, pF_lt, pT_eq, pF_eq, pF_m1, mF_eq, mT_eq, mT_lt, mF_le, lm1, rd_nI, wr_nI, cl_nI, pk_us, un_ne, pk_uLs, uL_ne, zI_uI, zI_uJ, zI_uA, zI_uB, zI_uR, zI_uN, zJ_uI, zJ_uJ, zJ_uA, zJ_uB, zJ_uR, zJ_uN, zA_uI, zA_uJ, zA_uA, zA_uB, zA_uR, zA_uN, zB_uI, zB_uJ, zB_uA, zB_uB, zB_uR, zB_uN, zR_uI, zR_uJ, zR_uA, zR_uB, zR_uR, zR_uN, zN_uI, zN_uJ, zN_uA, zN_uB, zN_uR, zN_uN, zI_ne, zJ_ne, zA_ne, zB_ne, zR_ne, zN_ne, bi_T, bi_F, nz16, ↓reduceIte, not_true_eq_false, not_false_eq_true, Bool.false_eq_true, reduceCtorEq, h31]
    · refine Or.inl ⟨uI σ 30 (nI 0), ?_, ?_, se30 σ _⟩
      · unfold fX11_end fX9_cut
        simp (disch := omega) only [l0, l1, l2, l3, l4, l5, l6, l7, l8, l9, l10, l11, l12, l16, l18, l19, l20, l21, l24, l96, l128, l100, l144, l200, l256, l288, l1536, l1728, l1800, bnd, nI_add, pk_mul, pI_sub, pI_m1, pT_le, pF_le, pT_lt, pF_lt, pT_eq, pF_eq, pF_m1, mF_eq, mT_eq, mT_lt, mF_le, lm1, rd_nI, wr_nI, cl_nI, pk_us, un_ne, pk_uLs, uL_ne, zI_uI, zI_uJ, zI_uA, zI_uB, zI_uR, zI_uN, zJ_uI, zJ_uJ, zJ_uA, zJ_uB, zJ_uR, zJ_uN, zA_uI, zA_uJ, zA_uA, zA_uB, zA_uR, zA_uN, zB_uI, zB_uJ, zB_uA, zB_uB, zB_uR, zB_uN, zR_uI, zR_uJ, zR_uA, zR_uB, zR_uR, zR_uN, zN_uI, zN_uJ, zN_uA, zN_uB, zN_uR, zN_uN, zI_ne, zJ_ne, zA_ne, zB_ne, zR_ne, zN_ne, bi_T, bi_F, nz16, ↓reduceIte, not_true_eq_false, not_false_eq_true, Bool.false_eq_true, reduceCtorEq, h2]
      · unfold fX12_end
        simp (disch := omega) only [l0, l1, l2, l3, l4, l5, l6, l7, l8, l9, l10, l11, l12, l16, l18, l19, l20, l21, l24, l96, l128, l100, l144, l200, l256, l288, l1536, l1728, l1800, bnd, nI_add, pk_mul, pI_sub, pI_m1, pT_le, pF_le, pT_lt, pF_lt, pT_eq, pF_eq, pF_m1, mF_eq, mT_eq, mT_lt, mF_le, lm1, rd_nI, wr_nI, cl_nI, pk_us, un_ne, pk_uLs, uL_ne, zI_uI, zI_uJ, zI_uA, zI_uB, zI_uR, zI_uN, zJ_uI, zJ_uJ, zJ_uA, zJ_uB, zJ_uR, zJ_uN, zA_uI, zA_uJ, zA_uA, zA_uB, zA_uR, zA_uN, zB_uI, zB_uJ, zB_uA, zB_uB, zB_uR, zB_uN, zR_uI, zR_uJ, zR_uA, zR_uB, zR_uR, zR_uN, zN_uI, zN_uJ, zN_uA, zN_uB, zN_uR, zN_uN, zI_ne, zJ_ne, zA_ne, zB_ne, zR_ne, zN_ne, bi_T, bi_F, nz16, ↓reduceIte, not_true_eq_false, not_false_eq_true, Bool.false_eq_true, reduceCtorEq, h31]
