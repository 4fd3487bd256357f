/-! THE PURE LAYER: numbers, reads, writes, the store -/
/-- so that a rewrite is no conversion: the kernel is not asked to compare the terms -/
theorem nrfl {α : Type} {a b : α} (h : a = b) : a = b := h
theorem bnd {α β : Type} (a : α) (f : α → Option β) : (some a).bind f = f a := nrfl rfl
theorem l0 : (0 : Int32) = nI 0 := nrfl rfl
theorem l1 : (1 : Int32) = nI 1 := nrfl rfl
theorem l2 : (2 : Int32) = nI 2 := nrfl rfl
theorem l3 : (3 : Int32) = nI 3 := nrfl rfl
theorem l4 : (4 : Int32) = nI 4 := nrfl rfl
theorem l5 : (5 : Int32) = nI 5 := nrfl rfl
theorem l6 : (6 : Int32) = nI 6 := nrfl rfl
theorem l7 : (7 : Int32) = nI 7 := nrfl rfl
theorem l8 : (8 : Int32) = nI 8 := nrfl rfl
theorem l9 : (9 : Int32) = nI 9 := nrfl rfl
theorem l10 : (10 : Int32) = nI 10 := nrfl rfl
theorem l11 : (11 : Int32) = nI 11 := nrfl rfl
theorem l12 : (12 : Int32) = nI 12 := nrfl rfl
theorem l16 : (16 : Int32) = nI 16 := nrfl rfl
theorem l18 : (18 : Int32) = nI 18 := nrfl rfl
theorem l19 : (19 : Int32) = nI 19 := nrfl rfl
theorem l20 : (20 : Int32) = nI 20 := nrfl rfl
theorem l21 : (21 : Int32) = nI 21 := nrfl rfl
theorem l24 : (24 : Int32) = nI 24 := nrfl rfl
theorem l96 : (96 : Int32) = nI 96 := nrfl rfl
theorem l100 : (100 : Int32) = nI 100 := nrfl rfl
theorem l128 : (128 : Int32) = nI 128 := nrfl rfl
theorem l144 : (144 : Int32) = nI 144 := nrfl rfl
theorem l200 : (200 : Int32) = nI 200 := nrfl rfl
theorem l256 : (256 : Int32) = nI 256 := nrfl rfl
theorem l288 : (288 : Int32) = nI 288 := nrfl rfl
theorem l1536 : (1536 : Int32) = nI 1536 := nrfl rfl
theorem l1728 : (1728 : Int32) = nI 1728 := nrfl rfl
theorem l1800 : (1800 : Int32) = nI 1800 := nrfl rfl
theorem pI_sub {a b : Nat} (h : b ≤ a) : nI a - nI b = nI (a - b) := pk_sub h
def mI : Int32 := -1
theorem lm1 : -nI 1 = mI := nrfl rfl
theorem mI_eq : (-1 : Int32) = mI := nrfl rfl
theorem mT_eq : (mI = mI) = True := eq_true rfl
theorem mT_lt : (mI < nI 0) = True := eq_true (by decide)
theorem mF_le {a : Nat} (ha : a < 2147483648) : (nI a ≤ mI) = False := eq_false (fun e => by
  have h := Int32.le_iff_toInt_le.mp e
  rw [nI_toInt ha] at h
  have h2 : mI.toInt = -1 := rfl
  omega)
theorem pI_m1 {a : Nat} (h : 1 ≤ a) : nI a + mI = nI (a - 1) := by
  obtain ⟨b, rfl⟩ : ∃ b, a = b + 1 := ⟨a - 1, by omega⟩
  exact (pk_m1 b).trans rfl
theorem pT_le {a b : Nat} (h : a ≤ b) (hb : b < 2147483648) : (nI a ≤ nI b) = True := eq_true (nI_le h hb)
theorem pF_le {a b : Nat} (h : b < a) (hb : a < 2147483648) : (nI a ≤ nI b) = False := eq_false (nI_ge h hb)
theorem pT_lt {a b : Nat} (h : a < b) (hb : b < 2147483648) : (nI a < nI b) = True := eq_true (nI_lt h hb)
theorem pF_lt {a b : Nat} (h : b ≤ a) (hb : a < 2147483648) : (nI a < nI b) = False := eq_false (nI_nlt h hb)
theorem pT_eq {a b : Nat} (h : a = b) : (nI a = nI b) = True := eq_true (by rw [h])
theorem pF_eq {a b : Nat} (h : a ≠ b) (ha : a < 2147483648) (hb : b < 2147483648) : (nI a = nI b) = False := eq_false (fun e => h ((nI_eq ha hb).mp e))
theorem pF_m1 {a : Nat} (ha : a < 2147483648) : (nI a = mI) = False := eq_false (fun e => by
  have h := congrArg Int32.toInt e
  rw [nI_toInt ha] at h
  have h2 : mI.toInt = -1 := rfl
  omega)
theorem mF_eq {a : Nat} (ha : a < 2147483648) : (mI = nI a) = False := by
  rw [eq_comm (a := mI)]
  exact pF_m1 ha
theorem neg_nI {a : Nat} (ha : a < 2147483648) : (nI a < 0) = False := pF_lt (b := 0) (Nat.zero_le _) ha
theorem rd_nI {α : Type} {f : Nat → α} {n k : Nat} (h : k < n) (hk : k < 2147483648) : rd f n (nI k) = some (f k) := by
  unfold rd
  rw [nI_clamp hk, if_neg]
  rintro (h2 | h2)
  · exact nI_pos hk h2
  · omega
theorem wr_nI {ρ : Type} {o : Option ρ} {n k : Nat} (h : k < n) (hk : k < 2147483648) : wr n (nI k) o = o := by
  unfold wr
  rw [nI_clamp hk, if_neg]
  rintro (h2 | h2)
  · exact nI_pos hk h2
  · omega
theorem cl_nI {k : Nat} (hk : k < 2147483648) : (nI k).toNatClampNeg = k := nI_clamp hk
theorem un_ne {f : Nat → Int32} {k j : Nat} {x : Int32} (h : j ≠ k) : upd f k x j = f j := pk_un h
theorem uL_ne {f : Nat → Int64} {k j : Nat} {x : Int64} (h : j ≠ k) : vp_updL f k x j = f j := pk_uLn h
theorem nz16 {ρ : Type} {o : Option ρ} : nz (nI 16) o = o := if_neg (by decide)
theorem bi_T : bi true = nI 1 := nrfl rfl
theorem bi_F : bi false = nI 0 := nrfl rfl
theorem zI_uI (σ : St) (k : Nat) (v : Int32) : zI (uI σ k v) k = v := if_pos rfl
theorem zJ_uJ (σ : St) (k : Nat) (v : Int64) : zJ (uJ σ k v) k = v := if_pos rfl
theorem zA_uA (σ : St) (k : Nat) (v : Nat → Int32) : zA (uA σ k v) k = v := if_pos rfl
theorem zB_uB (σ : St) (k : Nat) (v : Nat → Int64) : zB (uB σ k v) k = v := if_pos rfl
theorem zR_uR (σ : St) (k : Nat) (v : Nat) : zR (uR σ k v) k = v := if_pos rfl
theorem zN_uN (σ : St) (k : Nat) (v : Nat) : zN (uN σ k v) k = v := if_pos rfl
theorem zI_ne {σ : St} {k j : Nat} {v : Int32} (h : j ≠ k) : zI (uI σ k v) j = zI σ j := if_neg h
theorem zJ_ne {σ : St} {k j : Nat} {v : Int64} (h : j ≠ k) : zJ (uJ σ k v) j = zJ σ j := if_neg h
theorem zA_ne {σ : St} {k j : Nat} {v : Nat → Int32} (h : j ≠ k) : zA (uA σ k v) j = zA σ j := if_neg h
theorem zB_ne {σ : St} {k j : Nat} {v : Nat → Int64} (h : j ≠ k) : zB (uB σ k v) j = zB σ j := if_neg h
theorem zR_ne {σ : St} {k j : Nat} {v : Nat} (h : j ≠ k) : zR (uR σ k v) j = zR σ j := if_neg h
theorem zN_ne {σ : St} {k j : Nat} {v : Nat} (h : j ≠ k) : zN (uN σ k v) j = zN σ j := if_neg h
theorem zI_uJ (σ : St) (k : Nat) (v : Int64) : zI (uJ σ k v) = zI σ := nrfl rfl
theorem zI_uA (σ : St) (k : Nat) (v : (Nat → Int32)) : zI (uA σ k v) = zI σ := nrfl rfl
theorem zI_uB (σ : St) (k : Nat) (v : (Nat → Int64)) : zI (uB σ k v) = zI σ := nrfl rfl
theorem zI_uR (σ : St) (k : Nat) (v : Nat) : zI (uR σ k v) = zI σ := nrfl rfl
theorem zI_uN (σ : St) (k : Nat) (v : Nat) : zI (uN σ k v) = zI σ := nrfl rfl
theorem zJ_uI (σ : St) (k : Nat) (v : Int32) : zJ (uI σ k v) = zJ σ := nrfl rfl
theorem zJ_uA (σ : St) (k : Nat) (v : (Nat → Int32)) : zJ (uA σ k v) = zJ σ := nrfl rfl
theorem zJ_uB (σ : St) (k : Nat) (v : (Nat → Int64)) : zJ (uB σ k v) = zJ σ := nrfl rfl
theorem zJ_uR (σ : St) (k : Nat) (v : Nat) : zJ (uR σ k v) = zJ σ := nrfl rfl
theorem zJ_uN (σ : St) (k : Nat) (v : Nat) : zJ (uN σ k v) = zJ σ := nrfl rfl
theorem zA_uI (σ : St) (k : Nat) (v : Int32) : zA (uI σ k v) = zA σ := nrfl rfl
theorem zA_uJ (σ : St) (k : Nat) (v : Int64) : zA (uJ σ k v) = zA σ := nrfl rfl
theorem zA_uB (σ : St) (k : Nat) (v : (Nat → Int64)) : zA (uB σ k v) = zA σ := nrfl rfl
theorem zA_uR (σ : St) (k : Nat) (v : Nat) : zA (uR σ k v) = zA σ := nrfl rfl
theorem zA_uN (σ : St) (k : Nat) (v : Nat) : zA (uN σ k v) = zA σ := nrfl rfl
theorem zB_uI (σ : St) (k : Nat) (v : Int32) : zB (uI σ k v) = zB σ := nrfl rfl
theorem zB_uJ (σ : St) (k : Nat) (v : Int64) : zB (uJ σ k v) = zB σ := nrfl rfl
theorem zB_uA (σ : St) (k : Nat) (v : (Nat → Int32)) : zB (uA σ k v) = zB σ := nrfl rfl
theorem zB_uR (σ : St) (k : Nat) (v : Nat) : zB (uR σ k v) = zB σ := nrfl rfl
theorem zB_uN (σ : St) (k : Nat) (v : Nat) : zB (uN σ k v) = zB σ := nrfl rfl
theorem zR_uI (σ : St) (k : Nat) (v : Int32) : zR (uI σ k v) = zR σ := nrfl rfl
theorem zR_uJ (σ : St) (k : Nat) (v : Int64) : zR (uJ σ k v) = zR σ := nrfl rfl
theorem zR_uA (σ : St) (k : Nat) (v : (Nat → Int32)) : zR (uA σ k v) = zR σ := nrfl rfl
theorem zR_uB (σ : St) (k : Nat) (v : (Nat → Int64)) : zR (uB σ k v) = zR σ := nrfl rfl
theorem zR_uN (σ : St) (k : Nat) (v : Nat) : zR (uN σ k v) = zR σ := nrfl rfl
theorem zN_uI (σ : St) (k : Nat) (v : Int32) : zN (uI σ k v) = zN σ := nrfl rfl
theorem zN_uJ (σ : St) (k : Nat) (v : Int64) : zN (uJ σ k v) = zN σ := nrfl rfl
theorem zN_uA (σ : St) (k : Nat) (v : (Nat → Int32)) : zN (uA σ k v) = zN σ := nrfl rfl
theorem zN_uB (σ : St) (k : Nat) (v : (Nat → Int64)) : zN (uB σ k v) = zN σ := nrfl rfl
theorem zN_uR (σ : St) (k : Nat) (v : Nat) : zN (uR σ k v) = zN σ := nrfl rfl
theorem it_inv0 {τ ρ : Type} {body : (τ → Option ρ) → τ → Option ρ} (I : τ → Prop) (μ : τ → Nat) (Q : τ → Option ρ → Prop) (hb : ∀ (t : τ), I t → ∀ kb : τ → Option ρ, (∀ t', I t' → μ t' < μ t → Q t' (kb t')) → Q t (body kb t)) : ∀ (n : Nat) (t : τ), I t → μ t < n → Q t (it body n t)
  | 0, _, _, h => absurd h (Nat.not_lt_zero _)
  | n + 1, t, hI, h => hb t hI _ (fun t' hI' hm => it_inv0 I μ Q hb n t' hI' (Nat.lt_of_lt_of_le hm (Nat.le_of_lt_succ h)))
/-- what holds of a loop whose value is told by its state -/
theorem it_val {τ ρ : Type} {body : (τ → Option ρ) → τ → Option ρ} (I : τ → Prop) (μ : τ → Nat) (F : τ → Option ρ) (hb : ∀ t, I t → ∀ kb : τ → Option ρ, (∀ t', I t' → μ t' < μ t → kb t' = F t') → body kb t = F t) (t : τ) (h : I t) (hm : μ t < 1000000) : it body FU t = F t :=
  it_inv0 I μ (fun t o => o = F t) hb FU t h hm
/-- one of some values, which stand in a relation to the loop's state -/
theorem it_rel {τ ρ : Type} {body : (τ → Option ρ) → τ → Option ρ} (I : τ → Prop) (μ : τ → Nat) (Q : τ → Option ρ → Prop) (hb : ∀ t, I t → ∀ kb : τ → Option ρ, (∀ t', I t' → μ t' < μ t → Q t' (kb t')) → Q t (body kb t)) (t : τ) (h : I t) (hm : μ t < 1000000) : Q t (it body FU t) :=
  it_inv0 I μ Q hb FU t h hm
theorem i32_of (x : Int32) : x < 0 ∨ ∃ k : Nat, k < 2147483648 ∧ x = nI k := by
  by_cases h : x < 0
  · exact Or.inl h
  · exact Or.inr (nI_of h)
/-- a loop that counts up to n: S its state, I what holds of it, Q what comes out -/
theorem it_for {τ ρ β : Type} {body : (τ → Option ρ) → τ → Option ρ} (n : Nat) (hn : n < 1000000) (S : Nat → β → τ) (I : Nat → β → Prop) (Q : Nat → β → Option ρ → Prop) (h : ∀ k b, k ≤ n → I k b → ∀ kb : τ → Option ρ, (∀ b', k < n → I (k + 1) b' → Q (k + 1) b' (kb (S (k + 1) b'))) → Q k b (body kb (S k b))) (k : Nat) (b : β) (hk : k ≤ n) (hb : I k b) : Q k b (it body FU (S k b)) := by
  have aux : ∀ (m fuel k : Nat) (b : β), n - k = m → m < fuel → k ≤ n → I k b → Q k b (it body fuel (S k b)) := by
    intro m
    induction m with
    | zero =>
      intro fuel k b hm hf hk hb
      obtain ⟨f, rfl⟩ : ∃ f, fuel = f + 1 := ⟨fuel - 1, by omega⟩
      exact h k b hk hb _ (fun b' hlt _ => by omega)
    | succ m ih =>
      intro fuel k b hm hf hk hb
      obtain ⟨f, rfl⟩ : ∃ f, fuel = f + 1 := ⟨fuel - 1, by omega⟩
      exact h k b hk hb _ (fun b' hlt hb' => ih f (k + 1) b' (by omega) (by omega) (by omega) hb')
  exact aux (n - k) FU k b rfl (show n - k < 1000000 by omega) hk hb
/-- a loop that counts down to 0 -/
theorem it_down {τ ρ β : Type} {body : (τ → Option ρ) → τ → Option ρ} (S : Nat → β → τ) (I : Nat → β → Prop) (Q : Nat → β → Option ρ → Prop) (h0 : ∀ b, I 0 b → ∀ kb : τ → Option ρ, Q 0 b (body kb (S 0 b))) (h : ∀ k b, I (k + 1) b → ∀ kb : τ → Option ρ, (∀ b', I k b' → Q k b' (kb (S k b'))) → Q (k + 1) b (body kb (S (k + 1) b))) (k : Nat) (hk : k < 1000000) (b : β) (hb : I k b) : Q k b (it body FU (S k b)) := by
  have aux : ∀ (m fuel : Nat) (b : β), m < fuel → I m b → Q m b (it body fuel (S m b)) := by
    intro m
    induction m with
    | zero =>
      intro fuel b hf hb
      obtain ⟨f, rfl⟩ : ∃ f, fuel = f + 1 := ⟨fuel - 1, by omega⟩
      exact h0 b hb _
    | succ m ih =>
      intro fuel b hf hb
      obtain ⟨f, rfl⟩ : ∃ f, fuel = f + 1 := ⟨fuel - 1, by omega⟩
      exact h m b hb _ (fun b' hb' => ih f b' (by omega) hb')
  exact aux k FU b hk hb
theorem drop_get {l : List Nat} {k : Nat} (h : k < l.length) : l.drop k = l.getD k 0 :: l.drop (k + 1) := by
  rw [List.drop_eq_getElem_cons h]
  congr 1
  rw [List.getD_eq_getElem?_getD, List.getElem?_eq_getElem h]
  rfl
theorem dec_iff {p q : Prop} [Decidable p] [Decidable q] (h : p ↔ q) : decide p = decide q := by
  by_cases hp : p
  · rw [decide_eq_true hp, decide_eq_true (h.mp hp)]
  · rw [decide_eq_false hp, decide_eq_false (fun x => hp (h.mpr x))]
