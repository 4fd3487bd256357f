/-! habits: numbers of both signs *-/
def iI (v : Int) : Int32 := Int32.ofInt v
def iL (v : Int) : Int64 := Int64.ofInt v
def bnd6 (v : Int) : Prop := -1000000 ≤ v ∧ v ≤ 1000000
def cl6 (v : Int) : Int := max (-1000000) (min 1000000 v)
theorem bnd6_0 : bnd6 0 := ⟨by decide, by decide⟩
theorem cl6_b (v : Int) : bnd6 (cl6 v) := by
  unfold bnd6 cl6
  omega
theorem cl6_in {v : Int} (h : bnd6 v) : cl6 v = v := by
  unfold bnd6 at h
  unfold cl6
  omega
theorem iI_int {v : Int} (h1 : -2147483648 ≤ v) (h2 : v < 2147483648) : (iI v).toInt = v := by
  unfold iI
  rw [Int32.toInt_ofInt, show Int32.size = 4294967296 from rfl]
  exact Int.bmod_eq_of_le (by omega) (by omega)
theorem iL_int {v : Int} (h1 : -9223372036854775808 ≤ v) (h2 : v < 9223372036854775808) : (iL v).toInt = v := by
  unfold iL
  rw [Int64.toInt_ofInt, show Int64.size = 18446744073709551616 from rfl]
  exact Int.bmod_eq_of_le (by omega) (by omega)
theorem iI_nat (n : Nat) : iI (n : Int) = nI n := by
  unfold iI nI
  rw [Int32.ofInt_eq_ofNat]
theorem iI_64 {v : Int} (h1 : -2147483648 ≤ v) (h2 : v < 2147483648) : (iI v).toInt64 = iL v := by
  apply Int64.toInt_inj.mp
  rw [Int32.toInt_toInt64, iI_int h1 h2, iL_int (by omega) (by omega)]
theorem iL_32 {v : Int} (h1 : -2147483648 ≤ v) (h2 : v < 2147483648) : (iL v).toInt32 = iI v := by
  apply Int32.toInt_inj.mp
  rw [Int64.toInt_toInt32, iL_int (by omega) (by omega), iI_int h1 h2]
  exact Int.bmod_eq_of_le (by omega) (by omega)
theorem iI_inj {a b : Int} (ha : bnd6 a) (hb : bnd6 b) : iI a = iI b ↔ a = b := by
  unfold bnd6 at ha hb
  refine ⟨fun h => ?_, fun h => by rw [h]⟩
  have h1 := congrArg Int32.toInt h
  rwa [iI_int (by omega) (by omega), iI_int (by omega) (by omega)] at h1
theorem iI_le {a b : Int} (ha : bnd6 a) (hb : bnd6 b) : iI a ≤ iI b ↔ a ≤ b := by
  unfold bnd6 at ha hb
  rw [Int32.le_iff_toInt_le, iI_int (by omega) (by omega), iI_int (by omega) (by omega)]
theorem iI_add {a b : Int} (ha : bnd6 a) (hb : bnd6 b) : iI a + iI b = iI (a + b) := by
  unfold bnd6 at ha hb
  apply Int32.toInt_inj.mp
  rw [Int32.toInt_add, iI_int (by omega) (by omega), iI_int (by omega) (by omega), iI_int (by omega) (by omega)]
  exact Int.bmod_eq_of_le (by omega) (by omega)
theorem iI_sub {a b : Int} (ha : bnd6 a) (hb : bnd6 b) : iI a - iI b = iI (a - b) := by
  unfold bnd6 at ha hb
  apply Int32.toInt_inj.mp
  rw [Int32.toInt_sub, iI_int (by omega) (by omega), iI_int (by omega) (by omega), iI_int (by omega) (by omega)]
  exact Int.bmod_eq_of_le (by omega) (by omega)
theorem tdiv_b {a b : Int} (ha : bnd6 a) : bnd6 (a.tdiv b) := by
  unfold bnd6 at ha ⊢
  have h := Int.natAbs_tdiv_le_natAbs a b
  omega
theorem iI_div {a b : Int} (ha : bnd6 a) (hb : bnd6 b) : iI a / iI b = iI (a.tdiv b) := by
  have h := tdiv_b (b := b) ha
  unfold bnd6 at ha hb h
  apply Int32.toInt_inj.mp
  rw [Int32.toInt_div, iI_int (by omega) (by omega), iI_int (by omega) (by omega), iI_int (by omega) (by omega)]
  exact Int.bmod_eq_of_le (by omega) (by omega)
theorem iL_add {a b : Int} (ha : bnd6 a) (hb : bnd6 b) : iL a + iL b = iL (a + b) := by
  unfold bnd6 at ha hb
  apply Int64.toInt_inj.mp
  rw [Int64.toInt_add, iL_int (by omega) (by omega), iL_int (by omega) (by omega), iL_int (by omega) (by omega)]
  exact Int.bmod_eq_of_le (by omega) (by omega)
theorem iL_sub {a b : Int} (ha : bnd6 a) (hb : bnd6 b) : iL a - iL b = iL (a - b) := by
  unfold bnd6 at ha hb
  apply Int64.toInt_inj.mp
  rw [Int64.toInt_sub, iL_int (by omega) (by omega), iL_int (by omega) (by omega), iL_int (by omega) (by omega)]
  exact Int.bmod_eq_of_le (by omega) (by omega)
theorem mul_b {a b : Int} (ha : bnd6 a) (hb : bnd6 b) : -1000000000000 ≤ a * b ∧ a * b ≤ 1000000000000 := by
  unfold bnd6 at ha hb
  have h1 : a.natAbs ≤ 1000000 := by omega
  have h2 : b.natAbs ≤ 1000000 := by omega
  have h3 := Nat.mul_le_mul h1 h2
  rw [← Int.natAbs_mul] at h3
  omega
theorem iL_mul {a b : Int} (ha : bnd6 a) (hb : bnd6 b) : iL a * iL b = iL (a * b) := by
  have h := mul_b ha hb
  unfold bnd6 at ha hb
  apply Int64.toInt_inj.mp
  rw [Int64.toInt_mul, iL_int (by omega) (by omega), iL_int (by omega) (by omega), iL_int (by omega) (by omega)]
  exact Int.bmod_eq_of_le (by omega) (by omega)
theorem iL_div {a b : Int} (ha : bnd6 a) (hb : bnd6 b) : iL a / iL b = iL (a.tdiv b) := by
  have h := tdiv_b (b := b) ha
  unfold bnd6 at ha hb h
  apply Int64.toInt_inj.mp
  rw [Int64.toInt_div, iL_int (by omega) (by omega), iL_int (by omega) (by omega), iL_int (by omega) (by omega)]
  exact Int.bmod_eq_of_le (by omega) (by omega)
theorem b_tot (x : Int64) : ∃ y, fX1_bounded x = some y ∧ fX12_within x = some y := by
  unfold fX1_bounded fX12_within fJ9_min_f86c9 fJ9_max_f86c9
  by_cases h1 : 0 < lg_cmp 1000000 x
  · rw [if_pos h1, bnd]
    by_cases h2 : lg_cmp (-1000000) x < 0
    · rw [if_pos h2, bnd]; exact ⟨_, rfl, rfl⟩
    · rw [if_neg h2, bnd]; exact ⟨_, rfl, rfl⟩
  · rw [if_neg h1, bnd]
    by_cases h2 : lg_cmp (-1000000) 1000000 < 0
    · rw [if_pos h2, bnd]; exact ⟨_, rfl, rfl⟩
    · rw [if_neg h2, bnd]; exact ⟨_, rfl, rfl⟩
theorem c_bounded {v : Int} (h1 : -2000000000000 ≤ v) (h2 : v ≤ 2000000000000) : fX1_bounded (iL v) = some (iI (cl6 v)) := by
  have e : (iL v).toInt = v := iL_int (by omega) (by omega)
  have m : (1000000 : Int64).toInt = 1000000 := rfl
  have n : (-1000000 : Int64).toInt = -1000000 := rfl
  have i1 : (1000000 : Int64) = iL 1000000 := rfl
  have i2 : (-1000000 : Int64) = iL (-1000000) := rfl
  have c := cl6_b v
  unfold bnd6 at c
  have fin : ∀ w : Int, w = cl6 v → (some (iL w)).bind (fun x2 => some (Int64.toInt32 x2)) = some (iI (cl6 v)) := by
    intro w hw
    rw [bnd, hw, iL_32 (by omega) (by omega)]
  unfold cl6 at fin c ⊢
  unfold fX1_bounded fJ9_min_f86c9 fJ9_max_f86c9
  by_cases h3 : v < 1000000
  · rw [if_pos ((lg_cmp_gt _ _).mpr (Int64.lt_iff_toInt_lt.mpr (by rw [e, m]; exact h3))), bnd]
    by_cases h4 : -1000000 < v
    · rw [if_pos ((lg_cmp_lt _ _).mpr (Int64.lt_iff_toInt_lt.mpr (by rw [e, n]; exact h4)))]
      exact fin v (by omega)
    · rw [if_neg (fun x => h4 (by have := Int64.lt_iff_toInt_lt.mp ((lg_cmp_lt _ _).mp x); rw [e, n] at this; exact this)), i2]
      exact fin (-1000000) (by omega)
  · rw [if_neg (fun x => h3 (by have := Int64.lt_iff_toInt_lt.mp ((lg_cmp_gt _ _).mp x); rw [e, m] at this; exact this)), bnd, if_pos (by decide), i1]
    exact fin 1000000 (by omega)
theorem m_within {v : Int} (h1 : -2000000000000 ≤ v) (h2 : v ≤ 2000000000000) : fX12_within (iL v) = some (iI (cl6 v)) := c_bounded h1 h2
/-! what a text of a habit means, over tokens (the spec) *-/
abbrev En : Type := Nat → Option Int
def vl : Sx → Int
  | .inl _ => 0
  | .inr R => (((hd R).1 - 1000 : Nat) : Int)
def atB (sm : Nat → Sx → Int × Sx) (e : En) (dp : Nat) (x : Sx) : Int × Sx :=
  if sg x = 91 ∧ dp < 6 then ((sm (dp + 1) (tlx x)).1, nd 93 (sm (dp + 1) (tlx x)).2)
  else if sg x = 1000 then (vl x, tlx x)
  else match e (sg x) with
    | some v => (v, tlx x)
    | none => (0, slx x)
def tmL (at' : Sx → Int × Sx) : Nat → Int → Sx → Int × Sx
  | 0, v, x => (v, x)
  | n + 1, v, x => if sg x = 42 then tmL at' n (cl6 (v * (at' (tlx x)).1)) (at' (tlx x)).2 else if sg x = 47 then tmL at' n (if (at' (tlx x)).1 = 0 then 0 else cl6 (v.tdiv (at' (tlx x)).1)) (at' (tlx x)).2 else (v, x)
def tmS (at' : Sx → Int × Sx) (x : Sx) : Int × Sx := tmL at' 200 (at' x).1 (at' x).2
def smL (tm : Sx → Int × Sx) : Nat → Int → Sx → Int × Sx
  | 0, v, x => (v, x)
  | n + 1, v, x => if sg x = 43 then smL tm n (cl6 (v + (tm (tlx x)).1)) (tm (tlx x)).2 else if sg x = 45 then smL tm n (cl6 (v - (tm (tlx x)).1)) (tm (tlx x)).2 else (v, x)
def smS (at' : Sx → Int × Sx) (x : Sx) : Int × Sx := smL (tmS at') 200 (tmS at' x).1 (tmS at' x).2
def atS (e : En) : Nat → Nat → Sx → Int × Sx
  | 0, _, x => (0, x)
  | k + 1, dp, x => atB (fun dp x => smS (atS e k dp) x) e dp x
def gX (N : Nat) : Sx → Prop
  | .inl p => p < 1000
  | .inr R => gT R ∧ (∀ t, t ∈ R → t.1 < 11000) ∧ R.length ≤ N
theorem gX_mono {N M : Nat} {x : Sx} (h : gX N x) (hm : N ≤ M) : gX M x := by
  cases x with
  | inl p => exact h
  | inr R => exact ⟨h.1, h.2.1, Nat.le_trans h.2.2 hm⟩
theorem gX_tl {N : Nat} {x : Sx} (h : gX N x) (hs : sg x ≠ 256) : gX (N - 1) (tlx x) := by
  cases x with
  | inl p => exact h
  | inr R =>
    obtain ⟨h1, h2, h3⟩ := h
    cases R with
    | nil => exact absurd h1 (fun h => h)
    | cons t R =>
      have hne : t.1 ≠ 256 := by
        intro e
        apply hs
        show (if t.1 < 1000 then t.1 else 1000) = 256
        rw [if_pos (by omega), e]
      refine ⟨gT_tail h1 hne, fun u hu => h2 u (List.mem_cons_of_mem _ hu), ?_⟩
      rw [List.length_cons] at h3
      show R.length ≤ N - 1
      omega
theorem gX_sl {N : Nat} {x : Sx} (h : gX N x) : gX N (slx x) := by
  cases x with
  | inl p => exact h
  | inr R =>
    obtain ⟨h1, h2, h3⟩ := h
    cases R with
    | nil => exact absurd h1 (fun h => h)
    | cons t R => exact h1.2.1
theorem gX_nd {N v : Nat} {x : Sx} (h : gX N x) (hv : v ≠ 256) : gX N (nd v x) := by
  cases x with
  | inl p => exact h
  | inr R =>
    obtain ⟨h1, h2, h3⟩ := h
    cases R with
    | nil => exact absurd h1 (fun h => h)
    | cons t R =>
      show gX N (if t.1 = v then .inr R else .inl t.2)
      split
      · rename_i e
        refine ⟨gT_tail h1 (by omega), fun u hu => h2 u (List.mem_cons_of_mem _ hu), ?_⟩
        rw [List.length_cons] at h3
        omega
      · exact h1.2.1
theorem vl_b {N : Nat} {x : Sx} (h : gX N x) : bnd6 (vl x) := by
  cases x with
  | inl p => exact bnd6_0
  | inr R =>
    cases R with
    | nil => exact absurd h.1 (fun h => h)
    | cons t R =>
      have h1 := h.2.1 t List.mem_cons_self
      show bnd6 (((t.1 - 1000 : Nat) : Int))
      unfold bnd6
      omega
def eB (e : En) : Prop := e 256 = none ∧ ∀ s v, e s = some v → bnd6 v ∧ s < 256
theorem tmL_g {at' : Sx → Int × Sx} {N : Nat} (hat : ∀ N' x, N' ≤ N → gX N' x → gX N' (at' x).2 ∧ bnd6 (at' x).1) : ∀ (n : Nat) (v : Int) (x : Sx) (N' : Nat), N' ≤ N → gX N' x → bnd6 v → gX N' (tmL at' n v x).2 ∧ bnd6 (tmL at' n v x).1
  | 0, v, x, N', _, hx, hv => ⟨hx, hv⟩
  | n + 1, v, x, N', hN, hx, hv => by
    unfold tmL
    split
    · rename_i hs
      obtain ⟨h1, h2⟩ := hat (N' - 1) (tlx x) (by omega) (gX_tl hx (by omega))
      have h3 := tmL_g hat n _ _ (N' - 1) (by omega) h1 (cl6_b (v * (at' (tlx x)).1))
      exact ⟨gX_mono h3.1 (by omega), h3.2⟩
    · split
      · rename_i hs
        obtain ⟨h1, h2⟩ := hat (N' - 1) (tlx x) (by omega) (gX_tl hx (by omega))
        have hb : bnd6 (if (at' (tlx x)).1 = 0 then 0 else cl6 (v.tdiv (at' (tlx x)).1)) := by
          split
          · exact bnd6_0
          · exact cl6_b _
        have h3 := tmL_g hat n _ _ (N' - 1) (by omega) h1 hb
        exact ⟨gX_mono h3.1 (by omega), h3.2⟩
      · exact ⟨hx, hv⟩
theorem tmS_g {at' : Sx → Int × Sx} {N : Nat} (hat : ∀ N' x, N' ≤ N → gX N' x → gX N' (at' x).2 ∧ bnd6 (at' x).1) (x : Sx) (N' : Nat) (hN : N' ≤ N) (hx : gX N' x) : gX N' (tmS at' x).2 ∧ bnd6 (tmS at' x).1 := by
  obtain ⟨h1, h2⟩ := hat N' x hN hx
  exact tmL_g hat 200 _ _ N' hN h1 h2
theorem smL_g {tm : Sx → Int × Sx} {N : Nat} (hat : ∀ N' x, N' ≤ N → gX N' x → gX N' (tm x).2 ∧ bnd6 (tm x).1) : ∀ (n : Nat) (v : Int) (x : Sx) (N' : Nat), N' ≤ N → gX N' x → bnd6 v → gX N' (smL tm n v x).2 ∧ bnd6 (smL tm n v x).1
  | 0, v, x, N', _, hx, hv => ⟨hx, hv⟩
  | n + 1, v, x, N', hN, hx, hv => by
    unfold smL
    split
    · rename_i hs
      obtain ⟨h1, h2⟩ := hat (N' - 1) (tlx x) (by omega) (gX_tl hx (by omega))
      have h3 := smL_g hat n _ _ (N' - 1) (by omega) h1 (cl6_b (v + (tm (tlx x)).1))
      exact ⟨gX_mono h3.1 (by omega), h3.2⟩
    · split
      · rename_i hs
        obtain ⟨h1, h2⟩ := hat (N' - 1) (tlx x) (by omega) (gX_tl hx (by omega))
        have h3 := smL_g hat n _ _ (N' - 1) (by omega) h1 (cl6_b (v - (tm (tlx x)).1))
        exact ⟨gX_mono h3.1 (by omega), h3.2⟩
      · exact ⟨hx, hv⟩
theorem smS_g {at' : Sx → Int × Sx} {N : Nat} (hat : ∀ N' x, N' ≤ N → gX N' x → gX N' (at' x).2 ∧ bnd6 (at' x).1) (x : Sx) (N' : Nat) (hN : N' ≤ N) (hx : gX N' x) : gX N' (smS at' x).2 ∧ bnd6 (smS at' x).1 := by
  obtain ⟨h1, h2⟩ := tmS_g hat x N' hN hx
  exact smL_g (fun N'' x hn hx => tmS_g hat x N'' hn hx) 200 _ _ N' hN h1 h2
theorem atS_g {e : En} (he : eB e) : ∀ (k dp : Nat) (x : Sx) (N : Nat), gX N x → gX N (atS e k dp x).2 ∧ bnd6 (atS e k dp x).1
  | 0, dp, x, N, hx => ⟨hx, bnd6_0⟩
  | k + 1, dp, x, N, hx => by
    show gX N (atB (fun dp x => smS (atS e k dp) x) e dp x).2 ∧ bnd6 (atB (fun dp x => smS (atS e k dp) x) e dp x).1
    unfold atB
    split
    · rename_i hs
      have h1 := smS_g (at' := atS e k (dp + 1)) (N := N) (fun N' x _ hx => atS_g he k (dp + 1) x N' hx) (tlx x) (N - 1) (by omega) (gX_tl hx (by omega))
      exact ⟨gX_nd (gX_mono h1.1 (by omega)) (by decide), h1.2⟩
    · split
      · rename_i hs
        exact ⟨gX_mono (gX_tl hx (by omega)) (by omega), vl_b hx⟩
      · split
        · rename_i v hv
          have h2 := he.2 _ _ hv
          exact ⟨gX_mono (gX_tl hx (by omega)) (by omega), h2.1⟩
        · exact ⟨gX_sl hx, bnd6_0⟩
