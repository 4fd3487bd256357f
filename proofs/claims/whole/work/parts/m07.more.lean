theorem it_T {τ ρ : Type} {K : Ks} {cv : ρ → Option Value × St} {S : τ → St} {pc : Nat} {lv : τ → List (Nat × Value)} {st : τ → List Value} {body : (τ → Option ρ) → τ → Option ρ} (hb : ∀ kb : τ → Option ρ, (∀ t, T K cv (S t) pc (lv t) (st t) (kb t)) → ∀ t, T K cv (S t) pc (lv t) (st t) (body kb t)) : ∀ (n : Nat) (t : τ), T K cv (S t) pc (lv t) (st t) (it body n t)
  | 0, _ => T_none
  | n + 1, t => hb (it body n) (it_T hb n) t
/-- what holds of a loop: by an invariant and a measure that falls -/
theorem it_inv {τ ρ : Type} {body : (τ → Option ρ) → τ → Option ρ} (I : τ → Prop) (μ : τ → Nat) (Q : τ → Option ρ → Prop) (hb : ∀ (t : τ), I t → ∀ kb : τ → Option ρ, (∀ t', I t' → μ t' < μ t → Q t' (kb t')) → Q t (body kb t)) : ∀ (n : Nat) (t : τ), I t → μ t < n → Q t (it body n t)
  | 0, _, _, h => absurd h (Nat.not_lt_zero _)
  | n + 1, t, hI, h => hb t hI _ (fun t' hI' hm => it_inv I μ Q hb n t' hI' (Nat.lt_of_lt_of_le hm (Nat.le_of_lt_succ h)))
theorem Ct.ofJ {ρ : Type} {y : MethodName} {K : Ks} {args : List Value} {σ : St} {cv : ρ → Option Value × St} {o : Option ρ} (hy : plainFor y = true) (ho : K.2.1 = y.cls) (hs : K.2.2.2.2.2.2 = none) (hn : (lg_sl args).length ≤ K.2.2.2.2.2.1)
    (h : T K cv σ 0 (lv_args 0 args) [] o) : Ct y K args σ cv o := by
  intro x hx
  refine ⟨(h x hx).1, fun l D cA L sz => ?_⟩
  refine MetFree.of_bodySF (code := K.1) (maxLocals := K.2.2.2.2.2.1) (ret := K.2.2.1) hy ?_ ?_
  · intro args s m h hn
    obtain ⟨meth, c, h1, h2, h3, h4, h5, h6, -, -⟩ := Cond.code_spec hn (atoms_spec (ws := Cond.code y K.1 K.2.2.2.2.2.1 K.2.2.1 :: TB) h _ List.mem_cons_self)
    exact ⟨meth, c, h1, h2, h3, h4, h5, h6⟩
  intro p e s m args' below meth c s₁ B hml hv _
  have hh0 : s₁.heap = s.heap := by rw [B.state]; rfl
  obtain ⟨rfl, hsz, hP, hK, hD0, hX⟩ := hv
  subst hsz
  have hA : ∀ q : Nat, s.heap.size ≤ q → va_A (wl cA σ L) s.heap.size q := fun q h => Or.inr h
  have hts := atoms_spec (ws := Cond.code y K.1 K.2.2.2.2.2.1 K.2.2.1 :: TB) B.pre
  have k := (h x hx).2 (p, l, e, s, m, (args.map (tv L)).toArray, below, meth, c, D, cA, va_A (wl cA σ L) s.heap.size, σ, L) L ⟨B.exec, B.bytes, hml, by rw [ho]; exact findClass_of_methodNamed B.named, fun w hw => hts w (List.mem_cons_of_mem _ hw), hK, B.notSynchronized, B.returns, hA, hX, by rw [hs]; exact trivial⟩
  have hl := lv_entry (args.map (tv L)) (n := K.2.2.2.2.2.1) (by rw [sl_tv]; exact hn)
  rw [lv_args_tv] at hl
  have k2 := k (Nat.le_refl _) (Nat.le_refl _) Lok.rf s.heap [] _ hP hD0.self va_S.rf hl
  rw [Nat.sub_self, Nat.sub_self] at k2
  rw [lg_entry_eq]
  obtain ⟨t, a1, o, b1, b2, b3⟩ := k2 s₁ hh0 (Stand.of_body B)
  exact ⟨t, o, a1, b1, b2, ⟨b3.1, b3.2⟩⟩
theorem i32_ne {x c : Int32} {n : Int} (h : ¬ x = c) (hc : c.toInt = n) : ¬ x.toInt = n := fun e => h (Int32.toInt_inj.mp (e.trans hc.symm))
/-- which reader: of rolls, of plots, of habits, none -/
def rdr (x : Int32) : Value := if x = 0 then .ref 2 else if x = 1 then .ref 3 else if x = 2 then .ref 4 else .null
def cPr (σ : St) (x : Int32) : Option Value × St := (some (rdr x), σ)
theorem T_callRd {ρ : Type} {K : Ks} {cv : ρ → Option Value × St} {σ : St} {pc : Nat} {lv : List (Nat × Value)} {stk rest : List Value} {x : Int32} {o : Option ρ} (hr : Rn K (cPr σ) σ pc stk rest (some x)) (hs : (lv.all (fun q => safe q.2) && rest.all safe) = true) (k : T K cv σ (pc + 3) lv (rdr x :: rest) o) : T K cv σ pc lv stk o := by
  have h := T_call (cv := cv) (f := fun y => if y = x then o else none) hr hs (fun y => T_ite (fun e => by rw [e]; exact k) (fun _ => T_none))
  have e : ((some x).bind fun y => if y = x then o else none) = o := if_pos rfl
  rw [e] at h
  exact h
theorem T_ifnonnull_n {ρ : Type} {K : Ks} {cv : ρ → Option Value × St} {σ : St} {pc : Nat} {lv : List (Nat × Value)} {st : List Value} {o : Option ρ} {off : Int} (hd : decode K.1 pc = .ok (.ifnonnull off, 3)) (k : T K cv σ (pc + 3) lv (st) o) : T K cv σ pc lv (.null :: st) o := by
  refine T.step (fun E L r σ' C h => ?_) k
  obtain ⟨p, l, e, s, m, args, below, meth, c, D, cA, A, σ0, L0⟩ := E
  obtain ⟨hx, hb, hml, hown, hts, hK, hlocks, hret, hA, hX, hscr⟩ := C
  intro g0 g1 hL H locs ls hP hD hS hl
  exact lv_ifnonnullN hx hb hd (h g0 g1 hL H locs ls hP hD hS hl)
theorem T_ldcS {ρ : Type} {K : Ks} {cv : ρ → Option Value × St} {σ : St} {pc : Nat} {lv : List (Nat × Value)} {st : List Value} {o : Option ρ} {ix : Nat} {tx : String} (q : Nat) (ho : ∀ (L : Nat → Nat) (A : Nat → Prop) (U : State) (H : Heap), Ext L A U H → vk_R K.2.1 ix tx (L q) U) (hd : decode K.1 pc = .ok (.ldc ix, 2)) (k : T K cv σ (pc + 2) lv (.ref q :: st) o) : T K cv σ pc lv (st) o := by
  refine T.step (fun E L r σ' C h => ?_) k
  obtain ⟨p, l, e, s, m, args, below, meth, c, D, cA, A, σ0, L0⟩ := E
  obtain ⟨hx, hb, hml, hown, hts, hK, hlocks, hret, hA, hX, hscr⟩ := C
  intro g0 g1 hL H locs ls hP hD hS hl
  exact va_ldcS hx hb hown (ho L A s H (hX.next hL hS (fun _ q => q) (State.WarmedH.refl s))) hd (h g0 g1 hL H locs ls hP hD hS hl)
theorem T_slen {ρ : Type} {K : Ks} {cv : ρ → Option Value × St} {σ : St} {pc : Nat} {lv : List (Nat × Value)} {st : List Value} {o : Option ρ} {xs : Nat → Int32} {n : Nat} (hs : K.2.2.2.2.2.2 = some (xs, n)) (hd : decode K.1 pc = .ok (.arraylength, 1)) (k : T K cv σ (pc + 1) lv (.int (Int32.ofNat n) :: st) o) : T K cv σ pc lv (.ref 300 :: st) o := by
  refine T.step (fun E L r σ' C h => ?_) k
  obtain ⟨p, l, e, s, m, args, below, meth, c, D, cA, A, σ0, L0⟩ := E
  obtain ⟨hx, hb, hml, hown, hts, hK, hlocks, hret, hA, hX, hscr⟩ := C
  intro g0 g1 hL H locs ls hP hD hS hl
  rw [hs] at hscr
  obtain ⟨s1, s2, s3, -⟩ := hscr
  have e : L 300 = L0 300 := hL 300 (by decide) (by decide)
  exact va_slen hx hb (by rw [e]; exact s1) (by rw [e]; exact s3) (by rw [e]; exact s2) hS hd (h g0 g1 hL H locs ls hP hD hS hl)
theorem T_sld {ρ : Type} {K : Ks} {cv : ρ → Option Value × St} {σ : St} {pc : Nat} {lv : List (Nat × Value)} {st : List Value} {f : Int32 → Option ρ} {xs : Nat → Int32} {n : Nat} {i : Int32} (hs : K.2.2.2.2.2.2 = some (xs, n)) (hd : decode K.1 pc = .ok (.iaload, 1)) (k : ∀ y, T K cv σ (pc + 1) lv (.int y :: st) (f y)) : T K cv σ pc lv (.int i :: .ref 300 :: st) ((rd xs n i).bind f) := by
  intro x hx
  unfold rd at hx
  by_cases hin : i < 0 ∨ n ≤ i.toNatClampNeg
  · rw [if_pos hin] at hx
    cases hx
  · rw [if_neg hin] at hx
    revert x
    show T K cv σ pc lv (.int i :: .ref 300 :: st) (f (xs i.toNatClampNeg))
    refine T.step (fun E L r σ' C h => ?_) (k (xs i.toNatClampNeg))
    obtain ⟨p, l, e, s, m, args, below, meth, c, D, cA, A, σ0, L0⟩ := E
    obtain ⟨hx, hb, hml, hown, hts, hK, hlocks, hret, hA, hX, hscr⟩ := C
    intro g0 g1 hL H locs ls hP hD hS hl
    rw [hs] at hscr
    obtain ⟨s1, s2, s3, -⟩ := hscr
    have e : L 300 = L0 300 := hL 300 (by decide) (by decide)
    exact va_sld hx hb (by rw [e]; exact s1) (by rw [e]; exact s3) (by rw [e]; exact s2) hS hin hd (h g0 g1 hL H locs ls hP hD hS hl)
theorem T_i2c {ρ : Type} {K : Ks} {cv : ρ → Option Value × St} {σ : St} {pc : Nat} {lv : List (Nat × Value)} {st : List Value} {o : Option ρ} {x : Int32} (hd : decode K.1 pc = .ok (.i2c, 1)) (k : T K cv σ (pc + 1) lv (.int (x.toUInt32 % 65536).toInt32 :: st) o) : T K cv σ pc lv (.int x :: st) o := by
  refine T.step (fun E L r σ' C h => ?_) k
  obtain ⟨p, l, e, s, m, args, below, meth, c, D, cA, A, σ0, L0⟩ := E
  obtain ⟨hx, hb, hml, hown, hts, hK, hlocks, hret, hA, hX, hscr⟩ := C
  intro g0 g1 hL H locs ls hP hD hS hl
  exact lv_i2c hx hb hd rfl (h g0 g1 hL H locs ls hP hD hS hl)
theorem T_aconst_null {ρ : Type} {K : Ks} {cv : ρ → Option Value × St} {σ : St} {pc : Nat} {lv : List (Nat × Value)} {st : List Value} {o : Option ρ}  (hd : decode K.1 pc = .ok (.aconst_null, 1)) (k : T K cv σ (pc + 1) lv (.null :: st) o) : T K cv σ pc lv (st) o := by
  refine T.step (fun E L r σ' C h => ?_) k
  obtain ⟨p, l, e, s, m, args, below, meth, c, D, cA, A, σ0, L0⟩ := E
  obtain ⟨hx, hb, hml, hown, hts, hK, hlocks, hret, hA, hX, hscr⟩ := C
  intro g0 g1 hL H locs ls hP hD hS hl
  exact lv_null hx hb hd (h g0 g1 hL H locs ls hP hD hS hl)
theorem T_getSc {ρ : Type} {K : Ks} {cv : ρ → Option Value × St} {σ : St} {pc : Nat} {lv : List (Nat × Value)} {st : List Value} {o : Option ρ} {ix : Nat} (i : Nat) (hi : i < 3) (hlink : Cond.fieldLink K.2.1 ix "java/lang/String" "coder" "B" ∈ TB) (hd : decode K.1 pc = .ok (.getfield ix, 3)) (k : T K cv σ (pc + 3) lv (.int 0 :: st) o) : T K cv σ pc lv (.ref (200 + i) :: st) o := by
  refine T.step (fun E L r σ' C h => ?_) k
  obtain ⟨p, l, e, s, m, args, below, meth, c, D, cA, A, σ0, L0⟩ := E
  obtain ⟨hx, hb, hml, hown, hts, hK, hlocks, hret, hA, hX, hscr⟩ := C
  intro g0 g1 hL H locs ls hP hD hS hl
  have hx2 := hX.next hL hS (fun _ q => q) (State.WarmedH.refl s)
  exact va_getX (N := 3) (v := fun _ => .int 0) (ad := fun i => L (200 + i)) hx hb (fun j hj => ((hX.next (H := s.heap) (locs := []) hL va_S.rf (fun _ q => q) (State.WarmedH.refl s)).2.2.1.1 j hj).2.1) hi hS hown (hts _ hlink) (fun _ q => q) hd (h g0 g1 hL H locs ls hP hD hS hl)
theorem T_getSv {ρ : Type} {K : Ks} {cv : ρ → Option Value × St} {σ : St} {pc : Nat} {lv : List (Nat × Value)} {st : List Value} {o : Option ρ} {ix : Nat} (i : Nat) (hi : i < 3) (hlink : Cond.fieldLink K.2.1 ix "java/lang/String" "value" "[B" ∈ TB) (hd : decode K.1 pc = .ok (.getfield ix, 3)) (k : T K cv σ (pc + 3) lv (.ref (210 + i) :: st) o) : T K cv σ pc lv (.ref (200 + i) :: st) o := by
  refine T.step (fun E L r σ' C h => ?_) k
  obtain ⟨p, l, e, s, m, args, below, meth, c, D, cA, A, σ0, L0⟩ := E
  obtain ⟨hx, hb, hml, hown, hts, hK, hlocks, hret, hA, hX, hscr⟩ := C
  intro g0 g1 hL H locs ls hP hD hS hl
  exact va_getX (N := 3) (v := fun i => .ref (L (210 + i))) (ad := fun i => L (200 + i)) hx hb (fun j hj => ((hX.next (H := s.heap) (locs := []) hL va_S.rf (fun _ q => q) (State.WarmedH.refl s)).2.2.1.1 j hj).2.2.1) hi hS hown (hts _ hlink) (fun _ q => q) hd (h g0 g1 hL H locs ls hP hD hS hl)
theorem T_getsCS {ρ : Type} {K : Ks} {cv : ρ → Option Value × St} {σ : St} {pc : Nat} {lv : List (Nat × Value)} {st : List Value} {o : Option ρ} {ix : Nat} (hlink : Cond.fieldLink K.2.1 ix "java/lang/String" "COMPACT_STRINGS" "Z" ∈ TB) (hd : decode K.1 pc = .ok (.getstatic ix, 3)) (k : T K cv σ (pc + 3) lv (.int 1 :: st) o) : T K cv σ pc lv (st) o := by
  refine T.step (fun E L r σ' C h => ?_) k
  obtain ⟨p, l, e, s, m, args, below, meth, c, D, cA, A, σ0, L0⟩ := E
  obtain ⟨hx, hb, hml, hown, hts, hK, hlocks, hret, hA, hX, hscr⟩ := C
  intro g0 g1 hL H locs ls hP hD hS hl
  exact va_gets hx hb hX.2.2.2.1 hS hown (hts _ hlink) (fun _ q => q) hd (h g0 g1 hL H locs ls hP hD hS hl)
theorem T_slenS {ρ : Type} {K : Ks} {cv : ρ → Option Value × St} {σ : St} {pc : Nat} {lv : List (Nat × Value)} {st : List Value} {o : Option ρ} {v : Int32} (i : Nat) (hi : i < 3) (hv : Int32.ofNat (strL.getD i 0) = v) (hd : decode K.1 pc = .ok (.arraylength, 1)) (k : T K cv σ (pc + 1) lv (.int v :: st) o) : T K cv σ pc lv (.ref (210 + i) :: st) o := by
  refine T.step (fun E L r σ' C h => ?_) k
  obtain ⟨p, l, e, s, m, args, below, meth, c, D, cA, A, σ0, L0⟩ := E
  obtain ⟨hx, hb, hml, hown, hts, hK, hlocks, hret, hA, hX, hscr⟩ := C
  intro g0 g1 hL H locs ls hP hD hS hl
  exact va_tlen hx hb ((hX.next (H := s.heap) (locs := []) hL va_S.rf (fun _ q => q) (State.WarmedH.refl s)).2.2.1.1 i hi).2.2.2 hS hv hd (h g0 g1 hL H locs ls hP hD hS hl)
theorem T_baldS {ρ : Type} {K : Ks} {cv : ρ → Option Value × St} {σ : St} {pc : Nat} {lv : List (Nat × Value)} {st : List Value} {f : Int32 → Option ρ} {i : Int32} (j : Nat) (hj : j < 3) (hd : decode K.1 pc = .ok (.baload, 1)) (k : ∀ y, T K cv σ (pc + 1) lv (.int y :: st) (f y)) : T K cv σ pc lv (.int i :: .ref (210 + j) :: st) ((rd (fun z => (strB.getD j []).getD z 0) (strL.getD j 0) i).bind f) := by
  intro x hx
  unfold rd at hx
  by_cases hin : i < 0 ∨ strL.getD j 0 ≤ i.toNatClampNeg
  · rw [if_pos hin] at hx
    cases hx
  · rw [if_neg hin] at hx
    revert x
    show T K cv σ pc lv (.int i :: .ref (210 + j) :: st) (f ((strB.getD j []).getD i.toNatClampNeg 0))
    refine T.step (fun E L r σ' C h => ?_) (k _)
    obtain ⟨p, l, e, s, m, args, below, meth, c, D, cA, A, σ0, L0⟩ := E
    obtain ⟨hx, hb, hml, hown, hts, hK, hlocks, hret, hA, hX, hscr⟩ := C
    intro g0 g1 hL H locs ls hP hD hS hl
    exact va_tb hx hb ((hX.next (H := s.heap) (locs := []) hL va_S.rf (fun _ q => q) (State.WarmedH.refl s)).2.2.1.1 j hj).2.2.2 hS hin rfl hd (h g0 g1 hL H locs ls hP hD hS hl)
/-- the formatter: null, or whatever it is -/
def ExtF (L : Nat → Nat) : Prop := True
theorem T_nret {ρ : Type} {K : Ks} {cv : ρ → Option Value × St} {σ : St} {pc : Nat} {lv : List (Nat × Value)} {x : Int32} {y : ρ} (ty : FieldType) (hr : K.2.2.1 = some ty) (hd : decode K.1 pc = .ok (.ireturn, 1)) (hn : narrow ty (.int x) = .int x) (hy : cv y = (some (.int x), σ)) : T K cv σ pc lv [.int x] (some y) := by
  intro z hz
  cases hz
  rw [hy]
  refine ⟨⟨Nat.le_refl _, Nat.le_refl _⟩, fun E L C => ?_⟩
  obtain ⟨p, l, e, s, m, args, below, meth, c, D, cA, A, σ0, L0⟩ := E
  obtain ⟨hx, hb, hml, hown, hts, hK, hlocks, hret, hA, hX, hscr⟩ := C
  intro g0 g1 hL H locs ls hP hD hS hl
  exact W.zret hx hb (hret.trans hr) hn (fun t ht hW => ⟨⟨L, rfl, hL, by rw [ht]; exact hP, va_K.moved hW.alike hK, hD⟩, hS.F ht⟩) hS.2.2 hd hlocks
theorem T_creturn {K : Ks} {σ : St} {pc : Nat} {lv : List (Nat × Value)} {x : Int32} (hr : K.2.2.1 = some .char) (hd : decode K.1 pc = .ok (.ireturn, 1)) : T K (cPi σ) σ pc lv [.int x] (chx x) := by
  unfold chx
  refine T_ite (fun h => ?_) (fun _ => T_none)
  exact T_nret .char hr hd (by rw [← h]; exact pk_nc x) rfl
theorem T_areturn {ρ : Type} {K : Ks} {cv : ρ → Option Value × St} {σ : St} {pc : Nat} {lv : List (Nat × Value)} {v : Value} {y : ρ} {nm : String} (hr : K.2.2.1 = some (.object nm)) (hv : v = .null ∨ ∃ q, v = .ref q) (hd : decode K.1 pc = .ok (.areturn, 1)) (hy : cv y = (some v, σ)) : T K cv σ pc lv [v] (some y) := by
  intro z hz
  cases hz
  rw [hy]
  refine ⟨⟨Nat.le_refl _, Nat.le_refl _⟩, fun E L C => ?_⟩
  obtain ⟨p, l, e, s, m, args, below, meth, c, D, cA, A, σ0, L0⟩ := E
  obtain ⟨hx, hb, hml, hown, hts, hK, hlocks, hret, hA, hX, hscr⟩ := C
  intro g0 g1 hL H locs ls hP hD hS hl
  exact W.aret hx hb (hret.trans hr) (Or.inl ⟨nm, rfl⟩) (by rcases hv with rfl | ⟨q, rfl⟩; exact Or.inl rfl; exact Or.inr ⟨_, rfl⟩) (fun t ht hW => ⟨⟨L, rfl, hL, by rw [ht]; exact hP, va_K.moved hW.alike hK, hD⟩, hS.F ht⟩) hS.2.2 hd hlocks
theorem T_getsF {ρ : Type} {K : Ks} {cv : ρ → Option Value × St} {σ : St} {pc : Nat} {lv : List (Nat × Value)} {st : List Value} {o : Option ρ} {ix : Nat} (hlink : Cond.fieldLink K.2.1 ix "jdk/internal/util/Preconditions" "SIOOBE_FORMATTER" "Ljava/util/function/BiFunction;" ∈ TB) (hd : decode K.1 pc = .ok (.getstatic ix, 3)) (k1 : T K cv σ (pc + 3) lv (.null :: st) o) (k2 : T K cv σ (pc + 3) lv (.ref 220 :: st) o) : T K cv σ pc lv st o := by
  intro x hx
  obtain ⟨m1, k1⟩ := k1 x hx
  obtain ⟨-, k2⟩ := k2 x hx
  refine ⟨m1, fun E L C => ?_⟩
  have k1 := k1 E L C
  have k2 := k2 E L C
  obtain ⟨p, l, e, s, m, args, below, meth, c, D, cA, A, σ0, L0⟩ := E
  obtain ⟨hx, hb, hml, hown, hts, hK, hlocks, hret, hA, hX, hscr⟩ := C
  intro g0 g1 hL H locs ls hP hD hS hl
  rcases hX.2.2.2.2 with h | h
  · exact va_gets hx hb h hS hown (hts _ hlink) (fun _ q => q) hd (k1 g0 g1 hL H locs ls hP hD hS hl)
  · have e : L 220 = L0 220 := hL 220 (by decide) (by decide)
    exact va_gets hx hb h hS hown (hts _ hlink) (fun _ q => q) hd (by
      have h2 := k2 g0 g1 hL H locs ls hP hD hS hl
      rw [show (Value.ref 220 :: st).map (tv L) = .ref (L0 220) :: st.map (tv L) from by rw [← e]; rfl] at h2
      exact h2)
theorem Rn_VS {ρ : Type} {K : Ks} {cv1 : ρ → Option Value × St} {σ : St} {pc : Nat} {stk rest : List Value} {o1 : Option ρ} {y : MethodName} {K1 : Ks} {as : List Value} {idx n : Nat} (i : Nat) (hi : i < 3) (hM : Ct y K1 (.ref (200 + i) :: as) σ cv1 o1) (hyc : y.cls = "java/lang/String") (hm : MV y K1 n) (hlink : Cond.methodLink K.2.1 idx y ∈ TB) (hlen : as.length = n) (hR : K1.2.2.2.1 + 1 ≤ K.2.2.2.1 ∧ 8 + (K1.2.2.2.2.2.1 + 11) + K1.2.2.2.2.1 ≤ K.2.2.2.2.1) (hcat : (rest.map fun v => v.category).sum ≤ 8) (hd : decode K.1 pc = .ok (.invokevirtual idx, 3)) (hst : stk = as.reverse ++ .ref (200 + i) :: rest) : Rn K cv1 σ pc stk rest o1 := by
  intro x1 h1
  obtain ⟨mono, hM⟩ := hM x1 h1
  refine ⟨mono, fun E L C => ?_⟩
  obtain ⟨p, l, e, s, m, args, below, meth, c, D, cA, A, σ0, L0⟩ := E
  obtain ⟨hx, hb, hml, hown, hts, hK, hlocks, hret, hA, hX, hscr⟩ := C
  intro k0 k1 H locs ls cells slots hc0 hc1 hP hD hls hL hS
  have hF : ∀ q : Nat, va_A (wl cA σ L) H.size q → A q := fun q hq => by
    rcases hq with ⟨i, y, hi⟩ | hq
    · exact hD.2 i _ hi
    · exact hA q (Nat.le_trans hS.1 hq)
  obtain ⟨⟨w1, w2, w3, w4⟩, d1, d2, d3⟩ := hm
  have hG : GoodIn TB (wsV K.2.1 idx y.cls y (Cond.code y K1.1 K1.2.2.2.2.2.1 K1.2.2.1 :: TB)) := tb_good (tb_app (fun w hw => by
    simp only [List.mem_cons, List.not_mem_nil, or_false] at hw
    rcases hw with rfl | rfl | rfl | rfl <;> assumption) (tb_code w1))
  have hO := ((hX.next (H := H) hL hS (fun _ q => q) (State.WarmedH.refl s)).2.2.1.1 i hi).1
  obtain ⟨cellB, o1, o2, o3, -⟩ := hO
  exact ⟨_, va_runV (As := as.map (tv L)) (rest := rest.map (tv L)) ⟨hx, hb, hml, hown, hts⟩ (hM l D cA L H.size) (cwV n hts hG rfl rfl rfl ⟨rfl, d1, d2, d3⟩ hR) ⟨fun a U g mk q => by obtain ⟨q0, q1, q2, q3, q4, q5⟩ := q; exact ⟨q0, q1, q2, va_K.moved (u := U) (U := U.calling g mk a) (Vm.Alike.refl U.vm) q3, q4, q5.frame⟩, ⟨cellB, o1, o2, by rw [hyc]; exact o3⟩, fun U hU hW => ⟨rfl, by rw [hU], by rw [hU]; exact hP, va_K.moved hW.alike hK, hD.weaken (fun _ _ _ _ => trivial), by rw [hU]; exact hX.next hL hS hF hW⟩⟩ rfl (by rw [List.length_map]; exact hlen) hls (by show stk.map (tv L) = _; rw [hst]; simp [tv]) (lv_room (by rw [tv_cats]; exact hcat)) hd ⟨hc0, hc1⟩⟩