/-- a loop: body, again and again, n times at most -/
def it {τ ρ : Type} (body : (τ → Option ρ) → τ → Option ρ) : Nat → τ → Option ρ
  | 0, _ => none
  | n + 1, t => body (it body n) t
/-- more turns than any loop takes -/
def FU : Nat := 1000000
theorem it_T {τ ρ : Type} {K : Ks} {cv : ρ → Option Value × St} {S : τ → St} {pc : Nat} {lv : τ → List (Nat × Value)} {st : τ → List Value} {body : (τ → Option ρ) → τ → Option ρ} (hb : ∀ kb : τ → Option ρ, (∀ t, T K cv (S t) pc (lv t) (st t) (kb t)) → ∀ t, T K cv (S t) pc (lv t) (st t) (body kb t)) : ∀ (n : Nat) (t : τ), T K cv (S t) pc (lv t) (st t) (it body n t)
  | 0, _ => T_none
  | n + 1, t => hb (it body n) (it_T hb n) t
/-- what holds of a loop: by an invariant and a measure that falls -/
theorem it_inv {τ ρ : Type} {body : (τ → Option ρ) → τ → Option ρ} (I : τ → Prop) (μ : τ → Nat) (Q : τ → Option ρ → Prop) (hb : ∀ (t : τ), I t → ∀ kb : τ → Option ρ, (∀ t', I t' → μ t' < μ t → Q t' (kb t')) → Q t (body kb t)) : ∀ (n : Nat) (t : τ), I t → μ t < n → Q t (it body n t)
  | 0, _, _, h => absurd h (Nat.not_lt_zero _)
  | n + 1, t, hI, h => hb t hI _ (fun t' hI' hm => it_inv I μ Q hb n t' hI' (Nat.lt_of_lt_of_le hm (Nat.le_of_lt_succ h)))
theorem Ct.ofJ {ρ : Type} {y : MethodName} {K : Ks} {args : List Value} {σ : St} {cv : ρ → Option Value × St} {o : Option ρ} (hy : plainFor y = true) (ho : K.2.1 = y.cls) (hn : (lg_sl args).length ≤ K.2.2.2.2.2)
    (h : T K cv σ 0 (lv_args 0 args) [] o) : Ct y K args σ cv o := by
  intro x hx
  refine ⟨(h x hx).1, fun l D cA L sz => ?_⟩
  refine MetFree.of_bodySF (code := K.1) (maxLocals := K.2.2.2.2.2) (ret := K.2.2.1) hy ?_ ?_
  · intro args s m h hn
    obtain ⟨meth, c, h1, h2, h3, h4, h5, h6, -, -⟩ := Cond.code_spec hn (atoms_spec (ws := Cond.code y K.1 K.2.2.2.2.2 K.2.2.1 :: TB) h _ List.mem_cons_self)
    exact ⟨meth, c, h1, h2, h3, h4, h5, h6⟩
  intro p e s m args' below meth c s₁ B hml hv _
  have hh0 : s₁.heap = s.heap := by rw [B.state]; rfl
  obtain ⟨rfl, hsz, hP, hK, hD0, hX⟩ := hv
  subst hsz
  have hA : ∀ q : Nat, s.heap.size ≤ q → va_A (wl cA σ L) s.heap.size q := fun q h => Or.inr h
  have hts := atoms_spec (ws := Cond.code y K.1 K.2.2.2.2.2 K.2.2.1 :: TB) B.pre
  have k := (h x hx).2 (p, l, e, s, m, (args.map (tv L)).toArray, below, meth, c, D, cA, va_A (wl cA σ L) s.heap.size, σ, L) L ⟨B.exec, B.bytes, hml, by rw [ho]; exact findClass_of_methodNamed B.named, fun w hw => hts w (List.mem_cons_of_mem _ hw), hK, B.notSynchronized, B.returns, hA, hX⟩
  have hl := lv_entry (args.map (tv L)) (n := K.2.2.2.2.2) (by rw [sl_tv]; exact hn)
  rw [lv_args_tv] at hl
  have k2 := k (Nat.le_refl _) (Nat.le_refl _) Lok.rf s.heap [] _ hP hD0.self va_S.rf hl
  rw [Nat.sub_self, Nat.sub_self] at k2
  rw [lg_entry_eq]
  obtain ⟨t, a1, o, b1, b2, b3⟩ := k2 s₁ hh0 (Stand.of_body B)
  exact ⟨t, o, a1, b1, b2, ⟨b3.1, b3.2⟩⟩
theorem i32_ne {x c : Int32} {n : Int} (h : ¬ x = c) (hc : c.toInt = n) : ¬ x.toInt = n := fun e => h (Int32.toInt_inj.mp (e.trans hc.symm))
/-- which reader: of rolls, of plots, of habits, none -/
def rdr (x : Int32) : Value := if x = 0 then .ref 2 else if x = 1 then .ref 3 else if x = 2 then .ref 4 else .null
def cPr (σ : St) (x : Int32) : Option Value × St := (some (rdr x), σ)
theorem T_callRd {ρ : Type} {K : Ks} {cv : ρ → Option Value × St} {σ : St} {pc : Nat} {lv : List (Nat × Value)} {stk rest : List Value} {x : Int32} {o : Option ρ} (hr : Rn K (cPr σ) σ pc stk rest (some x)) (hs : (lv.all (fun q => safe q.2) && rest.all safe) = true) (k : T K cv σ (pc + 3) lv (rdr x :: rest) o) : T K cv σ pc lv stk o := by
  have h := T_call (cv := cv) (f := fun y => if y = x then o else none) hr hs (fun y => T_ite (fun e => by rw [e]; exact k) (fun _ => T_none))
  have e : ((some x).bind fun y => if y = x then o else none) = o := if_pos rfl
  rw [e] at h
  exact h
theorem T_ifnonnull_n {ρ : Type} {K : Ks} {cv : ρ → Option Value × St} {σ : St} {pc : Nat} {lv : List (Nat × Value)} {st : List Value} {o : Option ρ} {off : Int} (hd : decode K.1 pc = .ok (.ifnonnull off, 3)) (k : T K cv σ (pc + 3) lv (st) o) : T K cv σ pc lv (.null :: st) o := by
  refine T.step (fun E L r σ' C h => ?_) k
  obtain ⟨p, l, e, s, m, args, below, meth, c, D, cA, A, σ0, L0⟩ := E
  obtain ⟨hx, hb, hml, hown, hts, hK, hlocks, hret, hA, hX⟩ := C
  intro g0 g1 hL H locs ls hP hD hS hl
  exact lv_ifnonnullN hx hb hd (h g0 g1 hL H locs ls hP hD hS hl)
theorem T_ldcS {ρ : Type} {K : Ks} {cv : ρ → Option Value × St} {σ : St} {pc : Nat} {lv : List (Nat × Value)} {st : List Value} {o : Option ρ} {ix : Nat} {tx : String} (q : Nat) (ho : ∀ (L : Nat → Nat) (A : Nat → Prop) (U : State) (H : Heap), Ext L A U H → vk_R K.2.1 ix tx (L q) U) (hd : decode K.1 pc = .ok (.ldc ix, 2)) (k : T K cv σ (pc + 2) lv (.ref q :: st) o) : T K cv σ pc lv (st) o := by
  refine T.step (fun E L r σ' C h => ?_) k
  obtain ⟨p, l, e, s, m, args, below, meth, c, D, cA, A, σ0, L0⟩ := E
  obtain ⟨hx, hb, hml, hown, hts, hK, hlocks, hret, hA, hX⟩ := C
  intro g0 g1 hL H locs ls hP hD hS hl
  exact va_ldcS hx hb hown (ho L A s H (hX.next hL hS (fun _ q => q) (State.WarmedH.refl s))) hd (h g0 g1 hL H locs ls hP hD hS hl)
/-- behind 'new long[x]' at an id: zeros, its length, what was made -/
def uNew (σ : St) (q : Nat) (x : Int32) : St := uN (uN (uN (uB σ q (fun _ => 0)) q x.toNatClampNeg) 0 (zN σ 0 + 1)) 1 (zN σ 1 + x.toNatClampNeg)
def na {ρ : Type} (x : Int32) (o : Option ρ) : Option ρ := if x < 0 ∨ 200000 < x then none else o
theorem T_newL {ρ : Type} {K : Ks} {cv : ρ → Option Value × St} {σ : St} {pc : Nat} {lv : List (Nat × Value)} {st : List Value} {o : Option ρ} {id j ci idx : Nat} {n : String} {fs : List (Nat × Nat)} {x : Int32} (hq : lay[7]? = some (.inl (ci, fs))) (hj : fs[j]? = some (2, id)) (hid : id = idSlots ∨ id = idReached) (hw : Cond.arrayClass .long ∈ TB) (hlink : Cond.fieldLink K.2.1 idx "CueRolls$Orders" n "[J" ∈ TB) (hd : decode K.1 pc = .ok (.newarray .long, 2)) (hd2 : decode K.1 (pc + 2) = .ok (.putfield idx, 3)) (k : T K cv (uNew σ id x) (pc + 5) lv st o) : T K cv σ pc lv (.int x :: .ref 7 :: st) (na x o) := by
  sorry
