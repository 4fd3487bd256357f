theorem T.stepS {ρ : Type} {K : Ks} {cv : ρ → Option Value × St} {σ σ2 : St} {pc pc' : Nat} {lv lv' : List (Nat × Value)} {stk stk' : List Value} {o : Option ρ} (hN : zN σ2 = zN σ) (h : ∀ (E : Ev) (L : Nat → Nat) (r : Option Value) (σ' : St), Cx E K → TW E K σ2 L pc' lv' stk' r σ' → TW E K σ L pc lv stk r σ') (k : T K cv σ2 pc' lv' stk' o) : T K cv σ pc lv stk o :=
  fun x hx => ⟨by rw [← hN]; exact (k x hx).1, fun E L C => h E L _ _ C ((k x hx).2 E L C)⟩
theorem tl_at {L : Nat → Nat} {lv : List (Nat × Value)} {j i : Nat} {v : Value} (h : lv[j]? = some (i, v)) : (tl L lv)[j]? = some (i, tv L v) := by
  unfold tl
  rw [List.getElem?_map, h]
  rfl
def lins (i : Nat) (v : Value) : List (Nat × Value) → List (Nat × Value)
  | [] => [(i, v)]
  | (j, w) :: t => if i < j then (i, v) :: (j, w) :: t else (j, w) :: lins i v t
def lset1 (lv : List (Nat × Value)) (i : Nat) (v : Value) : List (Nat × Value) := lins i v (lv.filter (fun q => !(q.1 == i) && !(q.1 + 1 == i && q.2.category == 2)))
def lset2 (lv : List (Nat × Value)) (i : Nat) (v : Value) : List (Nat × Value) := lins i v (lv.filter (fun q => !(q.1 == i) && (!(q.1 == i + 1) && !(q.1 + 1 == i && q.2.category == 2))))
theorem lins_mem {i : Nat} {v : Value} {q : Nat × Value} : ∀ {l : List (Nat × Value)}, q ∈ lins i v l → q ∈ (i, v) :: l
  | [], h => h
  | (j, w) :: t, h => by
    unfold lins at h
    by_cases hij : i < j
    · rw [if_pos hij] at h
      exact h
    · rw [if_neg hij] at h
      rcases List.mem_cons.mp h with rfl | h
      · exact List.mem_cons_of_mem _ List.mem_cons_self
      · rcases List.mem_cons.mp (lins_mem h) with rfl | h
        · exact List.mem_cons_self
        · exact List.mem_cons_of_mem _ (List.mem_cons_of_mem _ h)
theorem tl_filter {L : Nat → Nat} {lv : List (Nat × Value)} {F : Nat × Value → Bool} (hF : ∀ q : Nat × Value, F (q.1, tv L q.2) = F q) : (tl L lv).filter F = tl L (lv.filter F) := by
  unfold tl
  rw [List.filter_map]
  refine congrArg _ (congrArg (fun g => lv.filter g) (funext fun q => hF q))
theorem lset_has {L : Nat → Nat} {ls : Array Slot} {nL i : Nat} {v : Value} {lv lv' : List (Nat × Value)} {F : Nat × Value → Bool} (hF : ∀ q : Nat × Value, F (q.1, tv L q.2) = F q) (h : lv_has ls nL ((i, tv L v) :: (tl L lv).filter F)) (hl : lins i v (lv.filter F) = lv') : lv_has ls nL (tl L lv') := by
  refine ⟨h.1, h.2.1, fun q hq => h.2.2 q ?_⟩
  rw [← hl] at hq
  unfold tl at hq
  obtain ⟨q0, h0, rfl⟩ := List.mem_map.mp hq
  rw [tl_filter hF]
  rcases List.mem_cons.mp (lins_mem h0) with rfl | h1
  · exact List.mem_cons_self
  · exact List.mem_cons_of_mem _ (List.mem_map.mpr ⟨q0, h1, rfl⟩)
theorem tl_pick {L : Nat → Nat} {lv lv' : List (Nat × Value)} (ks : List Nat) (h : lv_pick lv ks = lv') : lv_pick (tl L lv) ks = tl L lv' := by
  rw [← h]
  unfold lv_pick tl
  rw [List.map_filterMap]
  refine congrArg (fun g => ks.filterMap g) (funext fun k => ?_)
  rw [List.getElem?_map]
/-- fewer locals -/
theorem T_pick {ρ : Type} {K : Ks} {cv : ρ → Option Value × St} {σ : St} {pc : Nat} {lv : List (Nat × Value)} {st : List Value} {o : Option ρ} {lv' : List (Nat × Value)} (ks : List Nat) (h0 : lv_pick lv ks = lv') (k : T K cv σ pc lv' st o) : T K cv σ pc lv st o := by
  refine T.step (fun E L r σ' C h => ?_) k
  obtain ⟨p, l, e, s, m, args, below, meth, c, D, cA, A, σ0, L0⟩ := E
  obtain ⟨hx, hb, hml, hown, hts, hK, hlocks, hret, hA, hX, hscr⟩ := C
  intro g0 g1 hL H locs ls hP hD hS hl
  exact h g0 g1 hL H locs ls hP hD hS (lv_sub hl ks (tl_pick ks h0))
theorem T_let {ρ α : Type} {K : Ks} {cv : ρ → Option Value × St} {σ : St} {pc : Nat} {lv : α → List (Nat × Value)} {st : α → List Value} {f : α → Option ρ} (e : α) (k : ∀ y, T K cv σ pc (lv y) (st y) (f y)) : T K cv σ pc (lv e) (st e) ((some e).bind f) := k e
theorem T_letI {ρ : Type} {K : Ks} {cv : ρ → Option Value × St} {σ : St} {pc : Nat} {lv : List (Nat × Value)} {st : List Value} {f : Int32 → Option ρ} {e : Int32} (k : ∀ y, T K cv σ pc lv (.int y :: st) (f y)) : T K cv σ pc lv (.int e :: st) ((some e).bind f) := k e
theorem T_letL {ρ : Type} {K : Ks} {cv : ρ → Option Value × St} {σ : St} {pc : Nat} {lv : List (Nat × Value)} {st : List Value} {f : Int64 → Option ρ} {e : Int64} (k : ∀ y, T K cv σ pc lv (.long y :: st) (f y)) : T K cv σ pc lv (.long e :: st) ((some e).bind f) := k e
theorem T_letS {ρ : Type} {K : Ks} {cv : ρ → Option Value × St} {σ : St} {pc : Nat} {lv : List (Nat × Value)} {st : List Value} {f : St → Option ρ} (k : ∀ y, T K cv y pc lv st (f y)) : T K cv σ pc lv st ((some σ).bind f) := k σ
theorem T_none {ρ : Type} {K : Ks} {cv : ρ → Option Value × St} {σ : St} {pc : Nat} {lv : List (Nat × Value)} {st : List Value} : T K cv σ pc lv st none := fun x hx => by cases hx
theorem T_ite {ρ : Type} {K : Ks} {cv : ρ → Option Value × St} {σ : St} {pc : Nat} {lv : List (Nat × Value)} {st : List Value} {o : Option ρ} {o2 : Option ρ} {P : Prop} {hP : Decidable P} (k1 : P → T K cv σ pc lv st o) (k2 : ¬ P → T K cv σ pc lv st o2) : T K cv σ pc lv st (if P then o else o2) := by
  by_cases h : P
  · rw [if_pos h]; exact k1 h
  · rw [if_neg h]; exact k2 h

theorem T_iconst {ρ : Type} {K : Ks} {cv : ρ → Option Value × St} {σ : St} {pc : Nat} {lv : List (Nat × Value)} {st : List Value} {o : Option ρ} {n : Int} {v : Int32} (hd : decode K.1 pc = .ok (.iconst n, 1)) (hv : Int32.ofInt n = v) (k : T K cv σ (pc + 1) lv (.int v :: st) o) : T K cv σ pc lv (st) o := by
  refine T.step (fun E L r σ' C h => ?_) k
  obtain ⟨p, l, e, s, m, args, below, meth, c, D, cA, A, σ0, L0⟩ := E
  obtain ⟨hx, hb, hml, hown, hts, hK, hlocks, hret, hA, hX, hscr⟩ := C
  intro g0 g1 hL H locs ls hP hD hS hl
  exact lv_iconst hx hb hd hv (h g0 g1 hL H locs ls hP hD hS hl)
theorem T_bipush {ρ : Type} {K : Ks} {cv : ρ → Option Value × St} {σ : St} {pc : Nat} {lv : List (Nat × Value)} {st : List Value} {o : Option ρ} {n : Int} {v : Int32} (hd : decode K.1 pc = .ok (.bipush n, 2)) (hv : (Int8.ofInt n).toInt32 = v) (k : T K cv σ (pc + 2) lv (.int v :: st) o) : T K cv σ pc lv (st) o := by
  refine T.step (fun E L r σ' C h => ?_) k
  obtain ⟨p, l, e, s, m, args, below, meth, c, D, cA, A, σ0, L0⟩ := E
  obtain ⟨hx, hb, hml, hown, hts, hK, hlocks, hret, hA, hX, hscr⟩ := C
  intro g0 g1 hL H locs ls hP hD hS hl
  exact lv_bipush hx hb hd hv (h g0 g1 hL H locs ls hP hD hS hl)
theorem T_sipush {ρ : Type} {K : Ks} {cv : ρ → Option Value × St} {σ : St} {pc : Nat} {lv : List (Nat × Value)} {st : List Value} {o : Option ρ} {n : Int} {v : Int32} (hd : decode K.1 pc = .ok (.sipush n, 3)) (hv : (Int16.ofInt n).toInt32 = v) (k : T K cv σ (pc + 3) lv (.int v :: st) o) : T K cv σ pc lv (st) o := by
  refine T.step (fun E L r σ' C h => ?_) k
  obtain ⟨p, l, e, s, m, args, below, meth, c, D, cA, A, σ0, L0⟩ := E
  obtain ⟨hx, hb, hml, hown, hts, hK, hlocks, hret, hA, hX, hscr⟩ := C
  intro g0 g1 hL H locs ls hP hD hS hl
  exact lv_sipush hx hb hd hv (h g0 g1 hL H locs ls hP hD hS hl)
theorem T_lconst {ρ : Type} {K : Ks} {cv : ρ → Option Value × St} {σ : St} {pc : Nat} {lv : List (Nat × Value)} {st : List Value} {o : Option ρ} {n : Fin 2} {v : Int64} (hd : decode K.1 pc = .ok (.lconst n, 1)) (hv : Int64.ofNat (n : Nat) = v) (k : T K cv σ (pc + 1) lv (.long v :: st) o) : T K cv σ pc lv (st) o := by
  refine T.step (fun E L r σ' C h => ?_) k
  obtain ⟨p, l, e, s, m, args, below, meth, c, D, cA, A, σ0, L0⟩ := E
  obtain ⟨hx, hb, hml, hown, hts, hK, hlocks, hret, hA, hX, hscr⟩ := C
  intro g0 g1 hL H locs ls hP hD hS hl
  exact lv_lconst hx hb hd hv (h g0 g1 hL H locs ls hP hD hS hl)
theorem T_ldc {ρ : Type} {K : Ks} {cv : ρ → Option Value × St} {σ : St} {pc : Nat} {lv : List (Nat × Value)} {st : List Value} {o : Option ρ} {ix : Nat} {v : Int32} (hc : Cond.constant K.2.1 ix v ∈ TB) (hd : decode K.1 pc = .ok (.ldc ix, 2)) (k : T K cv σ (pc + 2) lv (.int v :: st) o) : T K cv σ pc lv (st) o := by
  refine T.step (fun E L r σ' C h => ?_) k
  obtain ⟨p, l, e, s, m, args, below, meth, c, D, cA, A, σ0, L0⟩ := E
  obtain ⟨hx, hb, hml, hown, hts, hK, hlocks, hret, hA, hX, hscr⟩ := C
  intro g0 g1 hL H locs ls hP hD hS hl
  exact lv_ldc hx hb hown (hts _ hc) hd (h g0 g1 hL H locs ls hP hD hS hl)
theorem T_ldcw {ρ : Type} {K : Ks} {cv : ρ → Option Value × St} {σ : St} {pc : Nat} {lv : List (Nat × Value)} {st : List Value} {o : Option ρ} {ix : Nat} {v : Int32} (hc : Cond.constant K.2.1 ix v ∈ TB) (hd : decode K.1 pc = .ok (.ldc_w ix, 3)) (k : T K cv σ (pc + 3) lv (.int v :: st) o) : T K cv σ pc lv (st) o := by
  refine T.step (fun E L r σ' C h => ?_) k
  obtain ⟨p, l, e, s, m, args, below, meth, c, D, cA, A, σ0, L0⟩ := E
  obtain ⟨hx, hb, hml, hown, hts, hK, hlocks, hret, hA, hX, hscr⟩ := C
  intro g0 g1 hL H locs ls hP hD hS hl
  exact lv_ldcw hx hb hown (hts _ hc) hd (h g0 g1 hL H locs ls hP hD hS hl)
theorem T_ldc2 {ρ : Type} {K : Ks} {cv : ρ → Option Value × St} {σ : St} {pc : Nat} {lv : List (Nat × Value)} {st : List Value} {o : Option ρ} {ix : Nat} {v : Int64} (hc : Cond.constantLong K.2.1 ix v ∈ TB) (hd : decode K.1 pc = .ok (.ldc2_w ix, 3)) (k : T K cv σ (pc + 3) lv (.long v :: st) o) : T K cv σ pc lv (st) o := by
  refine T.step (fun E L r σ' C h => ?_) k
  obtain ⟨p, l, e, s, m, args, below, meth, c, D, cA, A, σ0, L0⟩ := E
  obtain ⟨hx, hb, hml, hown, hts, hK, hlocks, hret, hA, hX, hscr⟩ := C
  intro g0 g1 hL H locs ls hP hD hS hl
  exact lv_ldc2 hx hb hown (hts _ hc) hd (h g0 g1 hL H locs ls hP hD hS hl)
theorem T_iload_n {ρ : Type} {K : Ks} {cv : ρ → Option Value × St} {σ : St} {pc : Nat} {lv : List (Nat × Value)} {st : List Value} {o : Option ρ} {kk : Fin 4} {i : Nat} {x : Int32} (j : Nat) (hd : decode K.1 pc = .ok (.iload_n kk, 1)) (hi : (kk : Nat) = i) (hj : lv[j]? = some (i, .int x)) (k : T K cv σ (pc + 1) lv (.int x :: st) o) : T K cv σ pc lv (st) o := by
  refine T.step (fun E L r σ' C h => ?_) k
  obtain ⟨p, l, e, s, m, args, below, meth, c, D, cA, A, σ0, L0⟩ := E
  obtain ⟨hx, hb, hml, hown, hts, hK, hlocks, hret, hA, hX, hscr⟩ := C
  intro g0 g1 hL H locs ls hP hD hS hl
  exact lv_iload_n hx hb hd hi (lv_at hl j (tl_at hj)) (h g0 g1 hL H locs ls hP hD hS hl)
theorem T_iload {ρ : Type} {K : Ks} {cv : ρ → Option Value × St} {σ : St} {pc : Nat} {lv : List (Nat × Value)} {st : List Value} {o : Option ρ} {i : Nat} {x : Int32} (j : Nat) (hd : decode K.1 pc = .ok (.iload i, 2)) (hj : lv[j]? = some (i, .int x)) (k : T K cv σ (pc + 2) lv (.int x :: st) o) : T K cv σ pc lv (st) o := by
  refine T.step (fun E L r σ' C h => ?_) k
  obtain ⟨p, l, e, s, m, args, below, meth, c, D, cA, A, σ0, L0⟩ := E
  obtain ⟨hx, hb, hml, hown, hts, hK, hlocks, hret, hA, hX, hscr⟩ := C
  intro g0 g1 hL H locs ls hP hD hS hl
  exact lv_iload hx hb hd (lv_at hl j (tl_at hj)) (h g0 g1 hL H locs ls hP hD hS hl)
theorem T_istore_n {ρ : Type} {K : Ks} {cv : ρ → Option Value × St} {σ : St} {pc : Nat} {lv : List (Nat × Value)} {st : List Value} {o : Option ρ} {kk : Fin 4} {i : Nat} {x : Int32} {lv' : List (Nat × Value)} (hd : decode K.1 pc = .ok (.istore_n kk, 1)) (hi : (kk : Nat) = i) (hn : i < K.2.2.2.2.2.1) (hl1 : lset1 lv i (.int x) = lv') (k : T K cv σ (pc + 1) lv' (st) o) : T K cv σ pc lv (.int x :: st) o := by
  refine T.step (fun E L r σ' C h => ?_) k
  obtain ⟨p, l, e, s, m, args, below, meth, c, D, cA, A, σ0, L0⟩ := E
  obtain ⟨hx, hb, hml, hown, hts, hK, hlocks, hret, hA, hX, hscr⟩ := C
  intro g0 g1 hL H locs ls hP hD hS hl
  exact lv_istore_n hx hb hd hi hl hn rfl (fun ls' hl' => h g0 g1 hL H locs ls' hP hD hS (lset_has (fun q => by dsimp only; rw [tv_cat]) hl' hl1))
theorem T_istore {ρ : Type} {K : Ks} {cv : ρ → Option Value × St} {σ : St} {pc : Nat} {lv : List (Nat × Value)} {st : List Value} {o : Option ρ} {i : Nat} {x : Int32} {lv' : List (Nat × Value)} (hd : decode K.1 pc = .ok (.istore i, 2)) (hn : i < K.2.2.2.2.2.1) (hl1 : lset1 lv i (.int x) = lv') (k : T K cv σ (pc + 2) lv' (st) o) : T K cv σ pc lv (.int x :: st) o := by
  refine T.step (fun E L r σ' C h => ?_) k
  obtain ⟨p, l, e, s, m, args, below, meth, c, D, cA, A, σ0, L0⟩ := E
  obtain ⟨hx, hb, hml, hown, hts, hK, hlocks, hret, hA, hX, hscr⟩ := C
  intro g0 g1 hL H locs ls hP hD hS hl
  exact lv_istore hx hb hd hl hn rfl (fun ls' hl' => h g0 g1 hL H locs ls' hP hD hS (lset_has (fun q => by dsimp only; rw [tv_cat]) hl' hl1))
theorem T_lload_n {ρ : Type} {K : Ks} {cv : ρ → Option Value × St} {σ : St} {pc : Nat} {lv : List (Nat × Value)} {st : List Value} {o : Option ρ} {kk : Fin 4} {i : Nat} {x : Int64} (j : Nat) (hd : decode K.1 pc = .ok (.lload_n kk, 1)) (hi : (kk : Nat) = i) (hj : lv[j]? = some (i, .long x)) (k : T K cv σ (pc + 1) lv (.long x :: st) o) : T K cv σ pc lv (st) o := by
  refine T.step (fun E L r σ' C h => ?_) k
  obtain ⟨p, l, e, s, m, args, below, meth, c, D, cA, A, σ0, L0⟩ := E
  obtain ⟨hx, hb, hml, hown, hts, hK, hlocks, hret, hA, hX, hscr⟩ := C
  intro g0 g1 hL H locs ls hP hD hS hl
  exact lv_lload_n hx hb hd hi (lv_at hl j (tl_at hj)) (h g0 g1 hL H locs ls hP hD hS hl)
theorem T_lload {ρ : Type} {K : Ks} {cv : ρ → Option Value × St} {σ : St} {pc : Nat} {lv : List (Nat × Value)} {st : List Value} {o : Option ρ} {i : Nat} {x : Int64} (j : Nat) (hd : decode K.1 pc = .ok (.lload i, 2)) (hj : lv[j]? = some (i, .long x)) (k : T K cv σ (pc + 2) lv (.long x :: st) o) : T K cv σ pc lv (st) o := by
  refine T.step (fun E L r σ' C h => ?_) k
  obtain ⟨p, l, e, s, m, args, below, meth, c, D, cA, A, σ0, L0⟩ := E
  obtain ⟨hx, hb, hml, hown, hts, hK, hlocks, hret, hA, hX, hscr⟩ := C
  intro g0 g1 hL H locs ls hP hD hS hl
  exact lv_lload hx hb hd (lv_at hl j (tl_at hj)) (h g0 g1 hL H locs ls hP hD hS hl)
theorem T_lstore_n {ρ : Type} {K : Ks} {cv : ρ → Option Value × St} {σ : St} {pc : Nat} {lv : List (Nat × Value)} {st : List Value} {o : Option ρ} {kk : Fin 4} {i : Nat} {x : Int64} {lv' : List (Nat × Value)} (hd : decode K.1 pc = .ok (.lstore_n kk, 1)) (hi : (kk : Nat) = i) (hn : i + 1 < K.2.2.2.2.2.1) (hl1 : lset2 lv i (.long x) = lv') (k : T K cv σ (pc + 1) lv' (st) o) : T K cv σ pc lv (.long x :: st) o := by
  refine T.step (fun E L r σ' C h => ?_) k
  obtain ⟨p, l, e, s, m, args, below, meth, c, D, cA, A, σ0, L0⟩ := E
  obtain ⟨hx, hb, hml, hown, hts, hK, hlocks, hret, hA, hX, hscr⟩ := C
  intro g0 g1 hL H locs ls hP hD hS hl
  exact lv_lstore_n hx hb hd hi hl hn rfl (fun ls' hl' => h g0 g1 hL H locs ls' hP hD hS (lset_has (fun q => by dsimp only; rw [tv_cat]) hl' hl1))
theorem T_lstore {ρ : Type} {K : Ks} {cv : ρ → Option Value × St} {σ : St} {pc : Nat} {lv : List (Nat × Value)} {st : List Value} {o : Option ρ} {i : Nat} {x : Int64} {lv' : List (Nat × Value)} (hd : decode K.1 pc = .ok (.lstore i, 2)) (hn : i + 1 < K.2.2.2.2.2.1) (hl1 : lset2 lv i (.long x) = lv') (k : T K cv σ (pc + 2) lv' (st) o) : T K cv σ pc lv (.long x :: st) o := by
  refine T.step (fun E L r σ' C h => ?_) k
  obtain ⟨p, l, e, s, m, args, below, meth, c, D, cA, A, σ0, L0⟩ := E
  obtain ⟨hx, hb, hml, hown, hts, hK, hlocks, hret, hA, hX, hscr⟩ := C
  intro g0 g1 hL H locs ls hP hD hS hl
  exact lv_lstore hx hb hd hl hn rfl (fun ls' hl' => h g0 g1 hL H locs ls' hP hD hS (lset_has (fun q => by dsimp only; rw [tv_cat]) hl' hl1))
theorem T_aload_n {ρ : Type} {K : Ks} {cv : ρ → Option Value × St} {σ : St} {pc : Nat} {lv : List (Nat × Value)} {st : List Value} {o : Option ρ} {kk : Fin 4} {i : Nat} {x : Nat} (j : Nat) (hd : decode K.1 pc = .ok (.aload_n kk, 1)) (hi : (kk : Nat) = i) (hj : lv[j]? = some (i, .ref x)) (k : T K cv σ (pc + 1) lv (.ref x :: st) o) : T K cv σ pc lv (st) o := by
  refine T.step (fun E L r σ' C h => ?_) k
  obtain ⟨p, l, e, s, m, args, below, meth, c, D, cA, A, σ0, L0⟩ := E
  obtain ⟨hx, hb, hml, hown, hts, hK, hlocks, hret, hA, hX, hscr⟩ := C
  intro g0 g1 hL H locs ls hP hD hS hl
  exact lv_aload_n hx hb hd hi (lv_at hl j (tl_at hj)) (h g0 g1 hL H locs ls hP hD hS hl)
theorem T_aload {ρ : Type} {K : Ks} {cv : ρ → Option Value × St} {σ : St} {pc : Nat} {lv : List (Nat × Value)} {st : List Value} {o : Option ρ} {i : Nat} {x : Nat} (j : Nat) (hd : decode K.1 pc = .ok (.aload i, 2)) (hj : lv[j]? = some (i, .ref x)) (k : T K cv σ (pc + 2) lv (.ref x :: st) o) : T K cv σ pc lv (st) o := by
  refine T.step (fun E L r σ' C h => ?_) k
  obtain ⟨p, l, e, s, m, args, below, meth, c, D, cA, A, σ0, L0⟩ := E
  obtain ⟨hx, hb, hml, hown, hts, hK, hlocks, hret, hA, hX, hscr⟩ := C
  intro g0 g1 hL H locs ls hP hD hS hl
  exact lv_aload hx hb hd (lv_at hl j (tl_at hj)) (h g0 g1 hL H locs ls hP hD hS hl)
theorem T_astore_n {ρ : Type} {K : Ks} {cv : ρ → Option Value × St} {σ : St} {pc : Nat} {lv : List (Nat × Value)} {st : List Value} {o : Option ρ} {kk : Fin 4} {i : Nat} {x : Nat} {lv' : List (Nat × Value)} (hd : decode K.1 pc = .ok (.astore_n kk, 1)) (hi : (kk : Nat) = i) (hn : i < K.2.2.2.2.2.1) (hl1 : lset1 lv i (.ref x) = lv') (k : T K cv σ (pc + 1) lv' (st) o) : T K cv σ pc lv (.ref x :: st) o := by
  refine T.step (fun E L r σ' C h => ?_) k
  obtain ⟨p, l, e, s, m, args, below, meth, c, D, cA, A, σ0, L0⟩ := E
  obtain ⟨hx, hb, hml, hown, hts, hK, hlocks, hret, hA, hX, hscr⟩ := C
  intro g0 g1 hL H locs ls hP hD hS hl
  exact lv_astore_n hx hb hd hi hl hn rfl (fun ls' hl' => h g0 g1 hL H locs ls' hP hD hS (lset_has (fun q => by dsimp only; rw [tv_cat]) hl' hl1))
theorem T_astore {ρ : Type} {K : Ks} {cv : ρ → Option Value × St} {σ : St} {pc : Nat} {lv : List (Nat × Value)} {st : List Value} {o : Option ρ} {i : Nat} {x : Nat} {lv' : List (Nat × Value)} (hd : decode K.1 pc = .ok (.astore i, 2)) (hn : i < K.2.2.2.2.2.1) (hl1 : lset1 lv i (.ref x) = lv') (k : T K cv σ (pc + 2) lv' (st) o) : T K cv σ pc lv (.ref x :: st) o := by
  refine T.step (fun E L r σ' C h => ?_) k
  obtain ⟨p, l, e, s, m, args, below, meth, c, D, cA, A, σ0, L0⟩ := E
  obtain ⟨hx, hb, hml, hown, hts, hK, hlocks, hret, hA, hX, hscr⟩ := C
  intro g0 g1 hL H locs ls hP hD hS hl
  exact lv_astore hx hb hd hl hn rfl (fun ls' hl' => h g0 g1 hL H locs ls' hP hD hS (lset_has (fun q => by dsimp only; rw [tv_cat]) hl' hl1))
theorem T_iinc {ρ : Type} {K : Ks} {cv : ρ → Option Value × St} {σ : St} {pc : Nat} {lv : List (Nat × Value)} {st : List Value} {o : Option ρ} {i : Nat} {n : Int} {x y : Int32} {lv' : List (Nat × Value)} (j : Nat) (hd : decode K.1 pc = .ok (.iinc i n, 3)) (hv : Int32.ofInt n = y) (hj : lv[j]? = some (i, .int x)) (hn : i < K.2.2.2.2.2.1) (hl1 : lset1 lv i (.int (x + y)) = lv') (k : T K cv σ (pc + 3) lv' (st) o) : T K cv σ pc lv (st) o := by
  refine T.step (fun E L r σ' C h => ?_) k
  obtain ⟨p, l, e, s, m, args, below, meth, c, D, cA, A, σ0, L0⟩ := E
  obtain ⟨hx, hb, hml, hown, hts, hK, hlocks, hret, hA, hX, hscr⟩ := C
  intro g0 g1 hL H locs ls hP hD hS hl
  subst hv
  exact lv_iinc hx hb hd hl (tl_at hj) rfl hn rfl (fun ls' hl' => h g0 g1 hL H locs ls' hP hD hS (lset_has (fun q => by dsimp only; rw [tv_cat]) hl' hl1))
theorem T_iadd {ρ : Type} {K : Ks} {cv : ρ → Option Value × St} {σ : St} {pc : Nat} {lv : List (Nat × Value)} {st : List Value} {o : Option ρ} {x y : Int32} (hd : decode K.1 pc = .ok (.iadd, 1)) (k : T K cv σ (pc + 1) lv (.int (x + y) :: st) o) : T K cv σ pc lv (.int y :: .int x :: st) o := by
  refine T.step (fun E L r σ' C h => ?_) k
  obtain ⟨p, l, e, s, m, args, below, meth, c, D, cA, A, σ0, L0⟩ := E
  obtain ⟨hx, hb, hml, hown, hts, hK, hlocks, hret, hA, hX, hscr⟩ := C
  intro g0 g1 hL H locs ls hP hD hS hl
  exact lv_iadd hx hb hd (h g0 g1 hL H locs ls hP hD hS hl)
theorem T_isub {ρ : Type} {K : Ks} {cv : ρ → Option Value × St} {σ : St} {pc : Nat} {lv : List (Nat × Value)} {st : List Value} {o : Option ρ} {x y : Int32} (hd : decode K.1 pc = .ok (.isub, 1)) (k : T K cv σ (pc + 1) lv (.int (x - y) :: st) o) : T K cv σ pc lv (.int y :: .int x :: st) o := by
  refine T.step (fun E L r σ' C h => ?_) k
  obtain ⟨p, l, e, s, m, args, below, meth, c, D, cA, A, σ0, L0⟩ := E
  obtain ⟨hx, hb, hml, hown, hts, hK, hlocks, hret, hA, hX, hscr⟩ := C
  intro g0 g1 hL H locs ls hP hD hS hl
  exact lv_isub hx hb hd (h g0 g1 hL H locs ls hP hD hS hl)
theorem T_imul {ρ : Type} {K : Ks} {cv : ρ → Option Value × St} {σ : St} {pc : Nat} {lv : List (Nat × Value)} {st : List Value} {o : Option ρ} {x y : Int32} (hd : decode K.1 pc = .ok (.imul, 1)) (k : T K cv σ (pc + 1) lv (.int (x * y) :: st) o) : T K cv σ pc lv (.int y :: .int x :: st) o := by
  refine T.step (fun E L r σ' C h => ?_) k
  obtain ⟨p, l, e, s, m, args, below, meth, c, D, cA, A, σ0, L0⟩ := E
  obtain ⟨hx, hb, hml, hown, hts, hK, hlocks, hret, hA, hX, hscr⟩ := C
  intro g0 g1 hL H locs ls hP hD hS hl
  exact lv_imul hx hb hd (h g0 g1 hL H locs ls hP hD hS hl)
theorem T_iand {ρ : Type} {K : Ks} {cv : ρ → Option Value × St} {σ : St} {pc : Nat} {lv : List (Nat × Value)} {st : List Value} {o : Option ρ} {x y : Int32} (hd : decode K.1 pc = .ok (.iand, 1)) (k : T K cv σ (pc + 1) lv (.int (x &&& y) :: st) o) : T K cv σ pc lv (.int y :: .int x :: st) o := by
  refine T.step (fun E L r σ' C h => ?_) k
  obtain ⟨p, l, e, s, m, args, below, meth, c, D, cA, A, σ0, L0⟩ := E
  obtain ⟨hx, hb, hml, hown, hts, hK, hlocks, hret, hA, hX, hscr⟩ := C
  intro g0 g1 hL H locs ls hP hD hS hl
  exact lv_iand hx hb hd (h g0 g1 hL H locs ls hP hD hS hl)
theorem T_ior {ρ : Type} {K : Ks} {cv : ρ → Option Value × St} {σ : St} {pc : Nat} {lv : List (Nat × Value)} {st : List Value} {o : Option ρ} {x y : Int32} (hd : decode K.1 pc = .ok (.ior, 1)) (k : T K cv σ (pc + 1) lv (.int (x ||| y) :: st) o) : T K cv σ pc lv (.int y :: .int x :: st) o := by
  refine T.step (fun E L r σ' C h => ?_) k
  obtain ⟨p, l, e, s, m, args, below, meth, c, D, cA, A, σ0, L0⟩ := E
  obtain ⟨hx, hb, hml, hown, hts, hK, hlocks, hret, hA, hX, hscr⟩ := C
  intro g0 g1 hL H locs ls hP hD hS hl
  exact lv_ior hx hb hd (h g0 g1 hL H locs ls hP hD hS hl)
theorem T_ixor {ρ : Type} {K : Ks} {cv : ρ → Option Value × St} {σ : St} {pc : Nat} {lv : List (Nat × Value)} {st : List Value} {o : Option ρ} {x y : Int32} (hd : decode K.1 pc = .ok (.ixor, 1)) (k : T K cv σ (pc + 1) lv (.int (x ^^^ y) :: st) o) : T K cv σ pc lv (.int y :: .int x :: st) o := by
  refine T.step (fun E L r σ' C h => ?_) k
  obtain ⟨p, l, e, s, m, args, below, meth, c, D, cA, A, σ0, L0⟩ := E
  obtain ⟨hx, hb, hml, hown, hts, hK, hlocks, hret, hA, hX, hscr⟩ := C
  intro g0 g1 hL H locs ls hP hD hS hl
  exact lv_ixor hx hb hd (h g0 g1 hL H locs ls hP hD hS hl)
theorem T_ishl {ρ : Type} {K : Ks} {cv : ρ → Option Value × St} {σ : St} {pc : Nat} {lv : List (Nat × Value)} {st : List Value} {o : Option ρ} {x y : Int32} (hd : decode K.1 pc = .ok (.ishl, 1)) (k : T K cv σ (pc + 1) lv (.int (x <<< (y &&& 31)) :: st) o) : T K cv σ pc lv (.int y :: .int x :: st) o := by
  refine T.step (fun E L r σ' C h => ?_) k
  obtain ⟨p, l, e, s, m, args, below, meth, c, D, cA, A, σ0, L0⟩ := E
  obtain ⟨hx, hb, hml, hown, hts, hK, hlocks, hret, hA, hX, hscr⟩ := C
  intro g0 g1 hL H locs ls hP hD hS hl
  exact lv_ishl hx hb hd (h g0 g1 hL H locs ls hP hD hS hl)
theorem T_ishr {ρ : Type} {K : Ks} {cv : ρ → Option Value × St} {σ : St} {pc : Nat} {lv : List (Nat × Value)} {st : List Value} {o : Option ρ} {x y : Int32} (hd : decode K.1 pc = .ok (.ishr, 1)) (k : T K cv σ (pc + 1) lv (.int (x >>> (y &&& 31)) :: st) o) : T K cv σ pc lv (.int y :: .int x :: st) o := by
  refine T.step (fun E L r σ' C h => ?_) k
  obtain ⟨p, l, e, s, m, args, below, meth, c, D, cA, A, σ0, L0⟩ := E
  obtain ⟨hx, hb, hml, hown, hts, hK, hlocks, hret, hA, hX, hscr⟩ := C
  intro g0 g1 hL H locs ls hP hD hS hl
  exact lv_ishr hx hb hd (h g0 g1 hL H locs ls hP hD hS hl)
theorem T_ineg {ρ : Type} {K : Ks} {cv : ρ → Option Value × St} {σ : St} {pc : Nat} {lv : List (Nat × Value)} {st : List Value} {o : Option ρ} {x : Int32} (hd : decode K.1 pc = .ok (.ineg, 1)) (k : T K cv σ (pc + 1) lv (.int (-x) :: st) o) : T K cv σ pc lv (.int x :: st) o := by
  refine T.step (fun E L r σ' C h => ?_) k
  obtain ⟨p, l, e, s, m, args, below, meth, c, D, cA, A, σ0, L0⟩ := E
  obtain ⟨hx, hb, hml, hown, hts, hK, hlocks, hret, hA, hX, hscr⟩ := C
  intro g0 g1 hL H locs ls hP hD hS hl
  exact lv_ineg hx hb hd (h g0 g1 hL H locs ls hP hD hS hl)
theorem T_ladd {ρ : Type} {K : Ks} {cv : ρ → Option Value × St} {σ : St} {pc : Nat} {lv : List (Nat × Value)} {st : List Value} {o : Option ρ} {x y : Int64} (hd : decode K.1 pc = .ok (.ladd, 1)) (k : T K cv σ (pc + 1) lv (.long (x + y) :: st) o) : T K cv σ pc lv (.long y :: .long x :: st) o := by
  refine T.step (fun E L r σ' C h => ?_) k
  obtain ⟨p, l, e, s, m, args, below, meth, c, D, cA, A, σ0, L0⟩ := E
  obtain ⟨hx, hb, hml, hown, hts, hK, hlocks, hret, hA, hX, hscr⟩ := C
  intro g0 g1 hL H locs ls hP hD hS hl
  exact lv_ladd hx hb hd (h g0 g1 hL H locs ls hP hD hS hl)
theorem T_lsub {ρ : Type} {K : Ks} {cv : ρ → Option Value × St} {σ : St} {pc : Nat} {lv : List (Nat × Value)} {st : List Value} {o : Option ρ} {x y : Int64} (hd : decode K.1 pc = .ok (.lsub, 1)) (k : T K cv σ (pc + 1) lv (.long (x - y) :: st) o) : T K cv σ pc lv (.long y :: .long x :: st) o := by
  refine T.step (fun E L r σ' C h => ?_) k
  obtain ⟨p, l, e, s, m, args, below, meth, c, D, cA, A, σ0, L0⟩ := E
  obtain ⟨hx, hb, hml, hown, hts, hK, hlocks, hret, hA, hX, hscr⟩ := C
  intro g0 g1 hL H locs ls hP hD hS hl
  exact lv_lsub hx hb hd (h g0 g1 hL H locs ls hP hD hS hl)
theorem T_lmul {ρ : Type} {K : Ks} {cv : ρ → Option Value × St} {σ : St} {pc : Nat} {lv : List (Nat × Value)} {st : List Value} {o : Option ρ} {x y : Int64} (hd : decode K.1 pc = .ok (.lmul, 1)) (k : T K cv σ (pc + 1) lv (.long (x * y) :: st) o) : T K cv σ pc lv (.long y :: .long x :: st) o := by
  refine T.step (fun E L r σ' C h => ?_) k
  obtain ⟨p, l, e, s, m, args, below, meth, c, D, cA, A, σ0, L0⟩ := E
  obtain ⟨hx, hb, hml, hown, hts, hK, hlocks, hret, hA, hX, hscr⟩ := C
  intro g0 g1 hL H locs ls hP hD hS hl
  exact lv_lmul hx hb hd (h g0 g1 hL H locs ls hP hD hS hl)
theorem T_land {ρ : Type} {K : Ks} {cv : ρ → Option Value × St} {σ : St} {pc : Nat} {lv : List (Nat × Value)} {st : List Value} {o : Option ρ} {x y : Int64} (hd : decode K.1 pc = .ok (.land, 1)) (k : T K cv σ (pc + 1) lv (.long (x &&& y) :: st) o) : T K cv σ pc lv (.long y :: .long x :: st) o := by
  refine T.step (fun E L r σ' C h => ?_) k
  obtain ⟨p, l, e, s, m, args, below, meth, c, D, cA, A, σ0, L0⟩ := E
  obtain ⟨hx, hb, hml, hown, hts, hK, hlocks, hret, hA, hX, hscr⟩ := C
  intro g0 g1 hL H locs ls hP hD hS hl
  exact lv_land hx hb hd (h g0 g1 hL H locs ls hP hD hS hl)
theorem T_lor {ρ : Type} {K : Ks} {cv : ρ → Option Value × St} {σ : St} {pc : Nat} {lv : List (Nat × Value)} {st : List Value} {o : Option ρ} {x y : Int64} (hd : decode K.1 pc = .ok (.lor, 1)) (k : T K cv σ (pc + 1) lv (.long (x ||| y) :: st) o) : T K cv σ pc lv (.long y :: .long x :: st) o := by
  refine T.step (fun E L r σ' C h => ?_) k
  obtain ⟨p, l, e, s, m, args, below, meth, c, D, cA, A, σ0, L0⟩ := E
  obtain ⟨hx, hb, hml, hown, hts, hK, hlocks, hret, hA, hX, hscr⟩ := C
  intro g0 g1 hL H locs ls hP hD hS hl
  exact lv_lor hx hb hd (h g0 g1 hL H locs ls hP hD hS hl)
theorem T_lcmp {ρ : Type} {K : Ks} {cv : ρ → Option Value × St} {σ : St} {pc : Nat} {lv : List (Nat × Value)} {st : List Value} {o : Option ρ} {x y : Int64} (hd : decode K.1 pc = .ok (.lcmp, 1)) (k : T K cv σ (pc + 1) lv (.int (lg_cmp x y) :: st) o) : T K cv σ pc lv (.long y :: .long x :: st) o := by
  refine T.step (fun E L r σ' C h => ?_) k
  obtain ⟨p, l, e, s, m, args, below, meth, c, D, cA, A, σ0, L0⟩ := E
  obtain ⟨hx, hb, hml, hown, hts, hK, hlocks, hret, hA, hX, hscr⟩ := C
  intro g0 g1 hL H locs ls hP hD hS hl
  exact W.lcmp hx hb hd (h g0 g1 hL H locs ls hP hD hS hl)
theorem T_iushr {ρ : Type} {K : Ks} {cv : ρ → Option Value × St} {σ : St} {pc : Nat} {lv : List (Nat × Value)} {st : List Value} {o : Option ρ} {x y : Int32} (hd : decode K.1 pc = .ok (.iushr, 1)) (k : T K cv σ (pc + 1) lv (.int (ushr32 x y) :: st) o) : T K cv σ pc lv (.int y :: .int x :: st) o := by
  refine T.step (fun E L r σ' C h => ?_) k
  obtain ⟨p, l, e, s, m, args, below, meth, c, D, cA, A, σ0, L0⟩ := E
  obtain ⟨hx, hb, hml, hown, hts, hK, hlocks, hret, hA, hX, hscr⟩ := C
  intro g0 g1 hL H locs ls hP hD hS hl
  exact lv_iushr hx hb hd rfl (h g0 g1 hL H locs ls hP hD hS hl)
theorem T_lushr {ρ : Type} {K : Ks} {cv : ρ → Option Value × St} {σ : St} {pc : Nat} {lv : List (Nat × Value)} {st : List Value} {o : Option ρ} {x : Int64} {y : Int32} (hd : decode K.1 pc = .ok (.lushr, 1)) (k : T K cv σ (pc + 1) lv (.long (ushr64 x y) :: st) o) : T K cv σ pc lv (.int y :: .long x :: st) o := by
  refine T.step (fun E L r σ' C h => ?_) k
  obtain ⟨p, l, e, s, m, args, below, meth, c, D, cA, A, σ0, L0⟩ := E
  obtain ⟨hx, hb, hml, hown, hts, hK, hlocks, hret, hA, hX, hscr⟩ := C
  intro g0 g1 hL H locs ls hP hD hS hl
  exact lv_lushr hx hb hd rfl (h g0 g1 hL H locs ls hP hD hS hl)
theorem T_lshl {ρ : Type} {K : Ks} {cv : ρ → Option Value × St} {σ : St} {pc : Nat} {lv : List (Nat × Value)} {st : List Value} {o : Option ρ} {x : Int64} {y : Int32} (hd : decode K.1 pc = .ok (.lshl, 1)) (k : T K cv σ (pc + 1) lv (.long (x <<< (y.toInt64 &&& 63)) :: st) o) : T K cv σ pc lv (.int y :: .long x :: st) o := by
  refine T.step (fun E L r σ' C h => ?_) k
  obtain ⟨p, l, e, s, m, args, below, meth, c, D, cA, A, σ0, L0⟩ := E
  obtain ⟨hx, hb, hml, hown, hts, hK, hlocks, hret, hA, hX, hscr⟩ := C
  intro g0 g1 hL H locs ls hP hD hS hl
  exact lv_lshl hx hb hd rfl (h g0 g1 hL H locs ls hP hD hS hl)
theorem T_i2l {ρ : Type} {K : Ks} {cv : ρ → Option Value × St} {σ : St} {pc : Nat} {lv : List (Nat × Value)} {st : List Value} {o : Option ρ} {x : Int32} (hd : decode K.1 pc = .ok (.i2l, 1)) (k : T K cv σ (pc + 1) lv (.long x.toInt64 :: st) o) : T K cv σ pc lv (.int x :: st) o := by
  refine T.step (fun E L r σ' C h => ?_) k
  obtain ⟨p, l, e, s, m, args, below, meth, c, D, cA, A, σ0, L0⟩ := E
  obtain ⟨hx, hb, hml, hown, hts, hK, hlocks, hret, hA, hX, hscr⟩ := C
  intro g0 g1 hL H locs ls hP hD hS hl
  exact lv_i2l hx hb hd rfl (h g0 g1 hL H locs ls hP hD hS hl)
theorem T_l2i {ρ : Type} {K : Ks} {cv : ρ → Option Value × St} {σ : St} {pc : Nat} {lv : List (Nat × Value)} {st : List Value} {o : Option ρ} {x : Int64} (hd : decode K.1 pc = .ok (.l2i, 1)) (k : T K cv σ (pc + 1) lv (.int x.toInt32 :: st) o) : T K cv σ pc lv (.long x :: st) o := by
  refine T.step (fun E L r σ' C h => ?_) k
  obtain ⟨p, l, e, s, m, args, below, meth, c, D, cA, A, σ0, L0⟩ := E
  obtain ⟨hx, hb, hml, hown, hts, hK, hlocks, hret, hA, hX, hscr⟩ := C
  intro g0 g1 hL H locs ls hP hD hS hl
  exact lv_l2i hx hb hd rfl (h g0 g1 hL H locs ls hP hD hS hl)
theorem T_i2b {ρ : Type} {K : Ks} {cv : ρ → Option Value × St} {σ : St} {pc : Nat} {lv : List (Nat × Value)} {st : List Value} {o : Option ρ} {x : Int32} (hd : decode K.1 pc = .ok (.i2b, 1)) (k : T K cv σ (pc + 1) lv (.int x.toInt8.toInt32 :: st) o) : T K cv σ pc lv (.int x :: st) o := by
  refine T.step (fun E L r σ' C h => ?_) k
  obtain ⟨p, l, e, s, m, args, below, meth, c, D, cA, A, σ0, L0⟩ := E
  obtain ⟨hx, hb, hml, hown, hts, hK, hlocks, hret, hA, hX, hscr⟩ := C
  intro g0 g1 hL H locs ls hP hD hS hl
  exact lv_i2b hx hb hd rfl (h g0 g1 hL H locs ls hP hD hS hl)
theorem T_idiv {ρ : Type} {K : Ks} {cv : ρ → Option Value × St} {σ : St} {pc : Nat} {lv : List (Nat × Value)} {st : List Value} {o : Option ρ} {x y : Int32} (hd : decode K.1 pc = .ok (.idiv, 1)) (k : T K cv σ (pc + 1) lv (.int (x / y) :: st) o) : T K cv σ pc lv (.int y :: .int x :: st) (nz y o) := by
  unfold nz
  refine T_ite (fun _ => T_none) (fun hin => ?_)
  refine T.step (fun E L r σ' C h => ?_) k
  obtain ⟨p, l, e, s, m, args, below, meth, c, D, cA, A, σ0, L0⟩ := E
  obtain ⟨hx, hb, hml, hown, hts, hK, hlocks, hret, hA, hX, hscr⟩ := C
  intro g0 g1 hL H locs ls hP hD hS hl
  exact lv_idiv hx hb hd hin (h g0 g1 hL H locs ls hP hD hS hl)
theorem T_irem {ρ : Type} {K : Ks} {cv : ρ → Option Value × St} {σ : St} {pc : Nat} {lv : List (Nat × Value)} {st : List Value} {o : Option ρ} {x y : Int32} (hd : decode K.1 pc = .ok (.irem, 1)) (k : T K cv σ (pc + 1) lv (.int (x - x / y * y) :: st) o) : T K cv σ pc lv (.int y :: .int x :: st) (nz y o) := by
  unfold nz
  refine T_ite (fun _ => T_none) (fun hin => ?_)
  refine T.step (fun E L r σ' C h => ?_) k
  obtain ⟨p, l, e, s, m, args, below, meth, c, D, cA, A, σ0, L0⟩ := E
  obtain ⟨hx, hb, hml, hown, hts, hK, hlocks, hret, hA, hX, hscr⟩ := C
  intro g0 g1 hL H locs ls hP hD hS hl
  exact lv_irem hx hb hd hin (h g0 g1 hL H locs ls hP hD hS hl)
theorem T_ldiv {ρ : Type} {K : Ks} {cv : ρ → Option Value × St} {σ : St} {pc : Nat} {lv : List (Nat × Value)} {st : List Value} {o : Option ρ} {x y : Int64} (hd : decode K.1 pc = .ok (.ldiv, 1)) (k : T K cv σ (pc + 1) lv (.long (x / y) :: st) o) : T K cv σ pc lv (.long y :: .long x :: st) (nzl y o) := by
  unfold nzl
  refine T_ite (fun _ => T_none) (fun hin => ?_)
  refine T.step (fun E L r σ' C h => ?_) k
  obtain ⟨p, l, e, s, m, args, below, meth, c, D, cA, A, σ0, L0⟩ := E
  obtain ⟨hx, hb, hml, hown, hts, hK, hlocks, hret, hA, hX, hscr⟩ := C
  intro g0 g1 hL H locs ls hP hD hS hl
  exact lv_ldiv hx hb hd hin (h g0 g1 hL H locs ls hP hD hS hl)
theorem T_dup_i {ρ : Type} {K : Ks} {cv : ρ → Option Value × St} {σ : St} {pc : Nat} {lv : List (Nat × Value)} {st : List Value} {o : Option ρ} {x : Int32} (hd : decode K.1 pc = .ok (.dup, 1)) (k : T K cv σ (pc + 1) lv (.int x :: .int x :: st) o) : T K cv σ pc lv (.int x :: st) o := by
  refine T.step (fun E L r σ' C h => ?_) k
  obtain ⟨p, l, e, s, m, args, below, meth, c, D, cA, A, σ0, L0⟩ := E
  obtain ⟨hx, hb, hml, hown, hts, hK, hlocks, hret, hA, hX, hscr⟩ := C
  intro g0 g1 hL H locs ls hP hD hS hl
  exact lv_dup hx hb hd rfl (h g0 g1 hL H locs ls hP hD hS hl)
theorem T_dup_a {ρ : Type} {K : Ks} {cv : ρ → Option Value × St} {σ : St} {pc : Nat} {lv : List (Nat × Value)} {st : List Value} {o : Option ρ} {x : Nat} (hd : decode K.1 pc = .ok (.dup, 1)) (k : T K cv σ (pc + 1) lv (.ref x :: .ref x :: st) o) : T K cv σ pc lv (.ref x :: st) o := by
  refine T.step (fun E L r σ' C h => ?_) k
  obtain ⟨p, l, e, s, m, args, below, meth, c, D, cA, A, σ0, L0⟩ := E
  obtain ⟨hx, hb, hml, hown, hts, hK, hlocks, hret, hA, hX, hscr⟩ := C
  intro g0 g1 hL H locs ls hP hD hS hl
  exact lv_dup hx hb hd rfl (h g0 g1 hL H locs ls hP hD hS hl)
theorem T_pop_i {ρ : Type} {K : Ks} {cv : ρ → Option Value × St} {σ : St} {pc : Nat} {lv : List (Nat × Value)} {st : List Value} {o : Option ρ} {x : Int32} (hd : decode K.1 pc = .ok (.pop, 1)) (k : T K cv σ (pc + 1) lv (st) o) : T K cv σ pc lv (.int x :: st) o := by
  refine T.step (fun E L r σ' C h => ?_) k
  obtain ⟨p, l, e, s, m, args, below, meth, c, D, cA, A, σ0, L0⟩ := E
  obtain ⟨hx, hb, hml, hown, hts, hK, hlocks, hret, hA, hX, hscr⟩ := C
  intro g0 g1 hL H locs ls hP hD hS hl
  exact lv_pop hx hb hd rfl (h g0 g1 hL H locs ls hP hD hS hl)
theorem T_dup2_ia {ρ : Type} {K : Ks} {cv : ρ → Option Value × St} {σ : St} {pc : Nat} {lv : List (Nat × Value)} {st : List Value} {o : Option ρ} {x : Int32} {q : Nat} (hd : decode K.1 pc = .ok (.dup2, 1)) (k : T K cv σ (pc + 1) lv (.int x :: .ref q :: .int x :: .ref q :: st) o) : T K cv σ pc lv (.int x :: .ref q :: st) o := by
  refine T.step (fun E L r σ' C h => ?_) k
  obtain ⟨p, l, e, s, m, args, below, meth, c, D, cA, A, σ0, L0⟩ := E
  obtain ⟨hx, hb, hml, hown, hts, hK, hlocks, hret, hA, hX, hscr⟩ := C
  intro g0 g1 hL H locs ls hP hD hS hl
  exact lv_dup2_11 hx hb hd rfl rfl (h g0 g1 hL H locs ls hP hD hS hl)
theorem T_dup_x1_ia {ρ : Type} {K : Ks} {cv : ρ → Option Value × St} {σ : St} {pc : Nat} {lv : List (Nat × Value)} {st : List Value} {o : Option ρ} {x : Int32} {q : Nat} (hd : decode K.1 pc = .ok (.dup_x1, 1)) (k : T K cv σ (pc + 1) lv (.int x :: .ref q :: .int x :: st) o) : T K cv σ pc lv (.int x :: .ref q :: st) o := by
  refine T.step (fun E L r σ' C h => ?_) k
  obtain ⟨p, l, e, s, m, args, below, meth, c, D, cA, A, σ0, L0⟩ := E
  obtain ⟨hx, hb, hml, hown, hts, hK, hlocks, hret, hA, hX, hscr⟩ := C
  intro g0 g1 hL H locs ls hP hD hS hl
  exact lv_dup_x1 hx hb hd rfl rfl (h g0 g1 hL H locs ls hP hD hS hl)
theorem T_dup_x2_iia {ρ : Type} {K : Ks} {cv : ρ → Option Value × St} {σ : St} {pc : Nat} {lv : List (Nat × Value)} {st : List Value} {o : Option ρ} {x y : Int32} {q : Nat} (hd : decode K.1 pc = .ok (.dup_x2, 1)) (k : T K cv σ (pc + 1) lv (.int x :: .int y :: .ref q :: .int x :: st) o) : T K cv σ pc lv (.int x :: .int y :: .ref q :: st) o := by
  refine T.step (fun E L r σ' C h => ?_) k
  obtain ⟨p, l, e, s, m, args, below, meth, c, D, cA, A, σ0, L0⟩ := E
  obtain ⟨hx, hb, hml, hown, hts, hK, hlocks, hret, hA, hX, hscr⟩ := C
  intro g0 g1 hL H locs ls hP hD hS hl
  exact lv_dup_x2 hx hb hd rfl rfl rfl (h g0 g1 hL H locs ls hP hD hS hl)
theorem T_if_eq {ρ : Type} {K : Ks} {cv : ρ → Option Value × St} {σ : St} {pc : Nat} {lv : List (Nat × Value)} {st : List Value} {o : Option ρ} {o2 : Option ρ} {x : Int32} {off : Int} (tgt : Nat) (hd : decode K.1 pc = .ok (.ifCond .eq off, 3)) (ht : (pc : Int) + off = (tgt : Int)) (kt : x = 0 → T K cv σ tgt lv st o) (kf : ¬ x = 0 → T K cv σ (pc + 3) lv st o2) : T K cv σ pc lv (.int x :: st) (if x = 0 then o else o2) := by
  by_cases hc : x = 0
  · rw [if_pos hc]
    refine T.step (fun E L r σ' C h => ?_) (kt hc)
    obtain ⟨p, l, e, s, m, args, below, meth, c, D, cA, A, σ0, L0⟩ := E
    obtain ⟨hx, hb, hml, hown, hts, hK, hlocks, hret, hA, hX, hscr⟩ := C
    intro g0 g1 hL H locs ls hP hD hS hl
    exact lv_if_eq hx hb hd ht (fun q => (h g0 g1 hL H locs ls hP hD hS hl)) (fun q => absurd hc q)
  · rw [if_neg hc]
    refine T.step (fun E L r σ' C h => ?_) (kf hc)
    obtain ⟨p, l, e, s, m, args, below, meth, c, D, cA, A, σ0, L0⟩ := E
    obtain ⟨hx, hb, hml, hown, hts, hK, hlocks, hret, hA, hX, hscr⟩ := C
    intro g0 g1 hL H locs ls hP hD hS hl
    exact lv_if_eq hx hb hd ht (fun q => absurd q hc) (fun q => (h g0 g1 hL H locs ls hP hD hS hl))
theorem T_icmp_eq {ρ : Type} {K : Ks} {cv : ρ → Option Value × St} {σ : St} {pc : Nat} {lv : List (Nat × Value)} {st : List Value} {o : Option ρ} {o2 : Option ρ} {x y : Int32} {off : Int} (tgt : Nat) (hd : decode K.1 pc = .ok (.if_icmp .eq off, 3)) (ht : (pc : Int) + off = (tgt : Int)) (kt : x = y → T K cv σ tgt lv st o) (kf : ¬ x = y → T K cv σ (pc + 3) lv st o2) : T K cv σ pc lv (.int y :: .int x :: st) (if x = y then o else o2) := by
  by_cases hc : x = y
  · rw [if_pos hc]
    refine T.step (fun E L r σ' C h => ?_) (kt hc)
    obtain ⟨p, l, e, s, m, args, below, meth, c, D, cA, A, σ0, L0⟩ := E
    obtain ⟨hx, hb, hml, hown, hts, hK, hlocks, hret, hA, hX, hscr⟩ := C
    intro g0 g1 hL H locs ls hP hD hS hl
    exact lv_icmp_eq hx hb hd ht (fun q => (h g0 g1 hL H locs ls hP hD hS hl)) (fun q => absurd hc q)
  · rw [if_neg hc]
    refine T.step (fun E L r σ' C h => ?_) (kf hc)
    obtain ⟨p, l, e, s, m, args, below, meth, c, D, cA, A, σ0, L0⟩ := E
    obtain ⟨hx, hb, hml, hown, hts, hK, hlocks, hret, hA, hX, hscr⟩ := C
    intro g0 g1 hL H locs ls hP hD hS hl
    exact lv_icmp_eq hx hb hd ht (fun q => absurd q hc) (fun q => (h g0 g1 hL H locs ls hP hD hS hl))
theorem T_if_ne {ρ : Type} {K : Ks} {cv : ρ → Option Value × St} {σ : St} {pc : Nat} {lv : List (Nat × Value)} {st : List Value} {o : Option ρ} {o2 : Option ρ} {x : Int32} {off : Int} (tgt : Nat) (hd : decode K.1 pc = .ok (.ifCond .ne off, 3)) (ht : (pc : Int) + off = (tgt : Int)) (kt : ¬ x = 0 → T K cv σ tgt lv st o) (kf : x = 0 → T K cv σ (pc + 3) lv st o2) : T K cv σ pc lv (.int x :: st) (if x = 0 then o2 else o) := by
  by_cases hc : x = 0
  · rw [if_pos hc]
    refine T.step (fun E L r σ' C h => ?_) (kf hc)
    obtain ⟨p, l, e, s, m, args, below, meth, c, D, cA, A, σ0, L0⟩ := E
    obtain ⟨hx, hb, hml, hown, hts, hK, hlocks, hret, hA, hX, hscr⟩ := C
    intro g0 g1 hL H locs ls hP hD hS hl
    exact lv_if_ne hx hb hd ht (fun q => absurd hc q) (fun q => (h g0 g1 hL H locs ls hP hD hS hl))
  · rw [if_neg hc]
    refine T.step (fun E L r σ' C h => ?_) (kt hc)
    obtain ⟨p, l, e, s, m, args, below, meth, c, D, cA, A, σ0, L0⟩ := E
    obtain ⟨hx, hb, hml, hown, hts, hK, hlocks, hret, hA, hX, hscr⟩ := C
    intro g0 g1 hL H locs ls hP hD hS hl
    exact lv_if_ne hx hb hd ht (fun q => (h g0 g1 hL H locs ls hP hD hS hl)) (fun q => absurd q hc)
theorem T_icmp_ne {ρ : Type} {K : Ks} {cv : ρ → Option Value × St} {σ : St} {pc : Nat} {lv : List (Nat × Value)} {st : List Value} {o : Option ρ} {o2 : Option ρ} {x y : Int32} {off : Int} (tgt : Nat) (hd : decode K.1 pc = .ok (.if_icmp .ne off, 3)) (ht : (pc : Int) + off = (tgt : Int)) (kt : ¬ x = y → T K cv σ tgt lv st o) (kf : x = y → T K cv σ (pc + 3) lv st o2) : T K cv σ pc lv (.int y :: .int x :: st) (if x = y then o2 else o) := by
  by_cases hc : x = y
  · rw [if_pos hc]
    refine T.step (fun E L r σ' C h => ?_) (kf hc)
    obtain ⟨p, l, e, s, m, args, below, meth, c, D, cA, A, σ0, L0⟩ := E
    obtain ⟨hx, hb, hml, hown, hts, hK, hlocks, hret, hA, hX, hscr⟩ := C
    intro g0 g1 hL H locs ls hP hD hS hl
    exact lv_icmp_ne hx hb hd ht (fun q => absurd hc q) (fun q => (h g0 g1 hL H locs ls hP hD hS hl))
  · rw [if_neg hc]
    refine T.step (fun E L r σ' C h => ?_) (kt hc)
    obtain ⟨p, l, e, s, m, args, below, meth, c, D, cA, A, σ0, L0⟩ := E
    obtain ⟨hx, hb, hml, hown, hts, hK, hlocks, hret, hA, hX, hscr⟩ := C
    intro g0 g1 hL H locs ls hP hD hS hl
    exact lv_icmp_ne hx hb hd ht (fun q => (h g0 g1 hL H locs ls hP hD hS hl)) (fun q => absurd q hc)
theorem T_if_lt {ρ : Type} {K : Ks} {cv : ρ → Option Value × St} {σ : St} {pc : Nat} {lv : List (Nat × Value)} {st : List Value} {o : Option ρ} {o2 : Option ρ} {x : Int32} {off : Int} (tgt : Nat) (hd : decode K.1 pc = .ok (.ifCond .lt off, 3)) (ht : (pc : Int) + off = (tgt : Int)) (kt : x < 0 → T K cv σ tgt lv st o) (kf : ¬ x < 0 → T K cv σ (pc + 3) lv st o2) : T K cv σ pc lv (.int x :: st) (if x < 0 then o else o2) := by
  by_cases hc : x < 0
  · rw [if_pos hc]
    refine T.step (fun E L r σ' C h => ?_) (kt hc)
    obtain ⟨p, l, e, s, m, args, below, meth, c, D, cA, A, σ0, L0⟩ := E
    obtain ⟨hx, hb, hml, hown, hts, hK, hlocks, hret, hA, hX, hscr⟩ := C
    intro g0 g1 hL H locs ls hP hD hS hl
    exact lv_if_lt hx hb hd ht (fun q => (h g0 g1 hL H locs ls hP hD hS hl)) (fun q => absurd hc q)
  · rw [if_neg hc]
    refine T.step (fun E L r σ' C h => ?_) (kf hc)
    obtain ⟨p, l, e, s, m, args, below, meth, c, D, cA, A, σ0, L0⟩ := E
    obtain ⟨hx, hb, hml, hown, hts, hK, hlocks, hret, hA, hX, hscr⟩ := C
    intro g0 g1 hL H locs ls hP hD hS hl
    exact lv_if_lt hx hb hd ht (fun q => absurd q hc) (fun q => (h g0 g1 hL H locs ls hP hD hS hl))
theorem T_icmp_lt {ρ : Type} {K : Ks} {cv : ρ → Option Value × St} {σ : St} {pc : Nat} {lv : List (Nat × Value)} {st : List Value} {o : Option ρ} {o2 : Option ρ} {x y : Int32} {off : Int} (tgt : Nat) (hd : decode K.1 pc = .ok (.if_icmp .lt off, 3)) (ht : (pc : Int) + off = (tgt : Int)) (kt : x < y → T K cv σ tgt lv st o) (kf : ¬ x < y → T K cv σ (pc + 3) lv st o2) : T K cv σ pc lv (.int y :: .int x :: st) (if x < y then o else o2) := by
  by_cases hc : x < y
  · rw [if_pos hc]
    refine T.step (fun E L r σ' C h => ?_) (kt hc)
    obtain ⟨p, l, e, s, m, args, below, meth, c, D, cA, A, σ0, L0⟩ := E
    obtain ⟨hx, hb, hml, hown, hts, hK, hlocks, hret, hA, hX, hscr⟩ := C
    intro g0 g1 hL H locs ls hP hD hS hl
    exact lv_icmp_lt hx hb hd ht (fun q => (h g0 g1 hL H locs ls hP hD hS hl)) (fun q => absurd hc q)
  · rw [if_neg hc]
    refine T.step (fun E L r σ' C h => ?_) (kf hc)
    obtain ⟨p, l, e, s, m, args, below, meth, c, D, cA, A, σ0, L0⟩ := E
    obtain ⟨hx, hb, hml, hown, hts, hK, hlocks, hret, hA, hX, hscr⟩ := C
    intro g0 g1 hL H locs ls hP hD hS hl
    exact lv_icmp_lt hx hb hd ht (fun q => absurd q hc) (fun q => (h g0 g1 hL H locs ls hP hD hS hl))
theorem T_if_ge {ρ : Type} {K : Ks} {cv : ρ → Option Value × St} {σ : St} {pc : Nat} {lv : List (Nat × Value)} {st : List Value} {o : Option ρ} {o2 : Option ρ} {x : Int32} {off : Int} (tgt : Nat) (hd : decode K.1 pc = .ok (.ifCond .ge off, 3)) (ht : (pc : Int) + off = (tgt : Int)) (kt : 0 ≤ x → T K cv σ tgt lv st o) (kf : ¬ 0 ≤ x → T K cv σ (pc + 3) lv st o2) : T K cv σ pc lv (.int x :: st) (if 0 ≤ x then o else o2) := by
  by_cases hc : 0 ≤ x
  · rw [if_pos hc]
    refine T.step (fun E L r σ' C h => ?_) (kt hc)
    obtain ⟨p, l, e, s, m, args, below, meth, c, D, cA, A, σ0, L0⟩ := E
    obtain ⟨hx, hb, hml, hown, hts, hK, hlocks, hret, hA, hX, hscr⟩ := C
    intro g0 g1 hL H locs ls hP hD hS hl
    exact lv_if_ge hx hb hd ht (fun q => (h g0 g1 hL H locs ls hP hD hS hl)) (fun q => absurd hc q)
  · rw [if_neg hc]
    refine T.step (fun E L r σ' C h => ?_) (kf hc)
    obtain ⟨p, l, e, s, m, args, below, meth, c, D, cA, A, σ0, L0⟩ := E
    obtain ⟨hx, hb, hml, hown, hts, hK, hlocks, hret, hA, hX, hscr⟩ := C
    intro g0 g1 hL H locs ls hP hD hS hl
    exact lv_if_ge hx hb hd ht (fun q => absurd q hc) (fun q => (h g0 g1 hL H locs ls hP hD hS hl))
theorem T_icmp_ge {ρ : Type} {K : Ks} {cv : ρ → Option Value × St} {σ : St} {pc : Nat} {lv : List (Nat × Value)} {st : List Value} {o : Option ρ} {o2 : Option ρ} {x y : Int32} {off : Int} (tgt : Nat) (hd : decode K.1 pc = .ok (.if_icmp .ge off, 3)) (ht : (pc : Int) + off = (tgt : Int)) (kt : y ≤ x → T K cv σ tgt lv st o) (kf : ¬ y ≤ x → T K cv σ (pc + 3) lv st o2) : T K cv σ pc lv (.int y :: .int x :: st) (if y ≤ x then o else o2) := by
  by_cases hc : y ≤ x
  · rw [if_pos hc]
    refine T.step (fun E L r σ' C h => ?_) (kt hc)
    obtain ⟨p, l, e, s, m, args, below, meth, c, D, cA, A, σ0, L0⟩ := E
    obtain ⟨hx, hb, hml, hown, hts, hK, hlocks, hret, hA, hX, hscr⟩ := C
    intro g0 g1 hL H locs ls hP hD hS hl
    exact lv_icmp_ge hx hb hd ht (fun q => (h g0 g1 hL H locs ls hP hD hS hl)) (fun q => absurd hc q)
  · rw [if_neg hc]
    refine T.step (fun E L r σ' C h => ?_) (kf hc)
    obtain ⟨p, l, e, s, m, args, below, meth, c, D, cA, A, σ0, L0⟩ := E
    obtain ⟨hx, hb, hml, hown, hts, hK, hlocks, hret, hA, hX, hscr⟩ := C
    intro g0 g1 hL H locs ls hP hD hS hl
    exact lv_icmp_ge hx hb hd ht (fun q => absurd q hc) (fun q => (h g0 g1 hL H locs ls hP hD hS hl))
theorem T_if_gt {ρ : Type} {K : Ks} {cv : ρ → Option Value × St} {σ : St} {pc : Nat} {lv : List (Nat × Value)} {st : List Value} {o : Option ρ} {o2 : Option ρ} {x : Int32} {off : Int} (tgt : Nat) (hd : decode K.1 pc = .ok (.ifCond .gt off, 3)) (ht : (pc : Int) + off = (tgt : Int)) (kt : 0 < x → T K cv σ tgt lv st o) (kf : ¬ 0 < x → T K cv σ (pc + 3) lv st o2) : T K cv σ pc lv (.int x :: st) (if 0 < x then o else o2) := by
  by_cases hc : 0 < x
  · rw [if_pos hc]
    refine T.step (fun E L r σ' C h => ?_) (kt hc)
    obtain ⟨p, l, e, s, m, args, below, meth, c, D, cA, A, σ0, L0⟩ := E
    obtain ⟨hx, hb, hml, hown, hts, hK, hlocks, hret, hA, hX, hscr⟩ := C
    intro g0 g1 hL H locs ls hP hD hS hl
    exact lv_if_gt hx hb hd ht (fun q => (h g0 g1 hL H locs ls hP hD hS hl)) (fun q => absurd hc q)
  · rw [if_neg hc]
    refine T.step (fun E L r σ' C h => ?_) (kf hc)
    obtain ⟨p, l, e, s, m, args, below, meth, c, D, cA, A, σ0, L0⟩ := E
    obtain ⟨hx, hb, hml, hown, hts, hK, hlocks, hret, hA, hX, hscr⟩ := C
    intro g0 g1 hL H locs ls hP hD hS hl
    exact lv_if_gt hx hb hd ht (fun q => absurd q hc) (fun q => (h g0 g1 hL H locs ls hP hD hS hl))
theorem T_icmp_gt {ρ : Type} {K : Ks} {cv : ρ → Option Value × St} {σ : St} {pc : Nat} {lv : List (Nat × Value)} {st : List Value} {o : Option ρ} {o2 : Option ρ} {x y : Int32} {off : Int} (tgt : Nat) (hd : decode K.1 pc = .ok (.if_icmp .gt off, 3)) (ht : (pc : Int) + off = (tgt : Int)) (kt : y < x → T K cv σ tgt lv st o) (kf : ¬ y < x → T K cv σ (pc + 3) lv st o2) : T K cv σ pc lv (.int y :: .int x :: st) (if y < x then o else o2) := by
  by_cases hc : y < x
  · rw [if_pos hc]
    refine T.step (fun E L r σ' C h => ?_) (kt hc)
    obtain ⟨p, l, e, s, m, args, below, meth, c, D, cA, A, σ0, L0⟩ := E
    obtain ⟨hx, hb, hml, hown, hts, hK, hlocks, hret, hA, hX, hscr⟩ := C
    intro g0 g1 hL H locs ls hP hD hS hl
    exact lv_icmp_gt hx hb hd ht (fun q => (h g0 g1 hL H locs ls hP hD hS hl)) (fun q => absurd hc q)
  · rw [if_neg hc]
    refine T.step (fun E L r σ' C h => ?_) (kf hc)
    obtain ⟨p, l, e, s, m, args, below, meth, c, D, cA, A, σ0, L0⟩ := E
    obtain ⟨hx, hb, hml, hown, hts, hK, hlocks, hret, hA, hX, hscr⟩ := C
    intro g0 g1 hL H locs ls hP hD hS hl
    exact lv_icmp_gt hx hb hd ht (fun q => absurd q hc) (fun q => (h g0 g1 hL H locs ls hP hD hS hl))
theorem T_if_le {ρ : Type} {K : Ks} {cv : ρ → Option Value × St} {σ : St} {pc : Nat} {lv : List (Nat × Value)} {st : List Value} {o : Option ρ} {o2 : Option ρ} {x : Int32} {off : Int} (tgt : Nat) (hd : decode K.1 pc = .ok (.ifCond .le off, 3)) (ht : (pc : Int) + off = (tgt : Int)) (kt : x ≤ 0 → T K cv σ tgt lv st o) (kf : ¬ x ≤ 0 → T K cv σ (pc + 3) lv st o2) : T K cv σ pc lv (.int x :: st) (if x ≤ 0 then o else o2) := by
  by_cases hc : x ≤ 0
  · rw [if_pos hc]
    refine T.step (fun E L r σ' C h => ?_) (kt hc)
    obtain ⟨p, l, e, s, m, args, below, meth, c, D, cA, A, σ0, L0⟩ := E
    obtain ⟨hx, hb, hml, hown, hts, hK, hlocks, hret, hA, hX, hscr⟩ := C
    intro g0 g1 hL H locs ls hP hD hS hl
    exact lv_if_le hx hb hd ht (fun q => (h g0 g1 hL H locs ls hP hD hS hl)) (fun q => absurd hc q)
  · rw [if_neg hc]
    refine T.step (fun E L r σ' C h => ?_) (kf hc)
    obtain ⟨p, l, e, s, m, args, below, meth, c, D, cA, A, σ0, L0⟩ := E
    obtain ⟨hx, hb, hml, hown, hts, hK, hlocks, hret, hA, hX, hscr⟩ := C
    intro g0 g1 hL H locs ls hP hD hS hl
    exact lv_if_le hx hb hd ht (fun q => absurd q hc) (fun q => (h g0 g1 hL H locs ls hP hD hS hl))
theorem T_icmp_le {ρ : Type} {K : Ks} {cv : ρ → Option Value × St} {σ : St} {pc : Nat} {lv : List (Nat × Value)} {st : List Value} {o : Option ρ} {o2 : Option ρ} {x y : Int32} {off : Int} (tgt : Nat) (hd : decode K.1 pc = .ok (.if_icmp .le off, 3)) (ht : (pc : Int) + off = (tgt : Int)) (kt : x ≤ y → T K cv σ tgt lv st o) (kf : ¬ x ≤ y → T K cv σ (pc + 3) lv st o2) : T K cv σ pc lv (.int y :: .int x :: st) (if x ≤ y then o else o2) := by
  by_cases hc : x ≤ y
  · rw [if_pos hc]
    refine T.step (fun E L r σ' C h => ?_) (kt hc)
    obtain ⟨p, l, e, s, m, args, below, meth, c, D, cA, A, σ0, L0⟩ := E
    obtain ⟨hx, hb, hml, hown, hts, hK, hlocks, hret, hA, hX, hscr⟩ := C
    intro g0 g1 hL H locs ls hP hD hS hl
    exact lv_icmp_le hx hb hd ht (fun q => (h g0 g1 hL H locs ls hP hD hS hl)) (fun q => absurd hc q)
  · rw [if_neg hc]
    refine T.step (fun E L r σ' C h => ?_) (kf hc)
    obtain ⟨p, l, e, s, m, args, below, meth, c, D, cA, A, σ0, L0⟩ := E
    obtain ⟨hx, hb, hml, hown, hts, hK, hlocks, hret, hA, hX, hscr⟩ := C
    intro g0 g1 hL H locs ls hP hD hS hl
    exact lv_icmp_le hx hb hd ht (fun q => absurd q hc) (fun q => (h g0 g1 hL H locs ls hP hD hS hl))
theorem T_goto {ρ : Type} {K : Ks} {cv : ρ → Option Value × St} {σ : St} {pc : Nat} {lv : List (Nat × Value)} {st : List Value} {o : Option ρ} {off : Int} (tgt : Nat) (hd : decode K.1 pc = .ok (.goto off, 3)) (ht : (pc : Int) + off = (tgt : Int)) (k : T K cv σ tgt lv (st) o) : T K cv σ pc lv (st) o := by
  refine T.step (fun E L r σ' C h => ?_) k
  obtain ⟨p, l, e, s, m, args, below, meth, c, D, cA, A, σ0, L0⟩ := E
  obtain ⟨hx, hb, hml, hown, hts, hK, hlocks, hret, hA, hX, hscr⟩ := C
  intro g0 g1 hL H locs ls hP hD hS hl
  exact lv_goto hx hb hd ht (h g0 g1 hL H locs ls hP hD hS hl)
theorem T_ifnull_r {ρ : Type} {K : Ks} {cv : ρ → Option Value × St} {σ : St} {pc : Nat} {lv : List (Nat × Value)} {st : List Value} {o : Option ρ} {x : Nat} {off : Int} (hd : decode K.1 pc = .ok (.ifnull off, 3)) (k : T K cv σ (pc + 3) lv (st) o) : T K cv σ pc lv (.ref x :: st) o := by
  refine T.step (fun E L r σ' C h => ?_) k
  obtain ⟨p, l, e, s, m, args, below, meth, c, D, cA, A, σ0, L0⟩ := E
  obtain ⟨hx, hb, hml, hown, hts, hK, hlocks, hret, hA, hX, hscr⟩ := C
  intro g0 g1 hL H locs ls hP hD hS hl
  exact lv_ifnull hx hb hd (h g0 g1 hL H locs ls hP hD hS hl)
theorem T_ifnull_n {ρ : Type} {K : Ks} {cv : ρ → Option Value × St} {σ : St} {pc : Nat} {lv : List (Nat × Value)} {st : List Value} {o : Option ρ} {off : Int} (tgt : Nat) (hd : decode K.1 pc = .ok (.ifnull off, 3)) (ht : (pc : Int) + off = (tgt : Int)) (k : T K cv σ tgt lv (st) o) : T K cv σ pc lv (.null :: st) o := by
  refine T.step (fun E L r σ' C h => ?_) k
  obtain ⟨p, l, e, s, m, args, below, meth, c, D, cA, A, σ0, L0⟩ := E
  obtain ⟨hx, hb, hml, hown, hts, hK, hlocks, hret, hA, hX, hscr⟩ := C
  intro g0 g1 hL H locs ls hP hD hS hl
  exact lv_ifnullN hx hb hd ht (h g0 g1 hL H locs ls hP hD hS hl)
theorem T_ifnonnull_r {ρ : Type} {K : Ks} {cv : ρ → Option Value × St} {σ : St} {pc : Nat} {lv : List (Nat × Value)} {st : List Value} {o : Option ρ} {x : Nat} {off : Int} (tgt : Nat) (hd : decode K.1 pc = .ok (.ifnonnull off, 3)) (ht : (pc : Int) + off = (tgt : Int)) (k : T K cv σ tgt lv (st) o) : T K cv σ pc lv (.ref x :: st) o := by
  refine T.step (fun E L r σ' C h => ?_) k
  obtain ⟨p, l, e, s, m, args, below, meth, c, D, cA, A, σ0, L0⟩ := E
  obtain ⟨hx, hb, hml, hown, hts, hK, hlocks, hret, hA, hX, hscr⟩ := C
  intro g0 g1 hL H locs ls hP hD hS hl
  exact lv_ifnonnull hx hb hd ht (h g0 g1 hL H locs ls hP hD hS hl)
theorem T_look {ρ : Type} {K : Ks} {cv : ρ → Option Value × St} {σ : St} {pc : Nat} {lv : List (Nat × Value)} {st : List Value} {o : Option ρ} {dflt : Int} {ps : Array (Int × Int)} {len : Nat} {x : Int32} {off : Int} (tgt : Nat) (hd : decode K.1 pc = .ok (.lookupswitch dflt ps, len)) (hp : (ps.toList.zip (ps.toList.drop 1)).all (fun (a, next) => a.1 < next.1) = true) (ho : Op.lookupswitch.offset ps.toList dflt x.toInt = off) (ht : (pc : Int) + off = (tgt : Int)) (k : T K cv σ tgt lv (st) o) : T K cv σ pc lv (.int x :: st) o := by
  refine T.step (fun E L r σ' C h => ?_) k
  obtain ⟨p, l, e, s, m, args, below, meth, c, D, cA, A, σ0, L0⟩ := E
  obtain ⟨hx, hb, hml, hown, hts, hK, hlocks, hret, hA, hX, hscr⟩ := C
  intro g0 g1 hL H locs ls hP hD hS hl
  exact lv_lookup hx hb hd hp ho ht (h g0 g1 hL H locs ls hP hD hS hl)
theorem T_tabIn {ρ : Type} {K : Ks} {cv : ρ → Option Value × St} {σ : St} {pc : Nat} {lv : List (Nat × Value)} {st : List Value} {o : Option ρ} {dflt lo hi : Int} {offs : Array Int} {len : Nat} {x : Int32} {off : Int} (tgt : Nat) (hd : decode K.1 pc = .ok (.tableswitch dflt lo hi offs, len)) (h1 : ¬ x.toInt < lo) (h2 : ¬ hi < x.toInt) (ho : offs[(x.toInt - lo).toNat]? = some off) (ht : (pc : Int) + off = (tgt : Int)) (k : T K cv σ tgt lv (st) o) : T K cv σ pc lv (.int x :: st) o := by
  refine T.step (fun E L r σ' C h => ?_) k
  obtain ⟨p, l, e, s, m, args, below, meth, c, D, cA, A, σ0, L0⟩ := E
  obtain ⟨hx, hb, hml, hown, hts, hK, hlocks, hret, hA, hX, hscr⟩ := C
  intro g0 g1 hL H locs ls hP hD hS hl
  exact lv_tableIn hx hb hd h1 h2 ho ht (h g0 g1 hL H locs ls hP hD hS hl)
theorem T_tabOut {ρ : Type} {K : Ks} {cv : ρ → Option Value × St} {σ : St} {pc : Nat} {lv : List (Nat × Value)} {st : List Value} {o : Option ρ} {dflt lo hi : Int} {offs : Array Int} {len : Nat} {x : Int32} (tgt : Nat) (hd : decode K.1 pc = .ok (.tableswitch dflt lo hi offs, len)) (h0 : x.toInt < lo ∨ hi < x.toInt) (ht : (pc : Int) + dflt = (tgt : Int)) (k : T K cv σ tgt lv (st) o) : T K cv σ pc lv (.int x :: st) o := by
  refine T.step (fun E L r σ' C h => ?_) k
  obtain ⟨p, l, e, s, m, args, below, meth, c, D, cA, A, σ0, L0⟩ := E
  obtain ⟨hx, hb, hml, hown, hts, hK, hlocks, hret, hA, hX, hscr⟩ := C
  intro g0 g1 hL H locs ls hP hD hS hl
  exact lv_tableOut hx hb hd h0 ht (h g0 g1 hL H locs ls hP hD hS hl)
/-- object q's place j is register kr of kind kd, a field of this name -/
def Fld (q j kd kr : Nat) (ref n d : String) (fin : Bool) : Prop := ∃ (ci N : Nat) (fs : List (Nat × Nat)) (TT : u_T) (ty : Nat → FieldType) (Cn : String), lay[q]? = some (.inl (ci, fs)) ∧ vwCl[ci]? = some (Cn, TT, N) ∧ (∀ w ∈ u_ws Cn TT N, w ∈ TB) ∧ j < N ∧ fs[j]? = some (kd, kr) ∧ TT j = (ref, n, d, fin) ∧ (∀ k, k < N → parseFieldDescriptor (TT k).2.2.1 = some (ty k)) ∧ (∀ a, a < N → ∀ b, b < N → a ≠ b → (TT a).2.1 ≠ (TT b).2.1)
theorem TW_get {K : Ks} {σ : St} {pc q j kd kr idx : Nat} {ref n d : String} {fin : Bool} {lv : List (Nat × Value)} {st : List Value} {v : Value} (hF : Fld q j kd kr ref n d fin) (hlink : Cond.fieldLink K.2.1 idx ref n d ∈ TB) (hd : decode K.1 pc = .ok (.getfield idx, 3)) (hv : ∀ L, fval σ L (kd, kr) = tv L v) (E : Ev) (L : Nat → Nat) (r : Option Value) (σ' : St) (C : Cx E K) (h : TW E K σ L (pc + 3) lv (v :: st) r σ') : TW E K σ L pc lv (.ref q :: st) r σ' := by
  obtain ⟨p, l, e, s, m, args, below, meth, c, D, cA, A, σ0, L0⟩ := E
  obtain ⟨hx, hb, hml, hown, hts, hK, hlocks, hret, hA, hX, hscr⟩ := C
  intro g0 g1 hL H locs ls hP hD hS hl
  obtain ⟨ci, N, fs, TT, ty, Cn, f1, f2, f3, f4, f5, f6, f7, f8⟩ := hF
  have e1 : (TT j).1 = ref := by rw [f6]
  have e2 : (TT j).2.1 = n := by rw [f6]
  have e3 : (TT j).2.2.1 = d := by rw [f6]
  refine va_get (ref := ref) (ci := ci) (fs := fs.map (fval σ L)) (v := tv L v) hx hb hts f3 hown hK hP q (wl_at f1) f2 j f4 (by rw [e2, e3]; exact hts _ hlink) (by rw [e1]; exact fun _ q => q) (by rw [List.getElem?_map, f5, ← hv L]; rfl) hd ?_
  exact h g0 g1 hL H locs ls hP hD hS hl
theorem T_getI {ρ : Type} {K : Ks} {cv : ρ → Option Value × St} {σ : St} {pc : Nat} {lv : List (Nat × Value)} {st : List Value} {o : Option ρ} {q j kr idx : Nat} {ref n d : String} {fin : Bool} (hF : Fld q j 0 kr ref n d fin) (hlink : Cond.fieldLink K.2.1 idx ref n d ∈ TB) (hd : decode K.1 pc = .ok (.getfield idx, 3)) (k : T K cv σ (pc + 3) lv (.int (zI σ kr) :: st) o) : T K cv σ pc lv (.ref q :: st) o := T.step (TW_get hF hlink hd (fun _ => rfl)) k
theorem T_getJ {ρ : Type} {K : Ks} {cv : ρ → Option Value × St} {σ : St} {pc : Nat} {lv : List (Nat × Value)} {st : List Value} {o : Option ρ} {q j kr idx : Nat} {ref n d : String} {fin : Bool} (hF : Fld q j 1 kr ref n d fin) (hlink : Cond.fieldLink K.2.1 idx ref n d ∈ TB) (hd : decode K.1 pc = .ok (.getfield idx, 3)) (k : T K cv σ (pc + 3) lv (.long (zJ σ kr) :: st) o) : T K cv σ pc lv (.ref q :: st) o := T.step (TW_get hF hlink hd (fun _ => rfl)) k
theorem T_getA {ρ : Type} {K : Ks} {cv : ρ → Option Value × St} {σ : St} {pc : Nat} {lv : List (Nat × Value)} {st : List Value} {o : Option ρ} {q j kr idx : Nat} {ref n d : String} {fin : Bool} (hF : Fld q j 2 kr ref n d fin) (hlink : Cond.fieldLink K.2.1 idx ref n d ∈ TB) (hd : decode K.1 pc = .ok (.getfield idx, 3)) (k : T K cv σ (pc + 3) lv (.ref kr :: st) o) : T K cv σ pc lv (.ref q :: st) o := T.step (TW_get hF hlink hd (fun _ => rfl)) k
theorem T_getR {ρ : Type} {K : Ks} {cv : ρ → Option Value × St} {σ : St} {pc : Nat} {lv : List (Nat × Value)} {st : List Value} {o : Option ρ} {q j kr idx : Nat} {ref n d : String} {fin : Bool} (hF : Fld q j 3 kr ref n d fin) (hlink : Cond.fieldLink K.2.1 idx ref n d ∈ TB) (hd : decode K.1 pc = .ok (.getfield idx, 3)) (k : T K cv σ (pc + 3) lv (.ref (zR σ kr) :: st) o) : T K cv σ pc lv (.ref q :: st) o := T.step (TW_get hF hlink hd (fun _ => rfl)) k
theorem TW_put {K : Ks} {σ σ2 : St} {pc q j kd kr idx : Nat} {ref n d : String} {lv : List (Nat × Value)} {st : List Value} {v : Value} {ty : FieldType} (hF : Fld q j kd kr ref n d false) (hlink : Cond.fieldLink K.2.1 idx ref n d ∈ TB) (hd : decode K.1 pc = .ok (.putfield idx, 3)) (hty : parseFieldDescriptor d = some ty) (hn : ∀ L, narrow ty (tv L v) = tv L v) (hfit : ∀ L, fits ty (tv L v) = true) (hN : zN σ2 = zN σ)
    (hw : ∀ (cA : Nat → ClassId) (L : Nat → Nat) (ci : Nat) (fs : List (Nat × Nat)), lay[q]? = some (.inl (ci, fs)) → fs[j]? = some (kd, kr) → (wl cA σ L).set q (L q, .inr (ci, (fs.map (fval σ L)).set j (tv L v))) = wl cA σ2 L)
    (E : Ev) (L : Nat → Nat) (r : Option Value) (σ' : St) (C : Cx E K) (h : TW E K σ2 L (pc + 3) lv st r σ') : TW E K σ L pc lv (v :: .ref q :: st) r σ' := by
  obtain ⟨p, l, e, s, m, args, below, meth, c, D, cA, A, σ0, L0⟩ := E
  obtain ⟨hx, hb, hml, hown, hts, hK, hlocks, hret, hA, hX, hscr⟩ := C
  intro g0 g1 hL H locs ls hP hD hS hl
  obtain ⟨ci, N, fs, TT, tys, Cn, f1, f2, f3, f4, f5, f6, f7, f8⟩ := hF
  have e1 : (TT j).1 = ref := by rw [f6]
  have e2 : (TT j).2.1 = n := by rw [f6]
  have e3 : (TT j).2.2.1 = d := by rw [f6]
  have e4 : (TT j).2.2.2 = false := by rw [f6]
  have hlen : j < (fs.map (fval σ L)).length := by
    rw [List.length_map]
    exact (List.getElem?_eq_some_iff.mp f5).1
  have h' : zN σ0 0 ≤ zN σ2 0 → zN σ0 1 ≤ zN σ2 1 → _ := h
  rw [hN] at h'
  refine va_put (ref := ref) (ci := ci) (fs := fs.map (fval σ L)) (v := tv L v) (ty := ty) hx hb hts f3 tys f7 f8 hown hK hP hD hS q (wl_at f1) f2 j f4 (by rw [e2, e3]; exact hts _ hlink) (by rw [e1]; exact fun _ q => q) e4 (by rw [e3]; exact hty) (hn L) (hfit L) hlen hd (fun H1 locs1 hP1 hD1 hS1 => ?_)
  rw [hw cA L ci fs f1 f5] at hP1 hD1
  exact h' g0 g1 hL H1 locs1 ls hP1 hD1 hS1 hl
theorem T_putI {ρ : Type} {K : Ks} {cv : ρ → Option Value × St} {σ : St} {pc : Nat} {lv : List (Nat × Value)} {st : List Value} {o : Option ρ} {q j kr idx : Nat} {ref n : String} {x : Int32} (hF : Fld q j 0 kr ref n "I" false) (hlink : Cond.fieldLink K.2.1 idx ref n "I" ∈ TB) (hd : decode K.1 pc = .ok (.putfield idx, 3)) (k : T K cv (uI σ kr x) (pc + 3) lv st o) : T K cv σ pc lv (.int x :: .ref q :: st) o :=
  T.stepS (σ2 := uI σ kr x) rfl (TW_put (ty := .int) hF hlink hd rfl (fun _ => rfl) (fun _ => rfl) rfl (fun _ _ _ _ h1 h2 => wl_uI h1 h2)) k
theorem T_putZ {ρ : Type} {K : Ks} {cv : ρ → Option Value × St} {σ : St} {pc : Nat} {lv : List (Nat × Value)} {st : List Value} {o : Option ρ} {q j kr idx : Nat} {ref n : String} {x : Int32} (hF : Fld q j 0 kr ref n "Z" false) (hlink : Cond.fieldLink K.2.1 idx ref n "Z" ∈ TB) (hd : decode K.1 pc = .ok (.putfield idx, 3)) (hz : narrow .boolean (.int x) = .int x) (hz2 : fits .boolean (.int x) = true) (k : T K cv (uI σ kr x) (pc + 3) lv st o) : T K cv σ pc lv (.int x :: .ref q :: st) o :=
  T.stepS (σ2 := uI σ kr x) rfl (TW_put (ty := .boolean) hF hlink hd rfl (fun _ => hz) (fun _ => hz2) rfl (fun _ _ _ _ h1 h2 => wl_uI h1 h2)) k
theorem T_putJ {ρ : Type} {K : Ks} {cv : ρ → Option Value × St} {σ : St} {pc : Nat} {lv : List (Nat × Value)} {st : List Value} {o : Option ρ} {q j kr idx : Nat} {ref n : String} {x : Int64} (hF : Fld q j 1 kr ref n "J" false) (hlink : Cond.fieldLink K.2.1 idx ref n "J" ∈ TB) (hd : decode K.1 pc = .ok (.putfield idx, 3)) (k : T K cv (uJ σ kr x) (pc + 3) lv st o) : T K cv σ pc lv (.long x :: .ref q :: st) o :=
  T.stepS (σ2 := uJ σ kr x) rfl (TW_put (ty := .long) hF hlink hd rfl (fun _ => rfl) (fun _ => rfl) rfl (fun _ _ _ _ h1 h2 => wl_uJ h1 h2)) k
theorem T_putR {ρ : Type} {K : Ks} {cv : ρ → Option Value × St} {σ : St} {pc : Nat} {lv : List (Nat × Value)} {st : List Value} {o : Option ρ} {q j kr idx : Nat} {ref n d : String} {ty : FieldType} {x : Nat} (hF : Fld q j 3 kr ref n d false) (hlink : Cond.fieldLink K.2.1 idx ref n d ∈ TB) (hd : decode K.1 pc = .ok (.putfield idx, 3)) (hty : parseFieldDescriptor d = some (.array ty)) (k : T K cv (uR σ kr x) (pc + 3) lv st o) : T K cv σ pc lv (.ref x :: .ref q :: st) o :=
  T.stepS (σ2 := uR σ kr x) rfl (TW_put (ty := .array ty) hF hlink hd hty (fun _ => rfl) (fun _ => rfl) rfl (fun _ _ _ _ h1 h2 => wl_uR h1 h2)) k
theorem T_iald {ρ : Type} {K : Ks} {cv : ρ → Option Value × St} {σ : St} {pc : Nat} {lv : List (Nat × Value)} {st : List Value} {f : Int32 → Option ρ} {q n : Nat} {i : Int32} (hq : lay[q]? = some (.inr (0, n))) (hd : decode K.1 pc = .ok (.iaload, 1)) (k : ∀ y, T K cv σ (pc + 1) lv (.int y :: st) (f y)) : T K cv σ pc lv (.int i :: .ref q :: st) ((rd (zA σ q) n i).bind f) := by
  intro x hx
  unfold rd at hx
  by_cases hin : i < 0 ∨ n ≤ i.toNatClampNeg
  · rw [if_pos hin] at hx
    cases hx
  · rw [if_neg hin] at hx
    revert x
    show T K cv σ pc lv (.int i :: .ref q :: st) (f (zA σ q i.toNatClampNeg))
    refine T.step (fun E L r σ' C h => ?_) (k (zA σ q i.toNatClampNeg))
    obtain ⟨p, l, e, s, m, args, below, meth, c, D, cA, A, σ0, L0⟩ := E
    obtain ⟨hx, hb, hml, hown, hts, hK, hlocks, hret, hA, hX, hscr⟩ := C
    intro g0 g1 hL H locs ls hP hD hS hl
    exact va_iald hx hb hK hP q 0 (wl_at hq) rfl hin hd (h g0 g1 hL H locs ls hP hD hS hl)
theorem T_bald {ρ : Type} {K : Ks} {cv : ρ → Option Value × St} {σ : St} {pc : Nat} {lv : List (Nat × Value)} {st : List Value} {f : Int32 → Option ρ} {q n : Nat} {i : Int32} (hq : lay[q]? = some (.inr (1, n))) (hd : decode K.1 pc = .ok (.baload, 1)) (k : ∀ y, T K cv σ (pc + 1) lv (.int y :: st) (f y)) : T K cv σ pc lv (.int i :: .ref q :: st) ((rd (zA σ q) n i).bind f) := by
  intro x hx
  unfold rd at hx
  by_cases hin : i < 0 ∨ n ≤ i.toNatClampNeg
  · rw [if_pos hin] at hx
    cases hx
  · rw [if_neg hin] at hx
    revert x
    show T K cv σ pc lv (.int i :: .ref q :: st) (f (zA σ q i.toNatClampNeg))
    refine T.step (fun E L r σ' C h => ?_) (k (zA σ q i.toNatClampNeg))
    obtain ⟨p, l, e, s, m, args, below, meth, c, D, cA, A, σ0, L0⟩ := E
    obtain ⟨hx, hb, hml, hown, hts, hK, hlocks, hret, hA, hX, hscr⟩ := C
    intro g0 g1 hL H locs ls hP hD hS hl
    exact va_bald hx hb hK hP q 1 (wl_at hq) rfl hin hd (h g0 g1 hL H locs ls hP hD hS hl)
theorem T_zald {ρ : Type} {K : Ks} {cv : ρ → Option Value × St} {σ : St} {pc : Nat} {lv : List (Nat × Value)} {st : List Value} {f : Int32 → Option ρ} {q n : Nat} {i : Int32} (hq : lay[q]? = some (.inr (2, n))) (hd : decode K.1 pc = .ok (.baload, 1)) (k : ∀ y, T K cv σ (pc + 1) lv (.int y :: st) (f y)) : T K cv σ pc lv (.int i :: .ref q :: st) ((rd (zA σ q) n i).bind f) := by
  intro x hx
  unfold rd at hx
  by_cases hin : i < 0 ∨ n ≤ i.toNatClampNeg
  · rw [if_pos hin] at hx
    cases hx
  · rw [if_neg hin] at hx
    revert x
    show T K cv σ pc lv (.int i :: .ref q :: st) (f (zA σ q i.toNatClampNeg))
    refine T.step (fun E L r σ' C h => ?_) (k (zA σ q i.toNatClampNeg))
    obtain ⟨p, l, e, s, m, args, below, meth, c, D, cA, A, σ0, L0⟩ := E
    obtain ⟨hx, hb, hml, hown, hts, hK, hlocks, hret, hA, hX, hscr⟩ := C
    intro g0 g1 hL H locs ls hP hD hS hl
    exact va_zald hx hb hK hP q 2 (wl_at hq) rfl hin hd (h g0 g1 hL H locs ls hP hD hS hl)
theorem T_lald {ρ : Type} {K : Ks} {cv : ρ → Option Value × St} {σ : St} {pc : Nat} {lv : List (Nat × Value)} {st : List Value} {f : Int64 → Option ρ} {q n : Nat} {i : Int32} (hq : lay[q]? = some (.inr (3, n))) (hd : decode K.1 pc = .ok (.laload, 1)) (k : ∀ y, T K cv σ (pc + 1) lv (.long y :: st) (f y)) : T K cv σ pc lv (.int i :: .ref q :: st) ((rd (zB σ q) n i).bind f) := by
  intro x hx
  unfold rd at hx
  by_cases hin : i < 0 ∨ n ≤ i.toNatClampNeg
  · rw [if_pos hin] at hx
    cases hx
  · rw [if_neg hin] at hx
    revert x
    show T K cv σ pc lv (.int i :: .ref q :: st) (f (zB σ q i.toNatClampNeg))
    refine T.step (fun E L r σ' C h => ?_) (k (zB σ q i.toNatClampNeg))
    obtain ⟨p, l, e, s, m, args, below, meth, c, D, cA, A, σ0, L0⟩ := E
    obtain ⟨hx, hb, hml, hown, hts, hK, hlocks, hret, hA, hX, hscr⟩ := C
    intro g0 g1 hL H locs ls hP hD hS hl
    exact va_lald hx hb hK hP q 3 (wl_at hq) rfl hin hd (h g0 g1 hL H locs ls hP hD hS hl)
theorem T_laldN {ρ : Type} {K : Ks} {cv : ρ → Option Value × St} {σ : St} {pc : Nat} {lv : List (Nat × Value)} {st : List Value} {f : Int64 → Option ρ} {q n : Nat} {i : Int32} (hq : lay[q]? = some (.inr (4, n))) (hd : decode K.1 pc = .ok (.laload, 1)) (k : ∀ y, T K cv σ (pc + 1) lv (.long y :: st) (f y)) : T K cv σ pc lv (.int i :: .ref q :: st) ((rd (zB σ q) (zN σ q) i).bind f) := by
  intro x hx
  unfold rd at hx
  by_cases hin : i < 0 ∨ (zN σ q) ≤ i.toNatClampNeg
  · rw [if_pos hin] at hx
    cases hx
  · rw [if_neg hin] at hx
    revert x
    show T K cv σ pc lv (.int i :: .ref q :: st) (f (zB σ q i.toNatClampNeg))
    refine T.step (fun E L r σ' C h => ?_) (k (zB σ q i.toNatClampNeg))
    obtain ⟨p, l, e, s, m, args, below, meth, c, D, cA, A, σ0, L0⟩ := E
    obtain ⟨hx, hb, hml, hown, hts, hK, hlocks, hret, hA, hX, hscr⟩ := C
    intro g0 g1 hL H locs ls hP hD hS hl
    exact va_lald hx hb hK hP q 3 (wl_at hq) rfl hin hd (h g0 g1 hL H locs ls hP hD hS hl)
theorem T_iast {ρ : Type} {K : Ks} {cv : ρ → Option Value × St} {σ : St} {pc : Nat} {lv : List (Nat × Value)} {st : List Value} {o : Option ρ} {q n : Nat} {i : Int32} {x : Int32} (hq : lay[q]? = some (.inr (0, n))) (hd : decode K.1 pc = .ok (.iastore, 1)) (k : T K cv (uA σ q (upd (zA σ q) i.toNatClampNeg x)) (pc + 1) lv st o) : T K cv σ pc lv (.int x :: .int i :: .ref q :: st) (wr n i o) := by
  unfold wr
  refine T_ite (fun _ => T_none) (fun hin => ?_)
  refine T.stepS (σ2 := uA σ q (upd (zA σ q) i.toNatClampNeg x)) rfl (fun E L r σ' C h => ?_) k
  obtain ⟨p, l, e, s, m, args, below, meth, c, D, cA, A, σ0, L0⟩ := E
  obtain ⟨hx, hb, hml, hown, hts, hK, hlocks, hret, hA, hX, hscr⟩ := C
  intro g0 g1 hL H locs ls hP hD hS hl
  refine va_iast hx hb hK hP hD hS q 0 (wl_at hq) rfl hin hd (fun H1 locs1 hP1 hD1 hS1 => ?_)
  rw [wl_uA0 hq] at hP1 hD1
  exact h g0 g1 hL H1 locs1 ls hP1 hD1 hS1 hl
theorem T_bast {ρ : Type} {K : Ks} {cv : ρ → Option Value × St} {σ : St} {pc : Nat} {lv : List (Nat × Value)} {st : List Value} {o : Option ρ} {q n : Nat} {i : Int32} {x : Int32} (hq : lay[q]? = some (.inr (1, n))) (hd : decode K.1 pc = .ok (.bastore, 1)) (k : T K cv (uA σ q (upd (zA σ q) i.toNatClampNeg (vp_nar .byte x))) (pc + 1) lv st o) : T K cv σ pc lv (.int x :: .int i :: .ref q :: st) (wr n i o) := by
  unfold wr
  refine T_ite (fun _ => T_none) (fun hin => ?_)
  refine T.stepS (σ2 := uA σ q (upd (zA σ q) i.toNatClampNeg (vp_nar .byte x))) rfl (fun E L r σ' C h => ?_) k
  obtain ⟨p, l, e, s, m, args, below, meth, c, D, cA, A, σ0, L0⟩ := E
  obtain ⟨hx, hb, hml, hown, hts, hK, hlocks, hret, hA, hX, hscr⟩ := C
  intro g0 g1 hL H locs ls hP hD hS hl
  refine va_bast hx hb hK hP hD hS q 1 (wl_at hq) rfl hin hd (fun H1 locs1 hP1 hD1 hS1 => ?_)
  rw [wl_uA1 hq] at hP1 hD1
  exact h g0 g1 hL H1 locs1 ls hP1 hD1 hS1 hl
theorem T_zast {ρ : Type} {K : Ks} {cv : ρ → Option Value × St} {σ : St} {pc : Nat} {lv : List (Nat × Value)} {st : List Value} {o : Option ρ} {q n : Nat} {i : Int32} {x : Int32} (hq : lay[q]? = some (.inr (2, n))) (hd : decode K.1 pc = .ok (.bastore, 1)) (k : T K cv (uA σ q (upd (zA σ q) i.toNatClampNeg (vp_nar .boolean x))) (pc + 1) lv st o) : T K cv σ pc lv (.int x :: .int i :: .ref q :: st) (wr n i o) := by
  unfold wr
  refine T_ite (fun _ => T_none) (fun hin => ?_)
  refine T.stepS (σ2 := uA σ q (upd (zA σ q) i.toNatClampNeg (vp_nar .boolean x))) rfl (fun E L r σ' C h => ?_) k
  obtain ⟨p, l, e, s, m, args, below, meth, c, D, cA, A, σ0, L0⟩ := E
  obtain ⟨hx, hb, hml, hown, hts, hK, hlocks, hret, hA, hX, hscr⟩ := C
  intro g0 g1 hL H locs ls hP hD hS hl
  refine va_zast hx hb hK hP hD hS q 2 (wl_at hq) rfl hin hd (fun H1 locs1 hP1 hD1 hS1 => ?_)
  rw [wl_uA2 hq] at hP1 hD1
  exact h g0 g1 hL H1 locs1 ls hP1 hD1 hS1 hl
theorem T_last {ρ : Type} {K : Ks} {cv : ρ → Option Value × St} {σ : St} {pc : Nat} {lv : List (Nat × Value)} {st : List Value} {o : Option ρ} {q n : Nat} {i : Int32} {x : Int64} (hq : lay[q]? = some (.inr (3, n))) (hd : decode K.1 pc = .ok (.lastore, 1)) (k : T K cv (uB σ q (vp_updL (zB σ q) i.toNatClampNeg x)) (pc + 1) lv st o) : T K cv σ pc lv (.long x :: .int i :: .ref q :: st) (wr n i o) := by
  unfold wr
  refine T_ite (fun _ => T_none) (fun hin => ?_)
  refine T.stepS (σ2 := uB σ q (vp_updL (zB σ q) i.toNatClampNeg x)) rfl (fun E L r σ' C h => ?_) k
  obtain ⟨p, l, e, s, m, args, below, meth, c, D, cA, A, σ0, L0⟩ := E
  obtain ⟨hx, hb, hml, hown, hts, hK, hlocks, hret, hA, hX, hscr⟩ := C
  intro g0 g1 hL H locs ls hP hD hS hl
  refine va_last hx hb hK hP hD hS q 3 (wl_at hq) rfl hin hd (fun H1 locs1 hP1 hD1 hS1 => ?_)
  rw [wl_uB3 hq] at hP1 hD1
  exact h g0 g1 hL H1 locs1 ls hP1 hD1 hS1 hl
theorem T_lastN {ρ : Type} {K : Ks} {cv : ρ → Option Value × St} {σ : St} {pc : Nat} {lv : List (Nat × Value)} {st : List Value} {o : Option ρ} {q n : Nat} {i : Int32} {x : Int64} (hq : lay[q]? = some (.inr (4, n))) (hd : decode K.1 pc = .ok (.lastore, 1)) (k : T K cv (uB σ q (vp_updL (zB σ q) i.toNatClampNeg x)) (pc + 1) lv st o) : T K cv σ pc lv (.long x :: .int i :: .ref q :: st) (wr (zN σ q) i o) := by
  unfold wr
  refine T_ite (fun _ => T_none) (fun hin => ?_)
  refine T.stepS (σ2 := uB σ q (vp_updL (zB σ q) i.toNatClampNeg x)) rfl (fun E L r σ' C h => ?_) k
  obtain ⟨p, l, e, s, m, args, below, meth, c, D, cA, A, σ0, L0⟩ := E
  obtain ⟨hx, hb, hml, hown, hts, hK, hlocks, hret, hA, hX, hscr⟩ := C
  intro g0 g1 hL H locs ls hP hD hS hl
  refine va_last hx hb hK hP hD hS q 3 (wl_at hq) rfl hin hd (fun H1 locs1 hP1 hD1 hS1 => ?_)
  rw [wl_uB4 hq] at hP1 hD1
  exact h g0 g1 hL H1 locs1 ls hP1 hD1 hS1 hl
theorem lenI_of {q : Nat} (h : ¬ lenI q = 0) : lay[q]? = some (.inr (0, lenI q)) := by
  unfold lenI at h ⊢
  split
  · assumption
  · rename_i hh
    exact absurd (by split <;> first | rfl | (rename_i q0; exact absurd q0 (hh _))) h
theorem lenY_of {q : Nat} (h : ¬ lenY q = 0) : lay[q]? = some (.inr (1, lenY q)) := by
  unfold lenY at h ⊢
  split
  · assumption
  · rename_i hh
    exact absurd (by split <;> first | rfl | (rename_i q0; exact absurd q0 (hh _))) h
theorem lenB_of {σ : St} {q : Nat} (h : ¬ lenB σ q = 0) : lay[q]? = some (.inr (3, lenB σ q)) ∨ ∃ n, lay[q]? = some (.inr (4, n)) ∧ lenB σ q = zN σ q := by
  cases hl : lay[q]? with
  | none => exact absurd (by unfold lenB; rw [hl]) h
  | some e =>
    cases e with
    | inl x => exact absurd (by unfold lenB; rw [hl]) h
    | inr x =>
      obtain ⟨k, n⟩ := x
      match k with
      | 0 => exact absurd (by unfold lenB; rw [hl]; rfl) h
      | 1 => exact absurd (by unfold lenB; rw [hl]; rfl) h
      | 2 => exact absurd (by unfold lenB; rw [hl]; rfl) h
      | 3 => exact Or.inl (by unfold lenB; rw [hl]; rfl)
      | 4 => exact Or.inr ⟨n, rfl, by unfold lenB; rw [hl]; rfl⟩
      | k + 5 => exact absurd (by unfold lenB; rw [hl]; rfl) h
theorem rd_0 {α : Type} {f : Nat → α} {i : Int32} : rd f 0 i = none := if_pos (Or.inr (Nat.zero_le _))
theorem wr_0 {ρ : Type} {i : Int32} {o : Option ρ} : wr 0 i o = none := if_pos (Or.inr (Nat.zero_le _))
theorem T_ialdX {ρ : Type} {K : Ks} {cv : ρ → Option Value × St} {σ : St} {pc : Nat} {lv : List (Nat × Value)} {st : List Value} {f : Int32 → Option ρ} {q : Nat} {i : Int32} (hd : decode K.1 pc = .ok (.iaload, 1)) (k : ∀ y, T K cv σ (pc + 1) lv (.int y :: st) (f y)) : T K cv σ pc lv (.int i :: .ref q :: st) ((rd (zA σ q) (lenI q) i).bind f) := by
  by_cases h : lenI q = 0
  · rw [h, rd_0]
    exact T_none
  · exact T_iald (lenI_of h) hd k
theorem T_baldX {ρ : Type} {K : Ks} {cv : ρ → Option Value × St} {σ : St} {pc : Nat} {lv : List (Nat × Value)} {st : List Value} {f : Int32 → Option ρ} {q : Nat} {i : Int32} (hd : decode K.1 pc = .ok (.baload, 1)) (k : ∀ y, T K cv σ (pc + 1) lv (.int y :: st) (f y)) : T K cv σ pc lv (.int i :: .ref q :: st) ((rd (zA σ q) (lenY q) i).bind f) := by
  by_cases h : lenY q = 0
  · rw [h, rd_0]
    exact T_none
  · exact T_bald (lenY_of h) hd k
theorem T_laldX {ρ : Type} {K : Ks} {cv : ρ → Option Value × St} {σ : St} {pc : Nat} {lv : List (Nat × Value)} {st : List Value} {f : Int64 → Option ρ} {q : Nat} {i : Int32} (hd : decode K.1 pc = .ok (.laload, 1)) (k : ∀ y, T K cv σ (pc + 1) lv (.long y :: st) (f y)) : T K cv σ pc lv (.int i :: .ref q :: st) ((rd (zB σ q) (lenB σ q) i).bind f) := by
  by_cases h : lenB σ q = 0
  · rw [h, rd_0]
    exact T_none
  · rcases lenB_of h with h1 | ⟨n, h1, h2⟩
    · exact T_lald h1 hd k
    · rw [h2]
      exact T_laldN h1 hd k
theorem T_iastX {ρ : Type} {K : Ks} {cv : ρ → Option Value × St} {σ : St} {pc : Nat} {lv : List (Nat × Value)} {st : List Value} {o : Option ρ} {q : Nat} {i : Int32} {x : Int32} (hd : decode K.1 pc = .ok (.iastore, 1)) (k : T K cv (uA σ q (upd (zA σ q) i.toNatClampNeg x)) (pc + 1) lv st o) : T K cv σ pc lv (.int x :: .int i :: .ref q :: st) (wr (lenI q) i o) := by
  by_cases h : lenI q = 0
  · rw [h, wr_0]
    exact T_none
  · exact T_iast (lenI_of h) hd k
theorem T_lastX {ρ : Type} {K : Ks} {cv : ρ → Option Value × St} {σ : St} {pc : Nat} {lv : List (Nat × Value)} {st : List Value} {o : Option ρ} {q : Nat} {i : Int32} {x : Int64} (hd : decode K.1 pc = .ok (.lastore, 1)) (k : T K cv (uB σ q (vp_updL (zB σ q) i.toNatClampNeg x)) (pc + 1) lv st o) : T K cv σ pc lv (.long x :: .int i :: .ref q :: st) (wr (lenB σ q) i o) := by
  by_cases h : lenB σ q = 0
  · rw [h, wr_0]
    exact T_none
  · rcases lenB_of h with h1 | ⟨n, h1, h2⟩
    · exact T_last h1 hd k
    · rw [h2]
      exact T_lastN h1 hd k
theorem T_alen {ρ : Type} {K : Ks} {cv : ρ → Option Value × St} {σ : St} {pc : Nat} {lv : List (Nat × Value)} {st : List Value} {o : Option ρ} {q n : Nat} {v : Int32} (hq : lay[q]? = some (.inr (0, n))) (hv : Int32.ofNat n = v) (hd : decode K.1 pc = .ok (.arraylength, 1)) (k : T K cv σ (pc + 1) lv (.int v :: st) o) : T K cv σ pc lv (.ref q :: st) o := by
  refine T.step (fun E L r σ' C h => ?_) k
  obtain ⟨p, l, e, s, m, args, below, meth, c, D, cA, A, σ0, L0⟩ := E
  obtain ⟨hx, hb, hml, hown, hts, hK, hlocks, hret, hA, hX, hscr⟩ := C
  intro g0 g1 hL H locs ls hP hD hS hl
  exact va_alen hx hb hK hP q 0 (wl_at hq) rfl hv hd (h g0 g1 hL H locs ls hP hD hS hl)
theorem T_alenB {ρ : Type} {K : Ks} {cv : ρ → Option Value × St} {σ : St} {pc : Nat} {lv : List (Nat × Value)} {st : List Value} {o : Option ρ} {q n : Nat} {v : Int32} (hq : lay[q]? = some (.inr (1, n))) (hv : Int32.ofNat n = v) (hd : decode K.1 pc = .ok (.arraylength, 1)) (k : T K cv σ (pc + 1) lv (.int v :: st) o) : T K cv σ pc lv (.ref q :: st) o := by
  refine T.step (fun E L r σ' C h => ?_) k
  obtain ⟨p, l, e, s, m, args, below, meth, c, D, cA, A, σ0, L0⟩ := E
  obtain ⟨hx, hb, hml, hown, hts, hK, hlocks, hret, hA, hX, hscr⟩ := C
  intro g0 g1 hL H locs ls hP hD hS hl
  exact va_alen hx hb hK hP q 1 (wl_at hq) rfl hv hd (h g0 g1 hL H locs ls hP hD hS hl)
theorem T_alenZ {ρ : Type} {K : Ks} {cv : ρ → Option Value × St} {σ : St} {pc : Nat} {lv : List (Nat × Value)} {st : List Value} {o : Option ρ} {q n : Nat} {v : Int32} (hq : lay[q]? = some (.inr (2, n))) (hv : Int32.ofNat n = v) (hd : decode K.1 pc = .ok (.arraylength, 1)) (k : T K cv σ (pc + 1) lv (.int v :: st) o) : T K cv σ pc lv (.ref q :: st) o := by
  refine T.step (fun E L r σ' C h => ?_) k
  obtain ⟨p, l, e, s, m, args, below, meth, c, D, cA, A, σ0, L0⟩ := E
  obtain ⟨hx, hb, hml, hown, hts, hK, hlocks, hret, hA, hX, hscr⟩ := C
  intro g0 g1 hL H locs ls hP hD hS hl
  exact va_alen hx hb hK hP q 2 (wl_at hq) rfl hv hd (h g0 g1 hL H locs ls hP hD hS hl)
theorem T_alenL {ρ : Type} {K : Ks} {cv : ρ → Option Value × St} {σ : St} {pc : Nat} {lv : List (Nat × Value)} {st : List Value} {o : Option ρ} {q n : Nat} {v : Int32} (hq : lay[q]? = some (.inr (3, n))) (hv : Int32.ofNat n = v) (hd : decode K.1 pc = .ok (.arraylength, 1)) (k : T K cv σ (pc + 1) lv (.int v :: st) o) : T K cv σ pc lv (.ref q :: st) o := by
  refine T.step (fun E L r σ' C h => ?_) k
  obtain ⟨p, l, e, s, m, args, below, meth, c, D, cA, A, σ0, L0⟩ := E
  obtain ⟨hx, hb, hml, hown, hts, hK, hlocks, hret, hA, hX, hscr⟩ := C
  intro g0 g1 hL H locs ls hP hD hS hl
  exact va_alen hx hb hK hP q 3 (wl_at hq) rfl hv hd (h g0 g1 hL H locs ls hP hD hS hl)
theorem T_alenN {ρ : Type} {K : Ks} {cv : ρ → Option Value × St} {σ : St} {pc : Nat} {lv : List (Nat × Value)} {st : List Value} {o : Option ρ} {q n : Nat} (hq : lay[q]? = some (.inr (4, n))) (hd : decode K.1 pc = .ok (.arraylength, 1)) (k : T K cv σ (pc + 1) lv (.int (Int32.ofNat (zN σ q)) :: st) o) : T K cv σ pc lv (.ref q :: st) o := by
  refine T.step (fun E L r σ' C h => ?_) k
  obtain ⟨p, l, e, s, m, args, below, meth, c, D, cA, A, σ0, L0⟩ := E
  obtain ⟨hx, hb, hml, hown, hts, hK, hlocks, hret, hA, hX, hscr⟩ := C
  intro g0 g1 hL H locs ls hP hD hS hl
  exact va_alen hx hb hK hP q 3 (wl_at hq) rfl rfl hd (h g0 g1 hL H locs ls hP hD hS hl)
theorem T_alenQ {ρ : Type} {K : Ks} {cv : ρ → Option Value × St} {σ : St} {pc : Nat} {lv : List (Nat × Value)} {st : List Value} {o : Option ρ} {q n : Nat} (hq : lay[q]? = some (.inr (5, n))) (hd : decode K.1 pc = .ok (.arraylength, 1)) (k : T K cv σ (pc + 1) lv (.int 4 :: st) o) : T K cv σ pc lv (.ref q :: st) o := by
  refine T.step (fun E L r σ' C h => ?_) k
  obtain ⟨p, l, e, s, m, args, below, meth, c, D, cA, A, σ0, L0⟩ := E
  obtain ⟨hx, hb, hml, hown, hts, hK, hlocks, hret, hA, hX, hscr⟩ := C
  intro g0 g1 hL H locs ls hP hD hS hl
  exact va_alen hx hb hK hP q 4 (wl_at hq) rfl rfl hd (h g0 g1 hL H locs ls hP hD hS hl)
theorem T_alenX {ρ : Type} {K : Ks} {cv : ρ → Option Value × St} {σ : St} {pc : Nat} {lv : List (Nat × Value)} {st : List Value} {o : Option ρ} {q : Nat} (hd : decode K.1 pc = .ok (.arraylength, 1)) (k : T K cv σ (pc + 1) lv (.int (Int32.ofNat (lenB σ q)) :: st) o) : T K cv σ pc lv (.ref q :: st) (isl (lenB σ q) o) := by
  unfold isl
  refine T_ite (fun _ => T_none) (fun h => ?_)
  rcases lenB_of h with h1 | ⟨n, h1, h2⟩
  · exact T_alenL h1 rfl hd k
  · rw [h2] at k
    exact T_alenN h1 hd k
theorem T_alenIX {ρ : Type} {K : Ks} {cv : ρ → Option Value × St} {σ : St} {pc : Nat} {lv : List (Nat × Value)} {st : List Value} {o : Option ρ} {q : Nat} (hd : decode K.1 pc = .ok (.arraylength, 1)) (k : T K cv σ (pc + 1) lv (.int (Int32.ofNat (lenI q)) :: st) o) : T K cv σ pc lv (.ref q :: st) (isl (lenI q) o) := by
  unfold isl
  refine T_ite (fun _ => T_none) (fun h => ?_)
  exact T_alen (lenI_of h) rfl hd k
theorem T_aald {ρ : Type} {K : Ks} {cv : ρ → Option Value × St} {σ : St} {pc : Nat} {lv : List (Nat × Value)} {st : List Value} {f : Nat → Option ρ} {q n : Nat} {i : Int32} (hq : lay[q]? = some (.inr (5, n))) (hd : decode K.1 pc = .ok (.aaload, 1)) (k : ∀ y, T K cv σ (pc + 1) lv (.ref y :: st) (f y)) : T K cv σ pc lv (.int i :: .ref q :: st) ((rd (fun j => n + j) 4 i).bind f) := by
  intro x hx
  unfold rd at hx
  by_cases hin : i < 0 ∨ 4 ≤ i.toNatClampNeg
  · rw [if_pos hin] at hx
    cases hx
  · rw [if_neg hin] at hx
    revert x
    show T K cv σ pc lv (.int i :: .ref q :: st) (f (n + i.toNatClampNeg))
    refine T.step (fun E L r σ' C h => ?_) (k (n + i.toNatClampNeg))
    obtain ⟨p, l, e, s, m, args, below, meth, c, D, cA, A, σ0, L0⟩ := E
    obtain ⟨hx, hb, hml, hown, hts, hK, hlocks, hret, hA, hX, hscr⟩ := C
    intro g0 g1 hL H locs ls hP hD hS hl
    have hlt : i.toNatClampNeg < 4 := Nat.not_le.mp fun q => hin (Or.inr q)
    exact W.aald (v := .ref (L (n + i.toNatClampNeg))) (ty := .array .long) hx hb (hP q _ (wl_at hq)) ((hK.2 4 _ rfl).1 4 (fun j => va_rf (some (L (n + j))))) rfl (fun q => by cases q) (by show ¬ (i < 0 ∨ (arrV _ _ _).slots.size ≤ _); rw [arrV_size]; exact hin) (by show (arrV _ _ _).slots[_]? = _; rw [arrV_read _ _ hlt]; rfl) rfl rfl hd (h g0 g1 hL H locs ls hP hD hS hl)
theorem T_ireturn {ρ : Type} {K : Ks} {cv : ρ → Option Value × St} {σ : St} {pc : Nat} {lv : List (Nat × Value)} {x : Int32} {y : ρ} (hr : K.2.2.1 = some .int) (hd : decode K.1 pc = .ok (.ireturn, 1)) (hy : cv y = (some (.int x), σ)) : T K cv σ pc lv [.int x] (some y) := by
  intro z hz
  cases hz
  rw [hy]
  refine ⟨⟨Nat.le_refl _, Nat.le_refl _⟩, fun E L C => ?_⟩
  obtain ⟨p, l, e, s, m, args, below, meth, c, D, cA, A, σ0, L0⟩ := E
  obtain ⟨hx, hb, hml, hown, hts, hK, hlocks, hret, hA, hX, hscr⟩ := C
  intro g0 g1 hL H locs ls hP hD hS hl
  exact W.iret hx hb (hret.trans hr) (fun t ht hW => ⟨⟨L, rfl, hL, by rw [ht]; exact hP, va_K.moved hW.alike hK, hD⟩, hS.F ht⟩) hS.2.2 hd hlocks
theorem T_lreturn {ρ : Type} {K : Ks} {cv : ρ → Option Value × St} {σ : St} {pc : Nat} {lv : List (Nat × Value)} {x : Int64} {y : ρ} (hr : K.2.2.1 = some .long) (hd : decode K.1 pc = .ok (.lreturn, 1)) (hy : cv y = (some (.long x), σ)) : T K cv σ pc lv [.long x] (some y) := by
  intro z hz
  cases hz
  rw [hy]
  refine ⟨⟨Nat.le_refl _, Nat.le_refl _⟩, fun E L C => ?_⟩
  obtain ⟨p, l, e, s, m, args, below, meth, c, D, cA, A, σ0, L0⟩ := E
  obtain ⟨hx, hb, hml, hown, hts, hK, hlocks, hret, hA, hX, hscr⟩ := C
  intro g0 g1 hL H locs ls hP hD hS hl
  exact W.lret hx hb (hret.trans hr) (fun t ht hW => ⟨⟨L, rfl, hL, by rw [ht]; exact hP, va_K.moved hW.alike hK, hD⟩, hS.F ht⟩) hS.2.2 hd hlocks
theorem bi_nar (b : Bool) : narrow .boolean (.int (bi b)) = .int (bi b) := by cases b <;> rfl
theorem T_zreturn {ρ : Type} {K : Ks} {cv : ρ → Option Value × St} {σ : St} {pc : Nat} {lv : List (Nat × Value)} {x : Int32} {y : ρ} (b : Bool) (hr : K.2.2.1 = some .boolean) (hd : decode K.1 pc = .ok (.ireturn, 1)) (hz1 : x = bi b) (hy : cv y = (some (.int (bi b)), σ)) : T K cv σ pc lv [.int x] (some y) := by
  subst hz1
  intro z hz
  cases hz
  rw [hy]
  refine ⟨⟨Nat.le_refl _, Nat.le_refl _⟩, fun E L C => ?_⟩
  obtain ⟨p, l, e, s, m, args, below, meth, c, D, cA, A, σ0, L0⟩ := E
  obtain ⟨hx, hb, hml, hown, hts, hK, hlocks, hret, hA, hX, hscr⟩ := C
  intro g0 g1 hL H locs ls hP hD hS hl
  exact W.zret hx hb (hret.trans hr) (bi_nar b) (fun t ht hW => ⟨⟨L, rfl, hL, by rw [ht]; exact hP, va_K.moved hW.alike hK, hD⟩, hS.F ht⟩) hS.2.2 hd hlocks
theorem T_return {ρ : Type} {K : Ks} {cv : ρ → Option Value × St} {σ : St} {pc : Nat} {lv : List (Nat × Value)} {y : ρ} (hr : K.2.2.1 = none) (hd : decode K.1 pc = .ok (.return_, 1)) (hy : cv y = (none, σ)) : T K cv σ pc lv [] (some y) := by
  intro z hz
  cases hz
  rw [hy]
  refine ⟨⟨Nat.le_refl _, Nat.le_refl _⟩, fun E L C => ?_⟩
  obtain ⟨p, l, e, s, m, args, below, meth, c, D, cA, A, σ0, L0⟩ := E
  obtain ⟨hx, hb, hml, hown, hts, hK, hlocks, hret, hA, hX, hscr⟩ := C
  intro g0 g1 hL H locs ls hP hD hS hl
  exact W.vret hx hb (hret.trans hr) (fun t ht hW => ⟨⟨L, rfl, hL, by rw [ht]; exact hP, va_K.moved hW.alike hK, hD⟩, hS.F ht⟩) hS.2.2 hd hlocks
def cPi (σ : St) (x : Int32) : Option Value × St := (some (.int x), σ)
def cPz (σ : St) (x : Bool) : Option Value × St := (some (.int (bi x)), σ)
def cPl (σ : St) (x : Int64) : Option Value × St := (some (.long x), σ)
def cSi (x : Int32 × St) : Option Value × St := (some (.int x.1), x.2)
def cSz (x : Bool × St) : Option Value × St := (some (.int (bi x.1)), x.2)
def cSl (x : Int64 × St) : Option Value × St := (some (.long x.1), x.2)
def cSv (x : St) : Option Value × St := (none, x)
theorem T_callPi {ρ : Type} {K : Ks} {cv : ρ → Option Value × St} {σ : St} {pc : Nat} {lv : List (Nat × Value)} {stk rest : List Value} {o1 : Option (Int32)} {f : Int32 → Option ρ} (hr : Rn K (cPi σ) σ pc stk rest o1) (hs : (lv.all (fun q => safe q.2) && rest.all safe) = true) (k : ∀ x, T K cv σ (pc + 3) lv (.int x :: rest) (f x)) : T K cv σ pc lv stk (o1.bind f) := T_call hr hs k
theorem T_callPz {ρ : Type} {K : Ks} {cv : ρ → Option Value × St} {σ : St} {pc : Nat} {lv : List (Nat × Value)} {stk rest : List Value} {o1 : Option (Bool)} {f : Bool → Option ρ} (hr : Rn K (cPz σ) σ pc stk rest o1) (hs : (lv.all (fun q => safe q.2) && rest.all safe) = true) (k : ∀ x, T K cv σ (pc + 3) lv (.int (bi x) :: rest) (f x)) : T K cv σ pc lv stk (o1.bind f) := T_call hr hs k
theorem T_callPl {ρ : Type} {K : Ks} {cv : ρ → Option Value × St} {σ : St} {pc : Nat} {lv : List (Nat × Value)} {stk rest : List Value} {o1 : Option (Int64)} {f : Int64 → Option ρ} (hr : Rn K (cPl σ) σ pc stk rest o1) (hs : (lv.all (fun q => safe q.2) && rest.all safe) = true) (k : ∀ x, T K cv σ (pc + 3) lv (.long x :: rest) (f x)) : T K cv σ pc lv stk (o1.bind f) := T_call hr hs k
theorem T_callSi {ρ : Type} {K : Ks} {cv : ρ → Option Value × St} {σ : St} {pc : Nat} {lv : List (Nat × Value)} {stk rest : List Value} {o1 : Option (Int32 × St)} {f : Int32 × St → Option ρ} (hr : Rn K cSi σ pc stk rest o1) (hs : (lv.all (fun q => safe q.2) && rest.all safe) = true) (k : ∀ x, T K cv x.2 (pc + 3) lv (.int x.1 :: rest) (f x)) : T K cv σ pc lv stk (o1.bind f) := T_call hr hs k
theorem T_callSz {ρ : Type} {K : Ks} {cv : ρ → Option Value × St} {σ : St} {pc : Nat} {lv : List (Nat × Value)} {stk rest : List Value} {o1 : Option (Bool × St)} {f : Bool × St → Option ρ} (hr : Rn K cSz σ pc stk rest o1) (hs : (lv.all (fun q => safe q.2) && rest.all safe) = true) (k : ∀ x, T K cv x.2 (pc + 3) lv (.int (bi x.1) :: rest) (f x)) : T K cv σ pc lv stk (o1.bind f) := T_call hr hs k
theorem T_callSl {ρ : Type} {K : Ks} {cv : ρ → Option Value × St} {σ : St} {pc : Nat} {lv : List (Nat × Value)} {stk rest : List Value} {o1 : Option (Int64 × St)} {f : Int64 × St → Option ρ} (hr : Rn K cSl σ pc stk rest o1) (hs : (lv.all (fun q => safe q.2) && rest.all safe) = true) (k : ∀ x, T K cv x.2 (pc + 3) lv (.long x.1 :: rest) (f x)) : T K cv σ pc lv stk (o1.bind f) := T_call hr hs k
theorem T_callSv {ρ : Type} {K : Ks} {cv : ρ → Option Value × St} {σ : St} {pc : Nat} {lv : List (Nat × Value)} {stk rest : List Value} {o1 : Option (St)} {f : St → Option ρ} (hr : Rn K cSv σ pc stk rest o1) (hs : (lv.all (fun q => safe q.2) && rest.all safe) = true) (k : ∀ x, T K cv x (pc + 3) lv (rest) (f x)) : T K cv σ pc lv stk (o1.bind f) := T_call hr hs k
theorem T_zretP {K : Ks} {σ : St} {pc : Nat} {lv : List (Nat × Value)} {x : Int32} (hr : K.2.2.1 = some .boolean) (hd : decode K.1 pc = .ok (.ireturn, 1)) : T K (cPz σ) σ pc lv [.int x] (zb x) := by
  unfold zb
  by_cases h0 : x = 0
  · rw [if_pos h0]; exact T_zreturn false hr hd h0 rfl
  · rw [if_neg h0]
    by_cases h1 : x = 1
    · rw [if_pos h1]; exact T_zreturn true hr hd h1 rfl
    · rw [if_neg h1]; exact T_none
theorem T_zretS {K : Ks} {σ : St} {pc : Nat} {lv : List (Nat × Value)} {x : Int32} (hr : K.2.2.1 = some .boolean) (hd : decode K.1 pc = .ok (.ireturn, 1)) : T K cSz σ pc lv [.int x] ((zb x).bind fun b => some (b, σ)) := by
  unfold zb
  by_cases h0 : x = 0
  · rw [if_pos h0]; exact T_zreturn false hr hd h0 rfl
  · rw [if_neg h0]
    by_cases h1 : x = 1
    · rw [if_pos h1]; exact T_zreturn true hr hd h1 rfl
    · rw [if_neg h1]; exact T_none
theorem bl_u (a : Array Value) : True := trivial
/-- what the tables say of a method of an object's own class -/
def MV (y : MethodName) (K1 : Ks) (n : Nat) : Prop := (Cond.code y K1.1 K1.2.2.2.2.2.1 K1.2.2.1 ∈ TB ∧ Cond.instanceMethod y ∈ TB ∧ Cond.selects y.cls y y ∈ TB ∧ Cond.initialized y.cls ∈ TB) ∧ y.cls ≠ "java/lang/invoke/MethodHandle" ∧ y.cls ≠ "java/lang/invoke/VarHandle" ∧ (parseMethodDescriptor y.desc).map (fun d => d.parameters.length) = some n
def MS (y : MethodName) (K1 : Ks) (n : Nat) : Prop := (Cond.code y K1.1 K1.2.2.2.2.2.1 K1.2.2.1 ∈ TB ∧ Cond.static y ∈ TB ∧ Cond.initialized y.cls ∈ TB) ∧ y.cls ≠ "java/lang/invoke/MethodHandle" ∧ y.cls ≠ "java/lang/invoke/VarHandle" ∧ (parseMethodDescriptor y.desc).map (fun d => d.parameters.length) = some n
/-- a method x of owner, called on an object of C, that is y -/
def MU (C owner : String) (x y : MethodName) (K1 : Ks) (n : Nat) : Prop := (Cond.code y K1.1 K1.2.2.2.2.2.1 K1.2.2.1 ∈ TB ∧ Cond.sameMethod x.cls owner x.name x.desc ∈ TB ∧ Cond.selects C x y ∈ TB ∧ Cond.instanceMethod y ∈ TB ∧ Cond.initialized y.cls ∈ TB) ∧ owner ≠ "java/lang/invoke/MethodHandle" ∧ owner ≠ "java/lang/invoke/VarHandle" ∧ (parseMethodDescriptor x.desc).map (fun d => d.parameters.length) = some n
theorem tb_code {w : Cond} (h : w ∈ TB) : ∀ v ∈ (w :: TB), v ∈ TB := fun v hv => by
  rcases List.mem_cons.mp hv with rfl | hv
  · exact h
  · exact hv
theorem tb_app {a b : List Cond} (ha : ∀ w ∈ a, w ∈ TB) (hb : ∀ w ∈ b, w ∈ TB) : ∀ w ∈ a ++ b, w ∈ TB := fun w hw => (List.mem_append.mp hw).elim (ha w) (hb w)
theorem Rn_V {ρ : Type} {K : Ks} {cv1 : ρ → Option Value × St} {σ : St} {pc : Nat} {stk rest : List Value} {o1 : Option ρ} {y : MethodName} {K1 : Ks} {as : List Value} {idx n : Nat} {q ci N : Nat} {fs : List (Nat × Nat)} {TT : u_T} (hM : Ct y K1 (.ref q :: as) σ cv1 o1) (hq : lay[q]? = some (.inl (ci, fs))) (hc : vwCl[ci]? = some (y.cls, TT, N)) (hm : MV y K1 n) (hlink : Cond.methodLink K.2.1 idx y ∈ TB) (hlen : as.length = n) (hR : K1.2.2.2.1 + 1 ≤ K.2.2.2.1 ∧ 8 + (K1.2.2.2.2.2.1 + 11) + K1.2.2.2.2.1 ≤ K.2.2.2.2.1) (hcat : (rest.map fun v => v.category).sum ≤ 8) (hd : decode K.1 pc = .ok (.invokevirtual idx, 3)) (hst : stk = as.reverse ++ .ref q :: rest) : Rn K cv1 σ pc stk rest o1 := by
  intro x1 h1
  obtain ⟨mono, hM⟩ := hM x1 h1
  refine ⟨mono, fun E L C => ?_⟩
  obtain ⟨p, l, e, s, m, args, below, meth, c, D, cA, A, σ0, L0⟩ := E
  obtain ⟨hx, hb, hml, hown, hts, hK, hlocks, hret, hA, hX, hscr⟩ := C
  intro k0 k1 H locs ls cells slots hc0 hc1 hP hD hls hL hS
  have hF : ∀ q : Nat, va_A (wl cA σ L) H.size q → A q := fun q hq => by
    rcases hq with ⟨i, y, hi⟩ | hq
    · exact hD.2 i _ hi
    · exact hA q (Nat.le_trans hS.1 hq)
  obtain ⟨⟨w1, w2, w3, w4⟩, d1, d2, d3⟩ := hm
  have hG : GoodIn TB (wsV K.2.1 idx y.cls y (Cond.code y K1.1 K1.2.2.2.2.2.1 K1.2.2.1 :: TB)) := tb_good (tb_app (fun w hw => by
    simp only [List.mem_cons, List.not_mem_nil, or_false] at hw
    rcases hw with rfl | rfl | rfl | rfl <;> assumption) (tb_code w1))
  exact ⟨_, va_runV (As := as.map (tv L)) (rest := rest.map (tv L)) ⟨hx, hb, hml, hown, hts⟩ (hM l D cA L H.size) (cwV n hts hG rfl rfl rfl ⟨rfl, d1, d2, d3⟩ hR) ⟨fun a U g mk q => by obtain ⟨q0, q1, q2, q3, q4, q5⟩ := q; exact ⟨q0, q1, q2, va_K.moved (u := U) (U := U.calling g mk a) (Vm.Alike.refl U.vm) q3, q4, q5.frame⟩, va_recv hK hP hc (wl_at hq), fun U hU hW => ⟨rfl, by rw [hU], by rw [hU]; exact hP, va_K.moved hW.alike hK, hD.weaken (fun _ _ _ _ => trivial), by rw [hU]; exact hX.next hL hS hF hW⟩⟩ rfl (by rw [List.length_map]; exact hlen) hls (by show stk.map (tv L) = _; rw [hst]; simp [tv]) (lv_room (by rw [tv_cats]; exact hcat)) hd ⟨hc0, hc1⟩⟩
theorem Rn_S {ρ : Type} {K : Ks} {cv1 : ρ → Option Value × St} {σ : St} {pc : Nat} {stk rest : List Value} {o1 : Option ρ} {y : MethodName} {K1 : Ks} {as : List Value} {idx n : Nat} (hM : Ct y K1 as σ cv1 o1) (hm : MS y K1 n) (hlink : Cond.methodLink K.2.1 idx y ∈ TB) (hlen : as.length = n) (hR : K1.2.2.2.1 + 1 ≤ K.2.2.2.1 ∧ 8 + (K1.2.2.2.2.2.1 + 11) + K1.2.2.2.2.1 ≤ K.2.2.2.2.1) (hcat : (rest.map fun v => v.category).sum ≤ 8) (hd : decode K.1 pc = .ok (.invokestatic idx, 3)) (hst : stk = as.reverse ++ rest) : Rn K cv1 σ pc stk rest o1 := by
  intro x1 h1
  obtain ⟨mono, hM⟩ := hM x1 h1
  refine ⟨mono, fun E L C => ?_⟩
  obtain ⟨p, l, e, s, m, args, below, meth, c, D, cA, A, σ0, L0⟩ := E
  obtain ⟨hx, hb, hml, hown, hts, hK, hlocks, hret, hA, hX, hscr⟩ := C
  intro k0 k1 H locs ls cells slots hc0 hc1 hP hD hls hL hS
  have hF : ∀ q : Nat, va_A (wl cA σ L) H.size q → A q := fun q hq => by
    rcases hq with ⟨i, y, hi⟩ | hq
    · exact hD.2 i _ hi
    · exact hA q (Nat.le_trans hS.1 hq)
  obtain ⟨⟨w1, w2, w3⟩, d1, d2, d3⟩ := hm
  have hB := callB_of (R := { frames := K.2.2.2.1, cells := k0, slots := k1, locals := K.2.2.2.2.1 }) (mc := zN (cv1 x1).2 0 - zN σ 0) (ms := zN (cv1 x1).2 1 - zN σ 1) (own := K.2.1) (index := idx) (y := y) (rm := { frames := K1.2.2.2.1, cells := zN (cv1 x1).2 0 - zN σ 0, slots := zN (cv1 x1).2 1 - zN σ 1, locals := K1.2.2.2.2.1 }) n hts (tb_good (tb_code w1)) rfl rfl rfl (hts _ w3) (hts _ hlink) ⟨d1, d2, d3⟩ hR
  exact ⟨_, va_runS (As := as.map (tv L)) (rest := rest.map (tv L)) ⟨hx, hb, hml, hown, hts⟩ (hM l D cA L H.size) ⟨hB, hts _ w2⟩ ⟨fun a U g mk q => by obtain ⟨q0, q1, q2, q3, q4, q5⟩ := q; exact ⟨q0, q1, q2, va_K.moved (u := U) (U := U.calling g mk a) (Vm.Alike.refl U.vm) q3, q4, q5.frame⟩, fun U hU hW => ⟨rfl, by rw [hU], by rw [hU]; exact hP, va_K.moved hW.alike hK, hD.weaken (fun _ _ _ _ => trivial), by rw [hU]; exact hX.next hL hS hF hW⟩⟩ rfl (by rw [List.length_map]; exact hlen) hls (by show stk.map (tv L) = _; rw [hst]; simp) (lv_room (by rw [tv_cats]; exact hcat)) hd ⟨hc0, hc1⟩⟩
theorem Rn_U {ρ : Type} {K : Ks} {cv1 : ρ → Option Value × St} {σ : St} {pc : Nat} {stk rest : List Value} {o1 : Option ρ} {y : MethodName} {K1 : Ks} {as : List Value} {idx n : Nat} {q ci N : Nat} {fs : List (Nat × Nat)} {TT : u_T} {Cn owner : String} {x : MethodName} (hM : Ct y K1 (.ref q :: as) σ cv1 o1) (hq : lay[q]? = some (.inl (ci, fs))) (hc : vwCl[ci]? = some (Cn, TT, N)) (hm : MU Cn owner x y K1 n) (hlink : Cond.methodLink K.2.1 idx x ∈ TB) (hyx : y = ⟨owner, x.name, x.desc⟩) (hlen : as.length = n) (hR : K1.2.2.2.1 + 1 ≤ K.2.2.2.1 ∧ 8 + (K1.2.2.2.2.2.1 + 11) + K1.2.2.2.2.1 ≤ K.2.2.2.2.1) (hcat : (rest.map fun v => v.category).sum ≤ 8) (hd : decode K.1 pc = .ok (.invokevirtual idx, 3)) (hst : stk = as.reverse ++ .ref q :: rest) : Rn K cv1 σ pc stk rest o1 := by
  intro x1 h1
  obtain ⟨mono, hM⟩ := hM x1 h1
  refine ⟨mono, fun E L C => ?_⟩
  obtain ⟨p, l, e, s, m, args, below, meth, c, D, cA, A, σ0, L0⟩ := E
  obtain ⟨hx, hb, hml, hown, hts, hK, hlocks, hret, hA, hX, hscr⟩ := C
  intro k0 k1 H locs ls cells slots hc0 hc1 hP hD hls hL hS
  have hF : ∀ q : Nat, va_A (wl cA σ L) H.size q → A q := fun q hq => by
    rcases hq with ⟨i, y, hi⟩ | hq
    · exact hD.2 i _ hi
    · exact hA q (Nat.le_trans hS.1 hq)
  obtain ⟨⟨w1, w2, w3, w4, w5⟩, d1, d2, d3⟩ := hm
  have hG : GoodIn TB (va_wsU K.2.1 idx Cn owner x y (Cond.code y K1.1 K1.2.2.2.2.2.1 K1.2.2.1 :: TB)) := tb_good (tb_app (fun w hw => by
    simp only [List.mem_cons, List.not_mem_nil, or_false] at hw
    rcases hw with rfl | rfl | rfl | rfl | rfl <;> assumption) (tb_code w1))
  exact ⟨_, va_runU (C := Cn) (As := as.map (tv L)) (rest := rest.map (tv L)) ⟨hx, hb, hml, hown, hts⟩ (hM l D cA L H.size) (va_cwU n hts hG rfl rfl rfl hyx ⟨d1, d2, d3⟩ hR) ⟨fun a U g mk q => by obtain ⟨q0, q1, q2, q3, q4, q5⟩ := q; exact ⟨q0, q1, q2, va_K.moved (u := U) (U := U.calling g mk a) (Vm.Alike.refl U.vm) q3, q4, q5.frame⟩, va_recv hK hP hc (wl_at hq), fun U hU hW => ⟨rfl, by rw [hU], by rw [hU]; exact hP, va_K.moved hW.alike hK, hD.weaken (fun _ _ _ _ => trivial), by rw [hU]; exact hX.next hL hS hF hW⟩⟩ rfl (by rw [List.length_map]; exact hlen) hls (by show stk.map (tv L) = _; rw [hst]; simp [tv]) (lv_room (by rw [tv_cats]; exact hcat)) hd ⟨hc0, hc1⟩⟩
theorem Rn_A {ρ : Type} {K : Ks} {cv1 : ρ → Option Value × St} {σ : St} {pc : Nat} {stk rest : List Value} {o1 : Option ρ} {y : MethodName} {K1 : Ks} {as : List Value} {idx n : Nat} {q ci N : Nat} {fs : List (Nat × Nat)} {TT : u_T} {Cn owner : String} {x : MethodName} (hM : Ct y K1 (.ref q :: as) σ cv1 o1) (hq : lay[q]? = some (.inl (ci, fs))) (hc : vwCl[ci]? = some (Cn, TT, N)) (hm : MU Cn owner x y K1 n) (hlink : Cond.methodLink K.2.1 idx x ∈ TB) (hdc : (⟨owner, x.name, x.desc⟩ : MethodName) ∈ absM) (hlen : as.length = n) (hR : K1.2.2.2.1 + 1 ≤ K.2.2.2.1 ∧ 8 + (K1.2.2.2.2.2.1 + 11) + K1.2.2.2.2.1 ≤ K.2.2.2.2.1) (hcat : (rest.map fun v => v.category).sum ≤ 8) (hd : decode K.1 pc = .ok (.invokevirtual idx, 3)) (hst : stk = as.reverse ++ .ref q :: rest) : Rn K cv1 σ pc stk rest o1 := by
  intro x1 h1
  obtain ⟨mono, hM⟩ := hM x1 h1
  refine ⟨mono, fun E L C => ?_⟩
  obtain ⟨p, l, e, s, m, args, below, meth, c, D, cA, A, σ0, L0⟩ := E
  obtain ⟨hx, hb, hml, hown, hts, hK, hlocks, hret, hA, hX, hscr⟩ := C
  intro k0 k1 H locs ls cells slots hc0 hc1 hP hD hls hL hS
  have hF : ∀ q : Nat, va_A (wl cA σ L) H.size q → A q := fun q hq => by
    rcases hq with ⟨i, y, hi⟩ | hq
    · exact hD.2 i _ hi
    · exact hA q (Nat.le_trans hS.1 hq)
  obtain ⟨⟨w1, w2, w3, w4, w5⟩, d1, d2, d3⟩ := hm
  have hG : GoodIn TB (va_wsU K.2.1 idx Cn owner x y (Cond.code y K1.1 K1.2.2.2.2.2.1 K1.2.2.1 :: TB)) := tb_good (tb_app (fun w hw => by
    simp only [List.mem_cons, List.not_mem_nil, or_false] at hw
    rcases hw with rfl | rfl | rfl | rfl | rfl <;> assumption) (tb_code w1))
  exact ⟨_, va_runU (C := Cn) (As := as.map (tv L)) (rest := rest.map (tv L)) ⟨hx, hb, hml, hown, hts⟩ (hM l D cA L H.size) (va_cwA n hts hG rfl rfl rfl (hX.1 _ hdc) ⟨d1, d2, d3⟩ hR) ⟨fun a U g mk q => by obtain ⟨q0, q1, q2, q3, q4, q5⟩ := q; exact ⟨q0, q1, q2, va_K.moved (u := U) (U := U.calling g mk a) (Vm.Alike.refl U.vm) q3, q4, q5.frame⟩, va_recv hK hP hc (wl_at hq), fun U hU hW => ⟨rfl, by rw [hU], by rw [hU]; exact hP, va_K.moved hW.alike hK, hD.weaken (fun _ _ _ _ => trivial), by rw [hU]; exact hX.next hL hS hF hW⟩⟩ rfl (by rw [List.length_map]; exact hlen) hls (by show stk.map (tv L) = _; rw [hst]; simp [tv]) (lv_room (by rw [tv_cats]; exact hcat)) hd ⟨hc0, hc1⟩⟩
