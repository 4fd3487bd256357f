/-! the words of the tables that hold at any warmer state, and how a word is found among them -/
def tb_extra : List Cond := [.selects "CueRolls$RollReader" yX5_cutUp yX5_cutUp, .selects "CueRolls$PlotReader" yX5_cutUp yX5_cutUp, .selects "CueRolls$Habits" yX5_cutUp yX5_cutUp]
/-- the tables, and which method a private one of a superclass is -/
def lw_tb2 : List Cond := lw_tbl ++ tb_extra
def TB : List Cond := lw_tb2.filter goodWord
/-- a private method of a class above: chosen whatever the object; that its class is no interface another word of it says -/
theorem sel_private {y z : MethodName} {C C2 : String} {s : State} {args : Array Value} {n : Nat} (hy : y.cls ≠ "java/lang/invoke/MethodHandle" ∧ y.cls ≠ "java/lang/invoke/VarHandle") (hz : z.cls = y.cls)
    (hC : (Cond.instantiable C n).before args s = true) (hpriv : (Cond.privateMethod y).before args s = true) (hinst : (Cond.instanceMethod y).before args s = true) (hs : (Cond.selects C2 z z).before args s = true) :
    (Cond.selects C y y).before args s = true := by
  obtain ⟨c, k, hc, hk, -, -⟩ := Cond.instantiable_spec hC
  obtain ⟨mk, methM, hnamed, hmethM, -, -⟩ := Cond.instanceMethod_spec hinst
  have hfound : s.methodFound? y.cls y.name y.desc = some mk := State.methodFound?_of_named hnamed hy
  have hsel : selectMethod {} s.vm c mk = .method mk := selectMethod_private hmethM (Cond.privateMethod_at hpriv mk methM hnamed hmethM)
  obtain ⟨c2, r2, m2, q1, q2, q3, q4, kP, hkP, hkPi⟩ := Cond.selects_spec hs
  have e1 := findClass_of_methodNamed hnamed
  have e2 := findClass_of_methodNamed q3
  rw [hz] at e2
  have e3 : m2.cls = mk.cls := Option.some.inj (e2.symm.trans e1)
  rw [e3] at hkP
  simp only [Cond.before, Cond.holds, Cond.value, hc, hfound, hnamed, hsel, hkP]
  simp
  exact hkPi
theorem tb2_hts {args : Array Value} {s : State} (hts : ∀ w ∈ lw_tbl, w.before args s = true) : ∀ w ∈ lw_tb2, w.before args s = true := by
  intro w hw
  rcases List.mem_append.mp hw with h | h
  · exact hts w h
  · have hy : yX5_cutUp.cls ≠ "java/lang/invoke/MethodHandle" ∧ yX5_cutUp.cls ≠ "java/lang/invoke/VarHandle" := ⟨by decide +kernel, by decide +kernel⟩
    have h1 := hts (.privateMethod yX5_cutUp) (List.mem_of_getElem? (i := 512) (by decide +kernel))
    have h2 := hts (.instanceMethod yX5_cutUp) (List.mem_of_getElem? (i := 513) (by decide +kernel))
    have h3 := hts (.selects "CueRolls$Habits" yX5_spoil yX5_spoil) (List.mem_of_getElem? (i := 593) (by decide +kernel))
    unfold tb_extra at h
    rcases List.mem_cons.mp h with rfl | h
    · exact sel_private (z := yX5_spoil) (n := 10) hy rfl (hts (.instantiable "CueRolls$RollReader" 10) (List.mem_of_getElem? (i := 224) (by decide +kernel))) h1 h2 h3
    · rcases List.mem_cons.mp h with rfl | h
      · exact sel_private (z := yX5_spoil) (n := 7) hy rfl (hts (.instantiable "CueRolls$PlotReader" 7) (List.mem_of_getElem? (i := 264) (by decide +kernel))) h1 h2 h3
      · rcases List.mem_cons.mp h with rfl | h
        · exact sel_private (z := yX5_spoil) (n := 13) hy rfl (hts (.instantiable "CueRolls$Habits" 13) (List.mem_of_getElem? (i := 282) (by decide +kernel))) h1 h2 h3
        · cases h
theorem tb_of {w : Cond} (i : Nat) (h : lw_tb2[i]? = some w) (hg : goodWord w = true) : w ∈ TB := List.mem_filter.mpr ⟨List.mem_of_getElem? h, hg⟩
theorem tb_m {w : Cond} (h : w ∈ lw_tb2) (hg : goodWord w = true) : w ∈ TB := List.mem_filter.mpr ⟨h, hg⟩
theorem tb_t {w : Cond} (h : w ∈ tables_1) : w ∈ lw_tb2 := List.mem_append_left _ (List.mem_append_right _ h)
theorem tb_p {w : Cond} (i : Nat) (h : (k2_sels lw_privs)[i]? = some w) (hg : goodWord w = true) : w ∈ TB := tb_m (List.mem_append_left _ (List.mem_append_left _ (List.mem_of_getElem? h))) hg
theorem tb_x {w : Cond} (i : Nat) (h : tb_extra[i]? = some w) (hg : goodWord w = true) : w ∈ TB := tb_m (List.mem_append_right _ (List.mem_of_getElem? h)) hg
theorem tb_1 {w : Cond} (i : Nat) (h : tables_1_1[i]? = some w) (hg : goodWord w = true) : w ∈ TB := by
  have h0 := List.mem_of_getElem? h
  refine tb_m (tb_t ?_) hg
  unfold tables_1
  exact List.mem_append_left _ h0
theorem tb_2 {w : Cond} (i : Nat) (h : tables_1_2[i]? = some w) (hg : goodWord w = true) : w ∈ TB := by
  have h0 := List.mem_of_getElem? h
  refine tb_m (tb_t ?_) hg
  unfold tables_1
  exact List.mem_append_right _ (List.mem_append_left _ h0)
theorem tb_3 {w : Cond} (i : Nat) (h : tables_1_3[i]? = some w) (hg : goodWord w = true) : w ∈ TB := by
  have h0 := List.mem_of_getElem? h
  refine tb_m (tb_t ?_) hg
  unfold tables_1
  exact List.mem_append_right _ (List.mem_append_right _ (List.mem_append_left _ h0))
theorem tb_4 {w : Cond} (i : Nat) (h : tables_1_4[i]? = some w) (hg : goodWord w = true) : w ∈ TB := by
  have h0 := List.mem_of_getElem? h
  refine tb_m (tb_t ?_) hg
  unfold tables_1
  exact List.mem_append_right _ (List.mem_append_right _ (List.mem_append_right _ (List.mem_append_left _ h0)))
theorem tb_5 {w : Cond} (i : Nat) (h : tables_1_5[i]? = some w) (hg : goodWord w = true) : w ∈ TB := by
  have h0 := List.mem_of_getElem? h
  refine tb_m (tb_t ?_) hg
  unfold tables_1
  exact List.mem_append_right _ (List.mem_append_right _ (List.mem_append_right _ (List.mem_append_right _ (List.mem_append_left _ h0))))
theorem tb_6 {w : Cond} (i : Nat) (h : tables_1_6[i]? = some w) (hg : goodWord w = true) : w ∈ TB := by
  have h0 := List.mem_of_getElem? h
  refine tb_m (tb_t ?_) hg
  unfold tables_1
  exact List.mem_append_right _ (List.mem_append_right _ (List.mem_append_right _ (List.mem_append_right _ (List.mem_append_right _ (List.mem_append_left _ h0)))))
theorem tb_7 {w : Cond} (i : Nat) (h : tables_1_7[i]? = some w) (hg : goodWord w = true) : w ∈ TB := by
  have h0 := List.mem_of_getElem? h
  refine tb_m (tb_t ?_) hg
  unfold tables_1
  exact List.mem_append_right _ (List.mem_append_right _ (List.mem_append_right _ (List.mem_append_right _ (List.mem_append_right _ (List.mem_append_right _ (List.mem_append_left _ h0))))))
theorem tb_8 {w : Cond} (i : Nat) (h : tables_1_8[i]? = some w) (hg : goodWord w = true) : w ∈ TB := by
  have h0 := List.mem_of_getElem? h
  refine tb_m (tb_t ?_) hg
  unfold tables_1
  exact List.mem_append_right _ (List.mem_append_right _ (List.mem_append_right _ (List.mem_append_right _ (List.mem_append_right _ (List.mem_append_right _ (List.mem_append_right _ (List.mem_append_left _ h0)))))))
theorem tb_9 {w : Cond} (i : Nat) (h : tables_1_9[i]? = some w) (hg : goodWord w = true) : w ∈ TB := by
  have h0 := List.mem_of_getElem? h
  refine tb_m (tb_t ?_) hg
  unfold tables_1
  exact List.mem_append_right _ (List.mem_append_right _ (List.mem_append_right _ (List.mem_append_right _ (List.mem_append_right _ (List.mem_append_right _ (List.mem_append_right _ (List.mem_append_right _ (h0))))))))
theorem tb_good {ws : List Cond} (h : ∀ w ∈ ws, w ∈ TB) : GoodIn TB ws := fun w hw => ⟨h w hw, good_of_word (List.mem_filter.mp (h w hw)).2⟩
theorem tb_all {ws : List Cond} (is : List Nat) (h : (ws == is.filterMap (fun i => lw_tb2[i]?)) = true) (hg : ws.all goodWord = true) : ∀ w ∈ ws, w ∈ TB := by
  intro w hw
  have hg' := List.all_eq_true.mp hg w hw
  rw [eq_of_beq h] at hw
  obtain ⟨i, -, hi⟩ := List.mem_filterMap.mp hw
  exact tb_of i hi hg'
/-- which addresses may move: those of Orders' slots and reached -/
def Lok (L0 L : Nat → Nat) : Prop := ∀ q : Nat, q ≠ idSlots → q ≠ idReached → L q = L0 q
theorem Lok.rf {L : Nat → Nat} : Lok L L := fun _ _ _ => rfl
theorem Lok.trans {L0 L1 L2 : Nat → Nat} (h1 : Lok L0 L1) (h2 : Lok L1 L2) : Lok L0 L2 := fun q a b => (h2 q a b).trans (h1 q a b)
def safe (v : Value) : Bool := match v with
  | .ref q => q != idSlots && q != idReached
  | _ => true
theorem tv_safe {L0 L : Nat → Nat} (h : Lok L0 L) {v : Value} (hs : safe v = true) : tv L v = tv L0 v := by
  cases v with
  | ref q =>
    simp only [safe, Bool.and_eq_true, bne_iff_ne] at hs
    exact congrArg Value.ref (h q hs.1 hs.2)
  | _ => rfl
theorem tvs_safe {L0 L : Nat → Nat} (h : Lok L0 L) {vs : List Value} (hs : vs.all safe = true) : vs.map (tv L) = vs.map (tv L0) := List.map_congr_left (fun v hv => tv_safe h (List.all_eq_true.mp hs v hv))
theorem tl_safe {L0 L : Nat → Nat} (h : Lok L0 L) {lv : List (Nat × Value)} (hs : lv.all (fun q => safe q.2) = true) : tl L lv = tl L0 lv := List.map_congr_left (fun v hv => congrArg (fun z => (v.1, z)) (tv_safe h (List.all_eq_true.mp hs v hv)))
theorem tv_cat {L : Nat → Nat} (v : Value) : (tv L v).category = v.category := by cases v <;> rfl
theorem tv_cats {L : Nat → Nat} (vs : List Value) : ((vs.map (tv L)).map fun v => v.category).sum = (vs.map fun v => v.category).sum := by
  rw [List.map_map]
  exact congrArg List.sum (List.map_congr_left (fun v _ => tv_cat v))
def absM : List MethodName := [⟨"CueRolls$Reader", "joins", "(I)Z"⟩, ⟨"CueRolls$Reader", "mostJoined", "()I"⟩, ⟨"CueRolls$Reader", "grown", "(JI)J"⟩, ⟨"CueRolls$Reader", "takeAll", "()V"⟩]
/-- what lies outside of the world, and stays: abstract methods, the constants' texts at ids 200.., their bytes at 210.., two statics -/
def Ext (L : Nat → Nat) (A : Nat → Prop) (U : State) (H : Heap) : Prop := (∀ x ∈ absM, va_Nw (.declares x) U) ∧ (vk_R "CueRollsModel" 29 "y" (L 200) U ∧ vk_R "CueRollsModel" 35 "nvflw" (L 201) U ∧ vk_R "CueRollsModel" 416 "aeiou" (L 202) U) ∧ vk_S 3 strL strB (fun i => L (200 + i)) (fun i => L (210 + i)) A U H ∧ va_Z "java/lang/String" "COMPACT_STRINGS" "Z" (.int 1) A U H ∧ (va_Z "jdk/internal/util/Preconditions" "SIOOBE_FORMATTER" "Ljava/util/function/BiFunction;" .null A U H ∨ va_Z "jdk/internal/util/Preconditions" "SIOOBE_FORMATTER" "Ljava/util/function/BiFunction;" (.ref (L 220)) A U H)
theorem Ext.next {L0 L : Nat → Nat} {A A' : Nat → Prop} {s U : State} {H : Heap} {locs : List Loc} (h : Ext L0 A s s.heap) (hL : Lok L0 L) (hS : va_S A s.heap H locs) (hA : ∀ q, A' q → A q) (hW : s.WarmedH U.vm) : Ext L A' U H := by
  obtain ⟨h1, ⟨a1, a2, a3⟩, h3, h4, h5⟩ := h
  have hl : ∀ q : Nat, 200 ≤ q → L q = L0 q := fun q hq => hL q (fun e => by rw [e] at hq; exact absurd hq (by decide)) (fun e => by rw [e] at hq; exact absurd hq (by decide))
  refine ⟨fun x hx => (h1 x hx).warmD hW, ⟨?_, ?_, ?_⟩, ?_, ?_, ?_⟩
  · rw [hl 200 (by decide)]; exact a1.warm hW
  · rw [hl 201 (by decide)]; exact a2.warm hW
  · rw [hl 202 (by decide)]; exact a3.warm hW
  · have e1 : (fun i => L (200 + i)) = fun i => L0 (200 + i) := funext fun i => hl _ (Nat.le_add_right _ _)
    have e2 : (fun i => L (210 + i)) = fun i => L0 (210 + i) := funext fun i => hl _ (by omega)
    rw [e1, e2]
    exact ((h3.kept hS.2.1).narrow hA).moved hW.alike
  · exact ((h4.kept hS.2.1).narrow hA).moved hW.alike
  · rw [hl 220 (by decide)]
    exact h5.imp (fun h => ((h.kept hS.2.1).narrow hA).moved hW.alike) (fun h => ((h.kept hS.2.1).narrow hA).moved hW.alike)
theorem Ext.frame {L : Nat → Nat} {A : Nat → Prop} {U : State} {g : JFrame} {mk : MethodId} {a : Array Value} (h : Ext L A U U.heap) : Ext L A (U.calling g mk a) (U.calling g mk a).heap := by
  obtain ⟨h1, ⟨a1, a2, a3⟩, h3, h4, h5⟩ := h
  have hv : (U.calling g mk a).vm = U.vm := rfl
  exact ⟨fun x hx => (h1 x hx).warmD (State.WarmedH.refl U), ⟨a1.same hv, a2.same hv, a3.same hv⟩, vk_S.moved (u := U) (Vm.Alike.refl U.vm) h3, va_Z.moved (u := U) (Vm.Alike.refl U.vm) h4, h5.imp (fun h => va_Z.moved (u := U) (Vm.Alike.refl U.vm) h) (fun h => va_Z.moved (u := U) (Vm.Alike.refl U.vm) h)⟩
abbrev Ev : Type := Program × Launch × Env × State × MethodId × Array Value × List Frame × Method × Code × va_G × (Nat → ClassId) × (Nat → Prop) × St × (Nat → Nat)
/-- a method: code, class, what it answers, its frames, its locals' words, its locals; the law's script -/
abbrev Ks : Type := ByteArray × String × Option FieldType × Nat × Nat × Nat × Option ((Nat → Int32) × Nat)
/-- the script, at id 300, where there is one, and what a throw wants -/
def Scr (l : Launch) (x : Option ((Nat → Int32) × Nat)) (L : Nat → Nat) (A : Nat → Prop) (U : State) (H : Heap) : Prop := match x with
  | none => True
  | some (xs, n) => va_X (L 300) n xs U H ∧ ¬ A (L 300) ∧ L 300 < H.size ∧ Xtr l A U H
/-- what stands fast while a method's body runs -/
def Cx (E : Ev) (K : Ks) : Prop := match E with
  | (p, l, e, s, m, args, below, meth, c, D, cA, A, σ0, L0) => p.tables.exec = Jvm.exec ∧ c.code = K.1 ∧ c.maxLocals = K.2.2.2.2.2.1 ∧ s.vm.findClass K.2.1 = some m.cls ∧ (∀ w ∈ TB, w.before args s = true) ∧ va_K D vwCl (tysOf cA) s ∧ meth.locks = false ∧ meth.sig.returnType = K.2.2.1 ∧ (∀ q : Nat, s.heap.size ≤ q → A q) ∧ Ext L0 A s s.heap ∧ Scr l K.2.2.2.2.2.2 L0 A s s.heap
/-- a method's end: what it answers, the world behind it -/
def Qv (D : va_G) (cA : Nat → ClassId) (L0 : Nat → Nat) (A : Nat → Prop) (r : Option Value) (σ' : St) : Array Value → State → Outcome → State → Prop := fun _ st oc t => (∃ L' : Nat → Nat, oc = .returned (r.map (tv L')) ∧ Lok L0 L' ∧ va_P D vwCl (wl cA σ' L') t.heap ∧ va_K D vwCl (tysOf cA) t ∧ va_D A (wl cA σ' L')) ∧ va_F A st t
def TW (E : Ev) (K : Ks) (σ : St) (L : Nat → Nat) (pc : Nat) (lv : List (Nat × Value)) (stk : List Value) (r : Option Value) (σ' : St) : Prop := match E with
  | (p, l, e, s, m, args, below, meth, c, D, cA, A, σ0, L0) => zN σ0 0 ≤ zN σ 0 → zN σ0 1 ≤ zN σ 1 → Lok L0 L → ∀ (H : Heap) (locs : List Loc) (ls : Array Slot), va_P D vwCl (wl cA σ L) H → va_D A (wl cA σ L) → va_S A s.heap H locs → lv_has ls K.2.2.2.2.2.1 (tl L lv) →
      W p l e { frames := K.2.2.2.1, cells := zN σ' 0 - zN σ0 0, slots := zN σ' 1 - zN σ0 1, locals := K.2.2.2.2.1 } s m args below meth c H locs (zN σ 0 - zN σ0 0) (zN σ 1 - zN σ0 1) (MQ below (Qv D cA L0 A r σ') args s (zN σ' 0 - zN σ0 0) (zN σ' 1 - zN σ0 1) A) (F0 m pc ls (stk.map (tv L)))
/-- the machine at this place, with this world, comes to what o says -/
def T {ρ : Type} (K : Ks) (cv : ρ → Option Value × St) (σ : St) (pc : Nat) (lv : List (Nat × Value)) (stk : List Value) (o : Option ρ) : Prop := ∀ x, o = some x → (zN σ 0 ≤ zN (cv x).2 0 ∧ zN σ 1 ≤ zN (cv x).2 1) ∧ ∀ (E : Ev) (L : Nat → Nat), Cx E K → TW E K σ L pc lv stk (cv x).1 (cv x).2
theorem T.step {ρ : Type} {K : Ks} {cv : ρ → Option Value × St} {σ : St} {pc pc' : Nat} {lv lv' : List (Nat × Value)} {stk stk' : List Value} {o : Option ρ} (h : ∀ (E : Ev) (L : Nat → Nat) (r : Option Value) (σ' : St), Cx E K → TW E K σ L pc' lv' stk' r σ' → TW E K σ L pc lv stk r σ') (k : T K cv σ pc' lv' stk' o) : T K cv σ pc lv stk o :=
  fun x hx => ⟨(k x hx).1, fun E L C => h E L _ _ C ((k x hx).2 E L C)⟩
/-- a method's contract -/
def Ct {ρ : Type} (y : MethodName) (K : Ks) (args : List Value) (σ : St) (cv : ρ → Option Value × St) (o : Option ρ) : Prop := ∀ x, o = some x → (zN σ 0 ≤ zN (cv x).2 0 ∧ zN σ 1 ≤ zN (cv x).2 1) ∧ ∀ (l : Launch) (D : va_G) (cA : Nat → ClassId) (L : Nat → Nat) (sz : Nat),
  Met l y (Cond.code y K.1 K.2.2.2.2.2.1 K.2.2.1 :: TB) { frames := K.2.2.2.1, cells := zN (cv x).2 0 - zN σ 0, slots := zN (cv x).2 1 - zN σ 1, locals := K.2.2.2.2.1 } (va_Pc (args.map (tv L)) (fun U => U.heap.size = sz ∧ va_P D vwCl (wl cA σ L) U.heap ∧ va_K D vwCl (tysOf cA) U ∧ va_D (fun _ => True) (wl cA σ L) ∧ Ext L (va_A (wl cA σ L) sz) U U.heap)) (Qv D cA L (va_A (wl cA σ L) sz) (cv x).1 (cv x).2) (zN (cv x).2 0 - zN σ 0) (zN (cv x).2 1 - zN σ 1) (va_A (wl cA σ L) sz)
theorem lv_args_tv (L : Nat → Nat) : ∀ (vs : List Value) (i : Nat), lv_args i (vs.map (tv L)) = tl L (lv_args i vs)
  | [], _ => rfl
  | v :: vs, i => by
    show (i, tv L v) :: lv_args (if (tv L v).category = 2 then i + 2 else i + 1) (vs.map (tv L)) = (i, tv L v) :: tl L (lv_args (if v.category = 2 then i + 2 else i + 1) vs)
    rw [tv_cat, lv_args_tv L vs]
theorem sl_tv (L : Nat → Nat) : ∀ (vs : List Value), (lg_sl (vs.map (tv L))).length = (lg_sl vs).length
  | [] => rfl
  | v :: vs => by
    show (lg_sl (tv L v :: vs.map (tv L))).length = (lg_sl (v :: vs)).length
    unfold lg_sl
    rw [List.flatMap_cons, List.flatMap_cons, List.length_append, List.length_append]
    have h := sl_tv L vs
    unfold lg_sl at h
    rw [h, tv_cat]
    by_cases hc : v.category = 2
    · rw [if_pos hc, if_pos hc]; rfl
    · rw [if_neg hc, if_neg hc]; rfl
theorem Ct.of {ρ : Type} {y : MethodName} {K : Ks} {args : List Value} {σ : St} {cv : ρ → Option Value × St} {o : Option ρ} (hy : plainName y.cls = true) (ho : K.2.1 = y.cls) (hs : K.2.2.2.2.2.2 = none) (hn : (lg_sl args).length ≤ K.2.2.2.2.2.1)
    (h : T K cv σ 0 (lv_args 0 args) [] o) : Ct y K args σ cv o := by
  intro x hx
  refine ⟨(h x hx).1, fun l D cA L sz => ?_⟩
  refine Met.ofW (cc := K.1) (maxL := K.2.2.2.2.2.1) (ret := K.2.2.1) hy rfl ?_
  intro p e s m args' below meth c s₁ B hml hv
  obtain ⟨rfl, hsz, hP, hK, hD0, hX⟩ := hv
  subst hsz
  have hA : ∀ q : Nat, s.heap.size ≤ q → va_A (wl cA σ L) s.heap.size q := fun q h => Or.inr h
  have hts := atoms_spec (ws := Cond.code y K.1 K.2.2.2.2.2.1 K.2.2.1 :: TB) B.pre
  have k := (h x hx).2 (p, l, e, s, m, (args.map (tv L)).toArray, below, meth, c, D, cA, va_A (wl cA σ L) s.heap.size, σ, L) L ⟨B.exec, B.bytes, hml, by rw [ho]; exact findClass_of_methodNamed B.named, fun w hw => hts w (List.mem_cons_of_mem _ hw), hK, B.notSynchronized, B.returns, hA, hX, by rw [hs]; exact trivial⟩
  have hl := lv_entry (args.map (tv L)) (n := K.2.2.2.2.2.1) (by rw [sl_tv]; exact hn)
  rw [lg_entry_eq]
  rw [lv_args_tv] at hl
  have k2 := k (Nat.le_refl _) (Nat.le_refl _) Lok.rf s.heap [] _ hP hD0.self va_S.rf hl
  rw [Nat.sub_self, Nat.sub_self] at k2
  exact k2
/-- a call: what its row gives -/
def Rn {ρ : Type} (K : Ks) (cv1 : ρ → Option Value × St) (σ : St) (pc : Nat) (stk rest : List Value) (o1 : Option ρ) : Prop := ∀ x1, o1 = some x1 → (zN σ 0 ≤ zN (cv1 x1).2 0 ∧ zN σ 1 ≤ zN (cv1 x1).2 1) ∧ ∀ (E : Ev) (L : Nat → Nat), Cx E K → match E with
  | (p, l, e, s, m, args, below, meth, c, D, cA, A, _, L0) => ∀ (k0 k1 : Nat) (H : Heap) (locs : List Loc) (ls : Array Slot) (cells slots : Nat), cells + (zN (cv1 x1).2 0 - zN σ 0) ≤ k0 → slots + (zN (cv1 x1).2 1 - zN σ 1) ≤ k1 → va_P D vwCl (wl cA σ L) H → va_D A (wl cA σ L) → ls.size = K.2.2.2.2.2.1 → Lok L0 L → va_S A s.heap H locs →
      ∃ a : Array Value, va_Run p l e { frames := K.2.2.2.1, cells := k0, slots := k1, locals := K.2.2.2.2.1 } s m args below meth c H locs cells slots (zN (cv1 x1).2 0 - zN σ 0) (zN (cv1 x1).2 1 - zN σ 1) (F0 m pc ls (stk.map (tv L))) (rest.map (tv L)) (Qv D cA L (va_A (wl cA σ L) H.size) (cv1 x1).1 (cv1 x1).2 a) (va_A (wl cA σ L) H.size)
theorem toList_map (L : Nat → Nat) (r : Option Value) (rest : List Value) : (r.map (tv L)).toList ++ rest.map (tv L) = (r.toList ++ rest).map (tv L) := by cases r <;> simp
theorem T_call {ρ ρ1 : Type} {K : Ks} {cv : ρ → Option Value × St} {cv1 : ρ1 → Option Value × St} {σ : St} {pc : Nat} {lv : List (Nat × Value)} {stk rest : List Value} {o1 : Option ρ1} {f : ρ1 → Option ρ} (hr : Rn K cv1 σ pc stk rest o1) (hs : (lv.all (fun q => safe q.2) && rest.all safe) = true)
    (k : ∀ x1, T K cv (cv1 x1).2 (pc + 3) lv ((cv1 x1).1.toList ++ rest) (f x1)) : T K cv σ pc lv stk (o1.bind f) := by
  intro x hx
  obtain ⟨x1, h1, h2⟩ := Option.bind_eq_some_iff.mp hx
  obtain ⟨⟨m0, m1⟩, hr⟩ := hr x1 h1
  obtain ⟨⟨n0, n1⟩, k⟩ := k x1 x h2
  refine ⟨⟨Nat.le_trans m0 n0, Nat.le_trans m1 n1⟩, fun E L C => ?_⟩
  obtain ⟨p, l, e, s, m, args, below, meth, c, D, cA, A, σ0, L0⟩ := E
  have hr := hr (p, l, e, s, m, args, below, meth, c, D, cA, A, σ0, L0) L C
  have hA := C.2.2.2.2.2.2.2.2.1
  intro g0 g1 hL H locs ls hP hD hS hl T0 hT X
  obtain ⟨a, hr⟩ := hr (zN (cv x).2 0 - zN σ0 0) (zN (cv x).2 1 - zN σ0 1) H locs ls (zN σ 0 - zN σ0 0) (zN σ 1 - zN σ0 1) (by omega) (by omega) hP hD hl.1 hL hS
  obtain ⟨v, st₀, t, T', Lc, h0, X', hLc, e1, e2, ⟨⟨L1, hv, hLok, hP1, hK1, hD1⟩, hz, hk⟩, st⟩ := hr T0 hT X
  have hv2 : v = (cv1 x1).1.map (tv L1) := by injection hv
  subst hv2
  rw [h0] at hz hk
  have hF : ∀ q : Nat, va_A (wl cA σ L) H.size q → A q := fun q hq => by
    rcases hq with ⟨i, y, hi⟩ | hq
    · exact hD.2 i _ hi
    · exact hA q (Nat.le_trans hS.1 hq)
  have c0 : zN σ 0 - zN σ0 0 + (zN (cv1 x1).2 0 - zN σ 0) = zN (cv1 x1).2 0 - zN σ0 0 := by omega
  have c1 : zN σ 1 - zN σ0 1 + (zN (cv1 x1).2 1 - zN σ 1) = zN (cv1 x1).2 1 - zN σ0 1 := by omega
  rw [c0, c1] at X'
  simp only [Bool.and_eq_true] at hs
  have hl1 : lv_has ls K.2.2.2.2.2.1 (tl L1 lv) := by rw [tl_safe hLok hs.1]; exact hl
  have k2 := k (p, l, e, s, m, args, below, meth, c, D, cA, A, σ0, L0) L1 C (Nat.le_trans g0 m0) (Nat.le_trans g1 m1) (hL.trans hLok) T'.heap (locs ++ Lc) ls (by rw [e1]; exact hP1) (hD1.weaken (fun _ q _ h => hF q.1 h))
    ⟨Nat.le_trans hS.1 (by rw [e1]; exact hz), fun q q1 q2 => by rw [e1, hk q (Nat.lt_of_lt_of_le q1 hS.1) (fun z => q2 (hF q z))]; exact hS.2.1 q q1 q2, fun q hq => by
      rcases List.mem_append.mp hq with h | h
      · exact hS.2.2 q h
      · exact hF _ (hLc q h)⟩ hl1
  obtain ⟨t2, a1, b1⟩ := k2 T' rfl X'
  refine ⟨t2, st t2 ?_, b1⟩
  have e5 : ((cv1 x1).1.map (tv L1)).toList ++ rest.map (tv L) = (((cv1 x1).1.toList ++ rest).map (tv L1)) := by
    rw [← toList_map, tvs_safe hLok hs.2]
  have a2 := a1
  rw [← e5] at a2
  exact a2

