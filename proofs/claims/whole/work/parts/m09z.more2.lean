theorem T_astore_nN {ρ : Type} {K : Ks} {cv : ρ → Option Value × St} {σ : St} {pc : Nat} {lv : List (Nat × Value)} {st : List Value} {o : Option ρ} {kk : Fin 4} {i : Nat} {lv' : List (Nat × Value)} (hd : decode K.1 pc = .ok (.astore_n kk, 1)) (hi : (kk : Nat) = i) (hn : i < K.2.2.2.2.2.1) (hl1 : lset1 lv i .null = lv') (k : T K cv σ (pc + 1) lv' (st) o) : T K cv σ pc lv (.null :: st) o := by
  refine T.step (fun E L r σ' C h => ?_) k
  obtain ⟨p, l, e, s, m, args, below, meth, c, D, cA, A, σ0, L0⟩ := E
  obtain ⟨hx, hb, hml, hown, hts, hK, hlocks, hret, hA, hX, hscr⟩ := C
  intro g0 g1 hL H locs ls hP hD hS hl
  exact lv_astore_nN hx hb hd hi hl hn rfl (fun ls' hl' => h g0 g1 hL H locs ls' hP hD hS (lset_has (fun q => by dsimp only; rw [tv_cat]) hl' hl1))
theorem T_aload_nN {ρ : Type} {K : Ks} {cv : ρ → Option Value × St} {σ : St} {pc : Nat} {lv : List (Nat × Value)} {st : List Value} {o : Option ρ} {kk : Fin 4} {i : Nat} (j : Nat) (hd : decode K.1 pc = .ok (.aload_n kk, 1)) (hi : (kk : Nat) = i) (hj : lv[j]? = some (i, .null)) (k : T K cv σ (pc + 1) lv (.null :: st) o) : T K cv σ pc lv (st) o := by
  refine T.step (fun E L r σ' C h => ?_) k
  obtain ⟨p, l, e, s, m, args, below, meth, c, D, cA, A, σ0, L0⟩ := E
  obtain ⟨hx, hb, hml, hown, hts, hK, hlocks, hret, hA, hX, hscr⟩ := C
  intro g0 g1 hL H locs ls hP hD hS hl
  exact lv_aload_nN hx hb hd hi (lv_at hl j (tl_at hj)) (h g0 g1 hL H locs ls hP hD hS hl)
def newL (L : Nat → Nat) (id a : Nat) : Nat → Nat := va_up L id a
theorem newL_lok {L : Nat → Nat} {id a : Nat} (hid : id = idSlots ∨ id = idReached) : Lok L (newL L id a) := fun q h1 h2 => if_neg (fun e => by
  subst e
  rcases hid with h | h
  · exact h1 h
  · exact h2 h)
/-- only Orders names the arrays slots and reached, at one place each; only the habits' texts are an array of references -/
def layRef : Bool := lay.zipIdx.all fun x => match x.1 with
  | .inl (_, fs) => fs.zipIdx.all fun y => (y.1.1 != 2 || (y.1.2 != idSlots || (x.2 == 7 && y.2 == 17)) && (y.1.2 != idReached || (x.2 == 7 && y.2 == 18))) && (x.2 != 7 || y.1.1 != 3)
  | .inr (k, n) => if k < 5 then true else n == 83
theorem layRef_ok : layRef = true := by decide +kernel
theorem lay_ref {q ci j k : Nat} {fs : List (Nat × Nat)} (h : lay[q]? = some (.inl (ci, fs))) (hj : fs[j]? = some (2, k)) : (k = idSlots → q = 7 ∧ j = 17) ∧ (k = idReached → q = 7 ∧ j = 18) := by
  have h0 := List.all_eq_true.mp layRef_ok ((.inl (ci, fs)), q) (List.mem_of_getElem? (i := q) (by rw [List.getElem?_zipIdx, h]; simp))
  have h1 := List.all_eq_true.mp h0 ((2, k), j) (List.mem_of_getElem? (i := j) (by rw [List.getElem?_zipIdx, hj]; simp))
  simp only [Bool.and_eq_true, Bool.or_eq_true, bne_iff_ne, beq_iff_eq, ne_eq] at h1
  refine ⟨fun e => ?_, fun e => ?_⟩
  · rcases h1.1 with h2 | h2
    · exact absurd trivial h2
    · rcases h2.1 with h3 | h3
      · exact absurd e h3
      · exact h3
  · rcases h1.1 with h2 | h2
    · exact absurd trivial h2
    · rcases h2.2 with h3 | h3
      · exact absurd e h3
      · exact h3
theorem lay_ref3 {ci j k : Nat} {fs : List (Nat × Nat)} (h : lay[7]? = some (.inl (ci, fs))) (hj : fs[j]? = some (3, k)) : False := by
  have h0 := List.all_eq_true.mp layRef_ok ((.inl (ci, fs)), 7) (List.mem_of_getElem? (i := 7) (by rw [List.getElem?_zipIdx, h]; simp))
  have h1 := List.all_eq_true.mp h0 ((3, k), j) (List.mem_of_getElem? (i := j) (by rw [List.getElem?_zipIdx, hj]; simp))
  simp at h1
theorem lay_arr {q k n : Nat} (h : lay[q]? = some (.inr (k, n))) (hk : ¬ k < 5) : n = 83 := by
  have h0 := List.all_eq_true.mp layRef_ok ((.inr (k, n)), q) (List.mem_of_getElem? (i := q) (by rw [List.getElem?_zipIdx, h]; simp))
  simpa [hk] using h0
/-- the references that change name none of the two -/
def nrf (σ : St) (id : Nat) : Prop := ∀ k : Nat, k < 4 → zR σ k ≠ id
/-- registers of references are four -/
def layR4 : Bool := lay.all fun x => match x with
  | .inl (_, fs) => fs.all fun y => y.1 != 3 || decide (y.2 < 4)
  | .inr _ => true
theorem layR4_ok : layR4 = true := by decide +kernel
theorem lay_r4 {q ci j k : Nat} {fs : List (Nat × Nat)} (h : lay[q]? = some (.inl (ci, fs))) (hj : fs[j]? = some (3, k)) : k < 4 := by
  have h0 := List.all_eq_true.mp layR4_ok (.inl (ci, fs)) (List.mem_of_getElem? h)
  have h1 := List.all_eq_true.mp h0 (3, k) (List.mem_of_getElem? hj)
  simpa using h1
/-- arrays of a length that changes are the two -/
def layD : Bool := lay.zipIdx.all fun x => match x.1 with
  | .inl _ => true
  | .inr (k, _) => k != 4 || (x.2 == idSlots || x.2 == idReached)
theorem layD_ok : layD = true := by decide +kernel
theorem lay_dyn {q n : Nat} (h : lay[q]? = some (.inr (4, n))) : q = idSlots ∨ q = idReached := by
  have h0 := List.all_eq_true.mp layD_ok ((.inr (4, n)), q) (List.mem_of_getElem? (i := q) (by rw [List.getElem?_zipIdx, h]; simp))
  simpa using h0
theorem fval_new {σ : St} {L : Nat → Nat} {id a kd kr : Nat} {x : Int32} (h2 : kd = 2 → kr ≠ id) (h3 : kd = 3 → zR σ kr ≠ id) (h4 : kd ≤ 3) : fval (uNew σ id x) (newL L id a) (kd, kr) = fval σ L (kd, kr) := by
  match kd, h2, h3, h4 with
  | 0, _, _, _ => rfl
  | 1, _, _, _ => rfl
  | 2, h2, _, _ => exact congrArg Value.ref (if_neg (h2 rfl))
  | 3, _, h3, _ => exact congrArg Value.ref (if_neg (h3 rfl))
  | n + 4, _, _, h4 => omega
/-- the cells behind it -/
theorem wl_new {cA : Nat → ClassId} {σ : St} {L : Nat → Nat} {id j ci a : Nat} {fs : List (Nat × Nat)} {x : Int32} (hid : id = idSlots ∨ id = idReached) (hn : nrf σ id) (hq : lay[7]? = some (.inl (ci, fs))) (hj : fs[j]? = some (2, id)) (k : Nat) (hk : k < lay.length) :
    some ((wl cA (uNew σ id x) (newL L id a))[k]?) = some ((((wl cA σ L) ++ [(a, (Sum.inl (cA 3, x.toNatClampNeg, .inr (.inl (fun _ => 0))) : va_E))]).set 7 (L 7, (Sum.inr (ci, (fs.map (fval σ L)).set j (.ref a)) : va_E)))[if k = id then lay.length else k]?) := by
  have hlen : (wl cA σ L).length = lay.length := by unfold wl; simp
  have hl89 : lay.length = 89 := by decide +kernel
  have hid2 : id < 89 ∧ id ≠ 7 ∧ (∃ n, lay[id]? = some (.inr (4, n))) := by rcases hid with h | h <;> subst h <;> exact ⟨by decide, by decide, ⟨0, rfl⟩⟩
  obtain ⟨hi1, hi2, n4, hi3⟩ := hid2
  have hz : (wl cA (uNew σ id x) (newL L id a))[k]? = (lay[k]?).map (cellOf cA (uNew σ id x) (newL L id a) k) := by unfold wl; rw [List.getElem?_mapIdx]
  by_cases hki : k = id
  · subst hki
    rw [if_pos rfl, List.getElem?_set_ne (by omega), List.getElem?_append_right (by omega), hlen, Nat.sub_self, hz, hi3]
    show some (some (newL L k a k, (Sum.inl (cA 3, zN (uNew σ k x) k, .inr (.inl (zB (uNew σ k x) k))) : va_E))) = some (some (a, (Sum.inl (cA 3, x.toNatClampNeg, .inr (.inl (fun _ => 0))) : va_E)))
    have e1 : newL L k a k = a := if_pos rfl
    have e2 : zB (uNew σ k x) k = fun _ => 0 := if_pos rfl
    have e3 : zN (uNew σ k x) k = x.toNatClampNeg := by
      have h1 : k ≠ 1 := by rcases hid with h | h <;> (subst h; decide)
      have h0 : k ≠ 0 := by rcases hid with h | h <;> (subst h; decide)
      show va_up (va_up (va_up _ k _) 0 _) 1 _ k = _
      unfold va_up
      rw [if_neg h1, if_neg h0, if_pos rfl]
    rw [e1, e2, e3]
  · rw [if_neg hki, hz]
    by_cases hk7 : k = 7
    · subst hk7
      rw [List.getElem?_set_self (by rw [List.length_append, hlen]; omega), hq]
      show some (some (newL L id a 7, (Sum.inr (ci, fs.map (fval (uNew σ id x) (newL L id a))) : va_E))) = some (some (L 7, (Sum.inr (ci, (fs.map (fval σ L)).set j (.ref a)) : va_E)))
      have e1 : newL L id a 7 = L 7 := if_neg (fun e => hki e)
      have e2 : fs.map (fval (uNew σ id x) (newL L id a)) = (fs.map (fval σ L)).set j (.ref a) := by
        apply List.ext_getElem?
        intro i
        by_cases hij : i = j
        · subst hij
          rw [List.getElem?_set_self (by rw [List.length_map]; exact (List.getElem?_eq_some_iff.mp hj).1), List.getElem?_map, hj]
          exact congrArg (fun q => some (Value.ref q)) (if_pos rfl)
        · rw [List.getElem?_set_ne (Ne.symm hij), List.getElem?_map, List.getElem?_map]
          cases hie : fs[i]? with
          | none => rfl
          | some y =>
            obtain ⟨kd, kr⟩ := y
            refine congrArg some (fval_new (fun e ek => hij ?_) (fun e => ?_) (lay_kd hq hie))
            · subst e; subst ek
              rcases hid with h | h
              · exact ((lay_ref hq hie).1 h).2.trans ((lay_ref hq hj).1 h).2.symm
              · exact ((lay_ref hq hie).2 h).2.trans ((lay_ref hq hj).2 h).2.symm
            · subst e
              exact absurd (lay_ref3 hq hie) (fun h => h)
      rw [e1, e2]
    · rw [List.getElem?_set_ne (Ne.symm hk7), List.getElem?_append_left (by omega)]
      unfold wl
      rw [List.getElem?_mapIdx]
      refine congrArg some ?_
      cases hke : lay[k]? with
      | none => rfl
      | some e =>
        refine congrArg some ?_
        have e1 : newL L id a k = L k := if_neg hki
        cases e with
        | inl y =>
          obtain ⟨ci', fs'⟩ := y
          show (newL L id a k, (Sum.inr (ci', fs'.map (fval (uNew σ id x) (newL L id a))) : va_E)) = (L k, .inr (ci', fs'.map (fval σ L)))
          rw [e1]
          refine congrArg (fun z => (L k, (Sum.inr (ci', z) : va_E))) ?_
          apply List.map_congr_left
          intro f hf
          obtain ⟨i, hi⟩ := List.getElem?_of_mem hf
          obtain ⟨kd, kr⟩ := f
          refine fval_new (fun e ek => ?_) (fun e => ?_) (lay_kd hke hi)
          · subst e; subst ek
            rcases hid with h | h
            · exact hk7 ((lay_ref hke hi).1 h).1
            · exact hk7 ((lay_ref hke hi).2 h).1
          · subst e
            exact hn kr (lay_r4 hke hi)
        | inr y =>
          obtain ⟨kd, n⟩ := y
          have hA : zA (uNew σ id x) = zA σ := rfl
          have hB : zB (uNew σ id x) k = zB σ k := if_neg hki
          match kd, hke with
          | 0, _ => show (newL L id a k, (Sum.inl (cA 0, n, .inl (zA (uNew σ id x) k)) : va_E)) = (L k, (Sum.inl (cA 0, n, .inl (zA σ k)) : va_E)); rw [e1, hA]
          | 1, _ => show (newL L id a k, (Sum.inl (cA 1, n, .inl (zA (uNew σ id x) k)) : va_E)) = (L k, (Sum.inl (cA 1, n, .inl (zA σ k)) : va_E)); rw [e1, hA]
          | 2, _ => show (newL L id a k, (Sum.inl (cA 2, n, .inl (zA (uNew σ id x) k)) : va_E)) = (L k, (Sum.inl (cA 2, n, .inl (zA σ k)) : va_E)); rw [e1, hA]
          | 3, _ => show (newL L id a k, (Sum.inl (cA 3, n, .inr (.inl (zB (uNew σ id x) k))) : va_E)) = (L k, (Sum.inl (cA 3, n, .inr (.inl (zB σ k))) : va_E)); rw [e1, hB]
          | 4, hke =>
            have hk4 : k = idSlots ∨ k = idReached := lay_dyn hke
            have e3 : zN (uNew σ id x) k = zN σ k := by
              have h1 : k ≠ 1 := by rcases hk4 with h | h <;> (subst h; decide)
              have h0 : k ≠ 0 := by rcases hk4 with h | h <;> (subst h; decide)
              show va_up (va_up (va_up _ id _) 0 _) 1 _ k = _
              unfold va_up
              rw [if_neg h1, if_neg h0, if_neg hki]
              rfl
            show (newL L id a k, (Sum.inl (cA 3, zN (uNew σ id x) k, .inr (.inl (zB (uNew σ id x) k))) : va_E)) = (L k, (Sum.inl (cA 3, zN σ k, .inr (.inl (zB σ k))) : va_E))
            rw [e1, hB, e3]
          | kd + 5, hke =>
            have hn5 := lay_arr hke (by omega)
            show (newL L id a k, (Sum.inl (cA 4, 4, .inr (.inr (.inr (.inr (fun i => some (newL L id a (n + i))))))) : va_E)) = (L k, (Sum.inl (cA 4, 4, .inr (.inr (.inr (.inr (fun i => some (L (n + i))))))) : va_E))
            rw [e1]
            have e4 : (fun i => some (newL L id a (n + i))) = fun i => some (L (n + i)) := funext fun i => congrArg some (if_neg (by
              rcases hid with h | h
              · subst h; subst hn5; exact fun (e : 83 + i = 45) => by omega
              · subst h; subst hn5; exact fun (e : 83 + i = 46) => by omega))
            rw [e4]
theorem T_newL2 {ρ : Type} {K : Ks} {cv : ρ → Option Value × St} {σ : St} {pc : Nat} {lv : List (Nat × Value)} {st : List Value} {o : Option ρ} {id j ci idx : Nat} {ref n : String} {fs : List (Nat × Nat)} {x : Int32} (hq : lay[7]? = some (.inl (ci, fs))) (hj : fs[j]? = some (2, id)) (hid : id = idSlots ∨ id = idReached) (hw : Cond.arrayClass .long ∈ TB) (hF : Fld 7 j 2 id ref n "[J" false) (hlink : Cond.fieldLink K.2.1 idx ref n "[J" ∈ TB) (hd : decode K.1 pc = .ok (.newarray .long, 2)) (hd2 : decode K.1 (pc + 2) = .ok (.putfield idx, 3)) (hs : (lv.all (fun q => safe q.2) && st.all safe) = true) (k : T K cv (uNew σ id x) (pc + 5) lv st o) : T K cv σ pc lv (.int x :: .ref 7 :: st) (nb σ id x o) := by
  unfold nb
  refine T_ite (fun _ => T_none) (fun hc => ?_)
  have hx0 : ¬ x < 0 := fun h => hc (Or.inl h)
  have hx1 : ¬ 200000 < x.toNatClampNeg := fun h => hc (Or.inr (Or.inl h))
  have hn : nrf σ id := fun k hk e => by
    match k, hk with
    | 0, _ => exact hc (Or.inr (Or.inr (Or.inl e)))
    | 1, _ => exact hc (Or.inr (Or.inr (Or.inr (Or.inl e))))
    | 2, _ => exact hc (Or.inr (Or.inr (Or.inr (Or.inr (Or.inl e)))))
    | 3, _ => exact hc (Or.inr (Or.inr (Or.inr (Or.inr (Or.inr e)))))
    | k + 4, hk => omega
  intro y hy
  obtain ⟨⟨m0, m1⟩, k⟩ := k y hy
  have e0 : zN (uNew σ id x) 0 = zN σ 0 + 1 := rfl
  have e1 : zN (uNew σ id x) 1 = zN σ 1 + x.toNatClampNeg := rfl
  rw [e0] at m0
  rw [e1] at m1
  refine ⟨⟨by omega, by omega⟩, fun E L C => ?_⟩
  have k := fun L' => k E L' C
  obtain ⟨p, l, e, s, m, args, below, meth, c, D, cA, A, σ0, L0⟩ := E
  obtain ⟨hx, hb, hml, hown, hts, hK, hlocks, hret, hA, hX, hscr⟩ := C
  intro g0 g1 hL H locs ls hP hD hS hl
  obtain ⟨ci', N, fs', TT, tys, Cn, f1, f2, f3, f4, f5, f6, f7, f8⟩ := hF
  have ec : ci' = ci ∧ fs' = fs := by
    have h := f1.symm.trans hq
    have h2 := Sum.inl.inj (Option.some.inj h)
    exact ⟨(Prod.mk.inj h2).1, (Prod.mk.inj h2).2⟩
  obtain ⟨rfl, rfl⟩ := ec
  have t1 : (TT j).1 = ref := by rw [f6]
  have t2 : (TT j).2.1 = n := by rw [f6]
  have t3 : (TT j).2.2.1 = "[J" := by rw [f6]
  have t4 : (TT j).2.2.2 = false := by rw [f6]
  refine va_newa hx hb (atype := .long) (hts _ hw) (ty := .long) rfl hK hP hD hS hA (n := x) (N' := x.toNatClampNeg) (a0 := (x.toNatClampNeg, .inr (.inl (fun _ => 0)))) (fun cA => by rw [vp_cell_l]; rfl) hx0 rfl (by show x.toNatClampNeg * 8 ≤ _; omega) (by show zN σ 0 - zN σ0 0 + 1 ≤ zN (cv y).2 0 - zN σ0 0; omega) (by show zN σ 1 - zN σ0 1 + x.toNatClampNeg ≤ zN (cv y).2 1 - zN σ0 1; omega) hd (fun a cL H1 hK1 hP1 hD1 hS1 => ?_)
  have hcL : cL = cA 3 := by
    have g1 := (hK1.2 5 (cL, .long) rfl).2
    have g2 := (hK.2 3 (cA 3, .long) rfl).2
    exact Option.some.inj (g1.symm.trans g2)
  subst hcL
  have hlen : (wl cA σ L).length = lay.length := by unfold wl; simp
  have hq7 : (wl cA σ L ++ [(a, (Sum.inl (cA 3, x.toNatClampNeg, .inr (.inl (fun _ => 0))) : va_E))])[7]? = some (L 7, .inr (ci', fs'.map (fval σ L))) := by
    rw [List.getElem?_append_left (by rw [hlen]; exact (List.getElem?_eq_some_iff.mp hq).1)]
    exact wl_at hq
  have hl2 : j < (fs'.map (fval σ L)).length := by
    rw [List.length_map]
    exact (List.getElem?_eq_some_iff.mp f5).1
  refine va_put (ref := ref) (ci := ci') (fs := fs'.map (fval σ L)) (v := .ref a) (ty := .array .long) hx hb hts f3 tys f7 f8 hown hK hP1 hD1 hS1 7 hq7 f2 j f4 (by rw [t2, t3]; exact hts _ hlink) (by rw [t1]; exact fun _ q => q) t4 (by rw [t3]; rfl) rfl rfl hl2 hd2 (fun H2 locs2 hP2 hD2 hS2 => ?_)
  have hl89 : lay.length = 89 := by decide +kernel
  have hmap : ((List.range 89).map (fun k => if k = id then 89 else k)).map (fun i => (((wl cA σ L) ++ [(a, (Sum.inl (cA 3, x.toNatClampNeg, .inr (.inl (fun _ => 0))) : va_E))]).set 7 (L 7, .inr (ci', (fs'.map (fval σ L)).set j (.ref a))))[i]?) = (wl cA (uNew σ id x) (newL L id a)).map some := by
    apply List.ext_getElem?
    intro k
    rw [List.getElem?_map, List.getElem?_map, List.getElem?_map]
    by_cases hk : k < 89
    · have hw := wl_new (cA := cA) (L := L) (a := a) (x := x) hid hn hq hj k (by rw [hl89]; exact hk)
      rw [hl89] at hw
      rw [List.getElem?_range hk]
      have hz : ∃ z, (wl cA (uNew σ id x) (newL L id a))[k]? = some z := by
        have : k < (wl cA (uNew σ id x) (newL L id a)).length := by unfold wl; simp; omega
        exact ⟨_, List.getElem?_eq_getElem this⟩
      obtain ⟨z, hz⟩ := hz
      rw [hz] at hw ⊢
      exact congrArg some (Option.some.inj hw).symm
    · have g1 : (List.range 89)[k]? = none := List.getElem?_eq_none (by rw [List.length_range]; omega)
      have g2 : (wl cA (uNew σ id x) (newL L id a))[k]? = none := List.getElem?_eq_none (by unfold wl; simp; omega)
      rw [g1, g2]
      rfl
  have hnd : va_nd ((List.range 89).map (fun k => if k = id then 89 else k)) = true := by
    rcases hid with h | h <;> subst h <;> decide +kernel
  have hD3 := hD2.sub _ hnd hmap
  have hP3 : va_P D vwCl (wl cA (uNew σ id x) (newL L id a)) H2 := hP2.sub ((List.range 89).map (fun k => if k = id then 89 else k)) (by
    have h9 : ∀ (l : List Nat) (w : va_W) (u : va_W), l.map (fun i => w[i]?) = u.map some → l.filterMap (fun i => w[i]?) = u := by
      intro l
      induction l with
      | nil => intro w u h; cases u with
        | nil => rfl
        | cons b u => simp at h
      | cons b l ih => intro w u h; cases u with
        | nil => simp at h
        | cons c u =>
          rw [List.map_cons, List.map_cons] at h
          obtain ⟨h1, h2⟩ := List.cons.inj h
          rw [List.filterMap_cons_some h1, ih w u h2]
    exact h9 _ _ _ hmap)
  simp only [Bool.and_eq_true] at hs
  have hLo : Lok L (newL L id a) := newL_lok hid
  have k2 := k (newL L id a) (by rw [e0]; omega) (by rw [e1]; omega) (hL.trans hLo) H2 locs2 ls hP3 hD3 hS2 (by rw [tl_safe hLo hs.1]; exact hl)
  rw [tvs_safe hLo hs.2, e0, e1] at k2
  have c0 : zN σ 0 + 1 - zN σ0 0 = zN σ 0 - zN σ0 0 + 1 := by omega
  have c1 : zN σ 1 + x.toNatClampNeg - zN σ0 1 = zN σ 1 - zN σ0 1 + x.toNatClampNeg := by omega
  rw [c0, c1] at k2
  exact k2
theorem T_ldcwS {ρ : Type} {K : Ks} {cv : ρ → Option Value × St} {σ : St} {pc : Nat} {lv : List (Nat × Value)} {st : List Value} {o : Option ρ} {ix : Nat} {tx : String} (q : Nat) (ho : ∀ (L : Nat → Nat) (A : Nat → Prop) (U : State) (H : Heap), Ext L A U H → vk_R K.2.1 ix tx (L q) U) (hd : decode K.1 pc = .ok (.ldc_w ix, 3)) (k : T K cv σ (pc + 3) lv (.ref q :: st) o) : T K cv σ pc lv (st) o := by
  refine T.step (fun E L r σ' C h => ?_) k
  obtain ⟨p, l, e, s, m, args, below, meth, c, D, cA, A, σ0, L0⟩ := E
  obtain ⟨hx, hb, hml, hown, hts, hK, hlocks, hret, hA, hX, hscr⟩ := C
  intro g0 g1 hL H locs ls hP hD hS hl
  intro T0 hT X
  have hZ := ho L A s H (hX.next hL hS (fun _ q => q) (State.WarmedH.refl s))
  obtain ⟨t, a1, b1⟩ := h g0 g1 hL H locs ls hP hD hS hl T0 hT X
  exact ⟨t, X.ldcStringW hx hown (text := tx) (a := L q) hZ.1 hZ.2 (g := F0 m pc ls (st.map (tv L))) rfl (by rw [hb]; exact hd) t a1, b1⟩
def cPv (σ : St) (_ : Unit) : Option Value × St := (none, σ)
theorem T_callPv {ρ : Type} {K : Ks} {cv : ρ → Option Value × St} {σ : St} {pc : Nat} {lv : List (Nat × Value)} {stk rest : List Value} {o1 : Option Unit} {f : Unit → Option ρ} (hr : Rn K (cPv σ) σ pc stk rest o1) (hs : (lv.all (fun q => safe q.2) && rest.all safe) = true) (k : ∀ x, T K cv σ (pc + 3) lv rest (f x)) : T K cv σ pc lv stk (o1.bind f) := T_call hr hs k
