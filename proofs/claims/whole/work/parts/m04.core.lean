/-! THE ONE WORLD: a store of registers, its layout in the heap, and the judgement T: a method's code at a place computes an Option of Lean -/
def tv (L : Nat → Nat) (v : Value) : Value := match v with
  | .ref q => .ref (L q)
  | w => w
def tl (L : Nat → Nat) (lv : List (Nat × Value)) : List (Nat × Value) := lv.map (fun q => (q.1, tv L q.2))
def fval (σ : St) (L : Nat → Nat) (f : Nat × Nat) : Value := match f.1 with
  | 0 => .int (zI σ f.2)
  | 1 => .long (zJ σ f.2)
  | 2 => .ref (L f.2)
  | _ => .ref (L (zR σ f.2))
def cellOf (cA : Nat → ClassId) (σ : St) (L : Nat → Nat) (q : Nat) (e : Ent) : Nat × va_E := (L q, match e with
  | .inl (ci, fs) => .inr (ci, fs.map (fval σ L))
  | .inr (0, n) => .inl (cA 0, n, .inl (zA σ q))
  | .inr (1, n) => .inl (cA 1, n, .inl (zA σ q))
  | .inr (2, n) => .inl (cA 2, n, .inl (zA σ q))
  | .inr (3, n) => .inl (cA 3, n, .inr (.inl (zB σ q)))
  | .inr (4, _) => .inl (cA 3, zN σ q, .inr (.inl (zB σ q)))
  | .inr (_, n) => .inl (cA 4, 4, .inr (.inr (.inr (.inr (fun i => some (L (n + i))))))))
def wl (cA : Nat → ClassId) (σ : St) (L : Nat → Nat) : va_W := lay.mapIdx (cellOf cA σ L)
def tysOf (cA : Nat → ClassId) : List (ClassId × FieldType) := [(cA 0, .int), (cA 1, .byte), (cA 2, .boolean), (cA 3, .long), (cA 4, .array .long)]
theorem wl_at {cA : Nat → ClassId} {σ : St} {L : Nat → Nat} {q : Nat} {e : Ent} (h : lay[q]? = some e) : (wl cA σ L)[q]? = some (cellOf cA σ L q e) := by
  unfold wl
  rw [List.getElem?_mapIdx, h]
  rfl
theorem wl_set {cA : Nat → ClassId} {σ σ' : St} {L : Nat → Nat} {q : Nat} {e : Ent} (h : lay[q]? = some e) (ho : ∀ (j : Nat) (e' : Ent), lay[j]? = some e' → j ≠ q → cellOf cA σ' L j e' = cellOf cA σ L j e') : (wl cA σ L).set q (cellOf cA σ' L q e) = wl cA σ' L := by
  apply List.ext_getElem?
  intro j
  by_cases hj : j = q
  · subst hj
    have hl : j < (wl cA σ L).length := (List.getElem?_eq_some_iff.mp (wl_at h)).1
    rw [List.getElem?_set_self hl, wl_at h]
  · rw [List.getElem?_set_ne (Ne.symm hj)]
    unfold wl
    rw [List.getElem?_mapIdx, List.getElem?_mapIdx]
    cases hje : lay[j]? with
    | none => rfl
    | some e' => exact congrArg some (ho j e' hje hj).symm
theorem fval_uA {σ : St} {L : Nat → Nat} {q : Nat} {f : Nat → Int32} : fval (uA σ q f) L = fval σ L := rfl
theorem fval_uB {σ : St} {L : Nat → Nat} {q : Nat} {f : Nat → Int64} : fval (uB σ q f) L = fval σ L := rfl
theorem cell_uA {cA : Nat → ClassId} {σ : St} {L : Nat → Nat} {q j : Nat} {f : Nat → Int32} (hj : j ≠ q) (e : Ent) : cellOf cA (uA σ q f) L j e = cellOf cA σ L j e := by
  have h : zA (uA σ q f) j = zA σ j := if_neg hj
  unfold cellOf
  rw [fval_uA, h]
  rfl
theorem cell_uB {cA : Nat → ClassId} {σ : St} {L : Nat → Nat} {q j : Nat} {f : Nat → Int64} (hj : j ≠ q) (e : Ent) : cellOf cA (uB σ q f) L j e = cellOf cA σ L j e := by
  have h : zB (uB σ q f) j = zB σ j := if_neg hj
  unfold cellOf
  rw [fval_uB, h]
  rfl
theorem zA_self {σ : St} {q : Nat} {f : Nat → Int32} : zA (uA σ q f) q = f := if_pos rfl
theorem zB_self {σ : St} {q : Nat} {f : Nat → Int64} : zB (uB σ q f) q = f := if_pos rfl
theorem wl_uA0 {cA : Nat → ClassId} {σ : St} {L : Nat → Nat} {q n : Nat} {f : Nat → Int32} (h : lay[q]? = some (.inr (0, n))) : (wl cA σ L).set q (L q, .inl (cA 0, n, .inl f)) = wl cA (uA σ q f) L := by
  rw [← wl_set (σ' := uA σ q f) h (fun j e' _ hj => cell_uA hj e')]
  show _ = (wl cA σ L).set q (L q, .inl (cA 0, n, .inl (zA (uA σ q f) q)))
  rw [zA_self]
theorem wl_uA1 {cA : Nat → ClassId} {σ : St} {L : Nat → Nat} {q n : Nat} {f : Nat → Int32} (h : lay[q]? = some (.inr (1, n))) : (wl cA σ L).set q (L q, .inl (cA 1, n, .inl f)) = wl cA (uA σ q f) L := by
  rw [← wl_set (σ' := uA σ q f) h (fun j e' _ hj => cell_uA hj e')]
  show _ = (wl cA σ L).set q (L q, .inl (cA 1, n, .inl (zA (uA σ q f) q)))
  rw [zA_self]
theorem wl_uA2 {cA : Nat → ClassId} {σ : St} {L : Nat → Nat} {q n : Nat} {f : Nat → Int32} (h : lay[q]? = some (.inr (2, n))) : (wl cA σ L).set q (L q, .inl (cA 2, n, .inl f)) = wl cA (uA σ q f) L := by
  rw [← wl_set (σ' := uA σ q f) h (fun j e' _ hj => cell_uA hj e')]
  show _ = (wl cA σ L).set q (L q, .inl (cA 2, n, .inl (zA (uA σ q f) q)))
  rw [zA_self]
theorem wl_uB3 {cA : Nat → ClassId} {σ : St} {L : Nat → Nat} {q n : Nat} {f : Nat → Int64} (h : lay[q]? = some (.inr (3, n))) : (wl cA σ L).set q (L q, .inl (cA 3, n, .inr (.inl f))) = wl cA (uB σ q f) L := by
  rw [← wl_set (σ' := uB σ q f) h (fun j e' _ hj => cell_uB hj e')]
  show _ = (wl cA σ L).set q (L q, .inl (cA 3, n, .inr (.inl (zB (uB σ q f) q))))
  rw [zB_self]
theorem wl_uB4 {cA : Nat → ClassId} {σ : St} {L : Nat → Nat} {q n : Nat} {f : Nat → Int64} (h : lay[q]? = some (.inr (4, n))) : (wl cA σ L).set q (L q, .inl (cA 3, zN σ q, .inr (.inl f))) = wl cA (uB σ q f) L := by
  rw [← wl_set (σ' := uB σ q f) h (fun j e' _ hj => cell_uB hj e')]
  show _ = (wl cA σ L).set q (L q, .inl (cA 3, zN σ q, .inr (.inl (zB (uB σ q f) q))))
  rw [zB_self]
/-- each register stands at one place alone -/
def layChk : Bool := lay.zipIdx.all fun x => match x.1 with
  | .inl (_, fs) => fs.zipIdx.all fun y => y.1.1 == 2 || (layOwn y.1.1)[y.1.2]? == some (x.2, y.2)
  | .inr _ => true
theorem layChk_ok : layChk = true := by decide +kernel
theorem lay_own {q ci j kd k : Nat} {fs : List (Nat × Nat)} (h : lay[q]? = some (.inl (ci, fs))) (hj : fs[j]? = some (kd, k)) (hk : kd ≠ 2) : (layOwn kd)[k]? = some (q, j) := by
  have h0 := List.all_eq_true.mp layChk_ok ((.inl (ci, fs)), q) (List.mem_of_getElem? (i := q) (by rw [List.getElem?_zipIdx, h]; simp))
  have h1 := List.all_eq_true.mp h0 ((kd, k), j) (List.mem_of_getElem? (i := j) (by rw [List.getElem?_zipIdx, hj]; simp))
  simp only [Bool.or_eq_true, beq_iff_eq] at h1
  rcases h1 with h1 | h1
  · exact absurd h1 hk
  · exact h1
theorem map_fval {σ σ' : St} {L : Nat → Nat} {fs : List (Nat × Nat)} {j kd k : Nat} {v : Value} (hj : fs[j]? = some (kd, k)) (hv : fval σ' L (kd, k) = v) (ho : ∀ (i kd' k' : Nat), fs[i]? = some (kd', k') → i ≠ j → fval σ' L (kd', k') = fval σ L (kd', k')) : fs.map (fval σ' L) = (fs.map (fval σ L)).set j v := by
  apply List.ext_getElem?
  intro i
  by_cases hi : i = j
  · subst hi
    have hl : i < (fs.map (fval σ L)).length := by
      rw [List.length_map]
      exact (List.getElem?_eq_some_iff.mp hj).1
    rw [List.getElem?_set_self hl, List.getElem?_map, hj]
    exact congrArg some hv
  · rw [List.getElem?_set_ne (Ne.symm hi), List.getElem?_map, List.getElem?_map]
    cases hie : fs[i]? with
    | none => rfl
    | some x => exact congrArg some (ho i x.1 x.2 hie hi)
theorem fval_uI {σ : St} {L : Nat → Nat} {k : Nat} {v : Int32} {kd k' : Nat} (h : kd = 0 → k' ≠ k) : fval (uI σ k v) L (kd, k') = fval σ L (kd, k') := by
  match kd, h with
  | 0, h => exact congrArg Value.int (if_neg (h rfl))
  | 1, _ => rfl
  | 2, _ => rfl
  | n + 3, _ => rfl
theorem fval_uJ {σ : St} {L : Nat → Nat} {k : Nat} {v : Int64} {kd k' : Nat} (h : kd = 1 → k' ≠ k) : fval (uJ σ k v) L (kd, k') = fval σ L (kd, k') := by
  match kd, h with
  | 0, h => rfl
  | 1, h => exact congrArg Value.long (if_neg (h rfl))
  | 2, _ => rfl
  | n + 3, _ => rfl
theorem fval_uR {σ : St} {L : Nat → Nat} {k : Nat} {v : Nat} {kd k' : Nat} (h : kd = 3 → k' ≠ k) (h3 : kd ≤ 3) : fval (uR σ k v) L (kd, k') = fval σ L (kd, k') := by
  match kd, h, h3 with
  | 0, h, _ => rfl
  | 1, h, _ => rfl
  | 2, _, _ => rfl
  | 3, h, _ => exact congrArg (fun q => Value.ref (L q)) (if_neg (h rfl))
  | n + 4, _, h3 => omega
theorem cell_arr {cA : Nat → ClassId} {σ σ' : St} {L : Nat → Nat} {j : Nat} {x : Nat × Nat} (h1 : zA σ' = zA σ) (h2 : zB σ' = zB σ) (h3 : zN σ' = zN σ) : cellOf cA σ' L j (.inr x) = cellOf cA σ L j (.inr x) := by
  obtain ⟨k, n⟩ := x
  unfold cellOf
  rw [h1, h2, h3]
  rcases k with _ | _ | _ | _ | _ | k <;> rfl
theorem wl_uI {cA : Nat → ClassId} {σ : St} {L : Nat → Nat} {q ci j k : Nat} {fs : List (Nat × Nat)} {v : Int32} (h : lay[q]? = some (.inl (ci, fs))) (hj : fs[j]? = some (0, k)) : (wl cA σ L).set q (L q, .inr (ci, (fs.map (fval σ L)).set j (.int v))) = wl cA (uI σ k v) L := by
  rw [← wl_set (σ' := uI σ k v) h ?_]
  · show _ = (wl cA σ L).set q (L q, .inr (ci, fs.map (fval (uI σ k v) L)))
    rw [map_fval (σ := σ) (σ' := uI σ k v) hj (show fval (uI σ k v) L (0, k) = .int v from congrArg Value.int (if_pos rfl))]
    intro i kd' k' hi hij
    refine fval_uI (fun e ek => hij ?_)
    subst e; subst ek
    have e2 := (lay_own h hi (by decide)).symm.trans (lay_own h hj (by decide))
    exact (Prod.mk.inj (Option.some.inj e2)).2
  · intro i e' he hij
    cases e' with
    | inr x => exact cell_arr rfl rfl rfl
    | inl x =>
      obtain ⟨ci', fs'⟩ := x
      show (L i, _) = (L i, _)
      refine congrArg (fun z => (L i, (Sum.inr (ci', z) : va_E))) ?_
      apply List.map_congr_left
      intro f hf
      obtain ⟨n, hn⟩ := List.getElem?_of_mem hf
      obtain ⟨kd', k'⟩ := f
      refine fval_uI (fun e ek => hij ?_)
      subst e; subst ek
      have e2 := (lay_own he hn (by decide)).symm.trans (lay_own h hj (by decide))
      exact (Prod.mk.inj (Option.some.inj e2)).1
theorem wl_uJ {cA : Nat → ClassId} {σ : St} {L : Nat → Nat} {q ci j k : Nat} {fs : List (Nat × Nat)} {v : Int64} (h : lay[q]? = some (.inl (ci, fs))) (hj : fs[j]? = some (1, k)) : (wl cA σ L).set q (L q, .inr (ci, (fs.map (fval σ L)).set j (.long v))) = wl cA (uJ σ k v) L := by
  rw [← wl_set (σ' := uJ σ k v) h ?_]
  · show _ = (wl cA σ L).set q (L q, .inr (ci, fs.map (fval (uJ σ k v) L)))
    rw [map_fval (σ := σ) (σ' := uJ σ k v) hj (show fval (uJ σ k v) L (1, k) = .long v from congrArg Value.long (if_pos rfl))]
    intro i kd' k' hi hij
    refine fval_uJ (fun e ek => hij ?_)
    subst e; subst ek
    have e2 := (lay_own h hi (by decide)).symm.trans (lay_own h hj (by decide))
    exact (Prod.mk.inj (Option.some.inj e2)).2
  · intro i e' he hij
    cases e' with
    | inr x => exact cell_arr rfl rfl rfl
    | inl x =>
      obtain ⟨ci', fs'⟩ := x
      show (L i, _) = (L i, _)
      refine congrArg (fun z => (L i, (Sum.inr (ci', z) : va_E))) ?_
      apply List.map_congr_left
      intro f hf
      obtain ⟨n, hn⟩ := List.getElem?_of_mem hf
      obtain ⟨kd', k'⟩ := f
      refine fval_uJ (fun e ek => hij ?_)
      subst e; subst ek
      have e2 := (lay_own he hn (by decide)).symm.trans (lay_own h hj (by decide))
      exact (Prod.mk.inj (Option.some.inj e2)).1
/-- kinds of fields are 0 .. 3 -/
def layKd : Bool := lay.all fun x => match x with
  | .inl (_, fs) => fs.all fun y => decide (y.1 ≤ 3)
  | .inr _ => true
theorem layKd_ok : layKd = true := by decide +kernel
theorem lay_kd {q ci j kd k : Nat} {fs : List (Nat × Nat)} (h : lay[q]? = some (.inl (ci, fs))) (hj : fs[j]? = some (kd, k)) : kd ≤ 3 := by
  have h0 := List.all_eq_true.mp layKd_ok (.inl (ci, fs)) (List.mem_of_getElem? h)
  have h1 := List.all_eq_true.mp h0 (kd, k) (List.mem_of_getElem? hj)
  exact of_decide_eq_true h1
theorem wl_uR {cA : Nat → ClassId} {σ : St} {L : Nat → Nat} {q ci j k : Nat} {fs : List (Nat × Nat)} {v : Nat} (h : lay[q]? = some (.inl (ci, fs))) (hj : fs[j]? = some (3, k)) : (wl cA σ L).set q (L q, .inr (ci, (fs.map (fval σ L)).set j (.ref (L v)))) = wl cA (uR σ k v) L := by
  rw [← wl_set (σ' := uR σ k v) h ?_]
  · show _ = (wl cA σ L).set q (L q, .inr (ci, fs.map (fval (uR σ k v) L)))
    rw [map_fval (σ := σ) (σ' := uR σ k v) hj (show fval (uR σ k v) L (3, k) = .ref (L v) from congrArg (fun q => Value.ref (L q)) (if_pos rfl))]
    intro i kd' k' hi hij
    refine fval_uR (fun e ek => hij ?_) (lay_kd h hi)
    subst e; subst ek
    have e2 := (lay_own h hi (by decide)).symm.trans (lay_own h hj (by decide))
    exact (Prod.mk.inj (Option.some.inj e2)).2
  · intro i e' he hij
    cases e' with
    | inr x => exact cell_arr rfl rfl rfl
    | inl x =>
      obtain ⟨ci', fs'⟩ := x
      show (L i, _) = (L i, _)
      refine congrArg (fun z => (L i, (Sum.inr (ci', z) : va_E))) ?_
      apply List.map_congr_left
      intro f hf
      obtain ⟨n, hn⟩ := List.getElem?_of_mem hf
      obtain ⟨kd', k'⟩ := f
      refine fval_uR (fun e ek => hij ?_) (lay_kd he hn)
      subst e; subst ek
      have e2 := (lay_own he hn (by decide)).symm.trans (lay_own h hj (by decide))
      exact (Prod.mk.inj (Option.some.inj e2)).1
