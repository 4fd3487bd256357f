/-! THE CLAIM OUT OF ONE WALK OF THE LAW'S BODY. Your part is whole_start (and what it stands on); all else here is the same for every law, but numbers. -/
def R_law : String := "CueRollsLaw"
def lw_P (b : Addr) (xs : List Int32) (args : Array Value) (s : State) : Prop := args = #[.ref b] ∧ s.IntsAt b xs ∧ xs.length ≤ 3072 ∧ (Jvm.Cond.and given_1 narrow_1).before args s = true
def lw_Q (_ : Array Value) (s : State) (o : Outcome) (t : State) : Prop := o = .returned (some (.int 1)) ∧ Framed s o t [] 601024 7293034
def lw_Z (below : List Frame) (a : Array Value) (s : State) : State → Prop := fun t => ∃ o, t.status = .running ∧ Ended t below o ∧ lw_Q a s o t
/-- the law's own end, with 1 on the stack, nothing written that was there before, its room as the claim has it -/
theorem lw_ret {p : Program} {l : Launch} {e : Env} {s : State} {m : MethodId} {below : List Frame} {meth : Method} {c : Code} {b : Nat} (hx : p.tables.exec = Jvm.exec) (hb : c.code = code) (hr : meth.sig.returnType = ret) (hlocks : meth.locks = false) {pc : Nat} {H : Heap} {ls : Array Slot} (hdg : decode code pc = .ok (.ireturn, 1)) : W p l e room_1 s m #[Value.ref b] below meth c H [] 601024 7293034 (lw_Z below #[Value.ref b] s) (F0 m pc ls [.int 1]) := by
  intro T hT X
  obtain ⟨fs, hret, hrun, hended, hW, hframe⟩ := X.leave (v := some (.int 1)) (hlocks := hlocks) (fun h => by rw [hr] at h; cases h)
  have hmeth' : T.vm.method? m = some meth := X.method'
  refine ⟨T.setFrames fs, ?_, .returned (some (.int 1)), hrun, hended, rfl, ⟨_, rfl⟩, hW, hframe⟩
  jvm_step X.here [X.here.top, hx, hb, hdg, hmeth', hr, ret, narrow_b1]
  (try refine ⟨rfl, ?_⟩); (try refine ⟨rfl, ?_⟩)
  first | (intro acts; rw [hret _ acts rfl rfl rfl]) | rw [hret _ _ rfl rfl rfl]
  exact Steps.refl _
/-- what holds at the law's entry: the machine, the code, the tables' words (any of lw_tbl by 'hts w (by decide +kernel)'), the script of L ints xs at the cell b, what the Statement gives of the start (any of its parts by flat_of_before) -/
def lw_At (p : Program) (s : State) (m : MethodId) (meth : Method) (c : Code) (b L : Nat) (xs : Nat → Int32) : Prop :=
  p.tables.exec = Jvm.exec ∧ c.code = code ∧ meth.sig.returnType = ret ∧ c.maxLocals = 7 ∧ s.vm.findClass R_law = some m.cls ∧ (∀ w ∈ lw_tbl, w.before #[Value.ref b] s = true) ∧ va_X b L xs s s.heap ∧ b < s.heap.size ∧ meth.locks = false ∧ (Jvm.Cond.and given_1 narrow_1).before #[Value.ref b] s = true
theorem W_room {p : Program} {l : Launch} {e : Env} {R R' : Room} {s : State} {m : MethodId} {args : Array Value} {below : List Frame} {meth : Method} {c : Code} {H : Heap} {locs : List Loc} {cells slots : Nat} {Q : State → Prop} {g : JFrame} (h1 : R'.frames ≤ R.frames) (h2 : R'.cells ≤ R.cells) (h3 : R'.slots ≤ R.slots) (h4 : R'.locals ≤ R.locals) (w : W p l e R' s m args below meth c H locs cells slots Q g) : W p l e R s m args below meth c H locs cells slots Q g := by
  intro T hT X
  refine w T hT { X with room := ?_ }
  have h := X.room
  simp only [State.hasRoom, Bool.and_eq_true, decide_eq_true_eq] at h ⊢
  obtain ⟨⟨⟨⟨a1, b1, b2, b3, b4, b5⟩, f1⟩, g1⟩, h9⟩ := h
  exact ⟨⟨⟨⟨by omega, by omega, by omega, by omega, by omega, b5⟩, by omega⟩, by omega⟩, h9⟩
theorem W_post {p : Program} {l : Launch} {e : Env} {R : Room} {s : State} {m : MethodId} {args : Array Value} {below : List Frame} {meth : Method} {c : Code} {H : Heap} {locs : List Loc} {cells slots : Nat} {Q Q' : State → Prop} {g : JFrame} (h : ∀ t, Q t → Q' t) (w : W p l e R s m args below meth c H locs cells slots Q g) : W p l e R s m args below meth c H locs cells slots Q' g := fun T hT X => by
  obtain ⟨t, a, b⟩ := w T hT X
  exact ⟨t, a, h t b⟩
set_option maxRecDepth 100000 in
/-- the law, from its loop's head to its end, where its function says true -/
theorem law_close {p : Program} {e : Env} {s : State} {m : MethodId} {below : List Frame} {meth : Method} {c : Code} (l : Launch) {b n : Nat} {xs : Nat → Int32} (C0 : lw_At p s m meth c b n xs) {D : va_G} {cA : Nat → ClassId} {σ σ' : St} {Lf : Nat → Nat} (hf : fL_law_300_P23 xs n σ 0 = some (true, σ')) (h0 : zN σ' 0 ≤ 601024) (h1 : zN σ' 1 ≤ 7293034)
    (hK : va_K D vwCl (tysOf cA) s) (hX : Ext Lf (fun q : Nat => s.heap.size ≤ q) s s.heap) (hXt : Xtr l (fun q : Nat => s.heap.size ≤ q) s s.heap) (hb300 : Lf 300 = b) {H : Heap} {locs : List Loc} {ls : Array Slot} (hP : va_P D vwCl (wl cA σ Lf) H) (hD : va_D (fun q : Nat => s.heap.size ≤ q) (wl cA σ Lf)) (hS : va_S (fun q : Nat => s.heap.size ≤ q) s.heap H locs) (hl : lv_has ls 7 [(0, .ref b), (1, .ref (Lf 0)), (2, .ref (Lf 10)), (3, .ref (Lf 88)), (4, .int 0)]) :
    W p l e room_1 s m #[Value.ref b] below meth c H locs (zN σ 0) (zN σ 1) (lw_Z below #[Value.ref b] s) (F0 m 23 ls []) := by
  obtain ⟨hx, hb, hr, hml, hown, hts, hscr, hbl, hlocks, hgv⟩ := id C0
  have hts2 : ∀ w ∈ TB, w.before #[Value.ref b] s = true := fun w hw => tb2_hts hts w (List.mem_filter.mp hw).1
  obtain ⟨-, k⟩ := fL_law_300_P23_T xs n σ 0 (true, σ') hf
  have C : Cx (p, l, e, s, m, #[Value.ref b], below, meth, c, D, cA, (fun q : Nat => s.heap.size ≤ q), uN (uN σ 0 0) 1 0, Lf) (kL_law xs n) := ⟨hx, hb, hml, hown, hts2, hK, hlocks, hr, fun _ h => h, hX, by
    show va_X (Lf 300) n xs s s.heap ∧ ¬ s.heap.size ≤ Lf 300 ∧ Lf 300 < s.heap.size ∧ Xtr l (fun q : Nat => s.heap.size ≤ q) s s.heap
    rw [hb300]
    exact ⟨hscr, Nat.not_le.mpr hbl, hbl, hXt⟩⟩
  have k2 := k _ Lf C (Nat.zero_le _) (Nat.zero_le _) Lok.rf H locs ls hP hD hS (by rw [show tl Lf [(0, Value.ref 300), (1, .ref 0), (2, .ref 10), (3, .ref 88), (4, .int 0)] = [(0, .ref (Lf 300)), (1, .ref (Lf 0)), (2, .ref (Lf 10)), (3, .ref (Lf 88)), (4, .int 0)] from rfl, hb300]; exact hl)
  refine W_room (R' := { frames := 2048, cells := zN σ' 0, slots := zN σ' 1, locals := 84000 }) (Nat.le_refl _) h0 h1 (Nat.le_refl _) (W_post (fun t ht => ?_) k2)
  obtain ⟨o, g1, g2, ⟨⟨L', hoc, -⟩, -⟩, L2, ⟨f1, f2, f3⟩, hL2⟩ := ht
  refine ⟨o, g1, g2, hoc, f1, f2, ?_⟩
  exact f3.weaken (fun y hy hlt => absurd hlt (Nat.not_lt.mpr (hL2 y hy))) h0 h1
