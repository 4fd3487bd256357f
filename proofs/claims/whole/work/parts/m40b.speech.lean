/-! CueRolls.speech, which throws; the law's speech(), which catches -/
theorem hs131 : Cond.methodLink "CueRolls" 131 yX7_wordsOf ∈ TB := tb_6 182 (by decide +kernel) (by decide +kernel)
theorem hs134 : Cond.methodLink "CueRolls" 134 yX7_cueWordsOf ∈ TB := tb_6 183 (by decide +kernel) (by decide +kernel)
theorem hs141 : Cond.methodLink "CueRolls" 141 yX10_letters ∈ TB := tb_6 184 (by decide +kernel) (by decide +kernel)
theorem hsL38 : Cond.methodLink "CueRollsLaw" 38 yL_speech ∈ TB := tb_6 109 (by decide +kernel) (by decide +kernel)
theorem hsLst : Cond.static yL_speech ∈ TB := tb_6 110 (by decide +kernel) (by decide +kernel)
theorem hsLcw : Cond.codeWith yL_speech cL_speech 5 (some .int) [(0, 10, 13, 13)] ∈ TB := tb_6 111 (by decide +kernel) (by decide +kernel)
theorem hsL13 : Cond.classLink "CueRollsLaw" 13 nsE ∈ TB := tb_6 112 (by decide +kernel) (by decide +kernel)
theorem hsL7 : Cond.methodLink "CueRollsLaw" 7 yX11_speech ∈ TB := tb_6 113 (by decide +kernel) (by decide +kernel)
theorem hs114 : Cond.instanceMethod yX11_speech ∈ TB := tb_6 114 (by decide +kernel) (by decide +kernel)
theorem hs115 : Cond.selects "CueRolls" yX11_speech yX11_speech ∈ TB := tb_6 115 (by decide +kernel) (by decide +kernel)
theorem hs116 : Cond.code yX11_speech cX11_speech 3 (some .int) ∈ TB := tb_6 116 (by decide +kernel) (by decide +kernel)
theorem hs124 : Cond.classLink "CueRolls" 124 nsE ∈ TB := tb_6 117 (by decide +kernel) (by decide +kernel)
theorem hsini : Cond.initialized nsE ∈ TB := tb_1 22 (by decide +kernel) (by decide +kernel)
theorem hsiL : Cond.initialized "CueRollsLaw" ∈ TB := tb_1 0 (by decide +kernel) (by decide +kernel)
theorem hsi1 : Cond.initialized "CueRolls" ∈ TB := tb_1 1 (by decide +kernel) (by decide +kernel)
/-! an instruction or a call, whatever comes in the end -/
theorem W_call {ρ1 : Type} {K : Ks} {cv1 : ρ1 → Option Value × St} {σ : St} {pc : Nat} {stk rest stk1 : List Value} {o1 : Option ρ1} {x1 : ρ1} (hr : Rn K cv1 σ pc stk rest o1) (h1 : o1 = some x1) {p : Program} {l : Launch} {e : Env} {s : State} {m : MethodId} {args : Array Value} {below : List Frame} {meth : Method} {c : Code} {D : va_G} {cA : Nat → ClassId} {A : Nat → Prop} {σ0 : St} {L0 : Nat → Nat} (L : Nat → Nat) (C : Cx (p, l, e, s, m, args, below, meth, c, D, cA, A, σ0, L0) K) (hL : Lok L0 L) {k0 k1 cells slots c1 s1 : Nat} {H : Heap} {locs : List Loc} {ls : Array Slot} {Q : State → Prop}
    (hc0 : cells + (zN (cv1 x1).2 0 - zN σ 0) = c1) (hc1 : slots + (zN (cv1 x1).2 1 - zN σ 1) = s1) (hk0 : c1 ≤ k0) (hk1 : s1 ≤ k1) (hP : va_P D vwCl (wl cA σ L) H) (hD : va_D A (wl cA σ L)) (hls : ls.size = K.2.2.2.2.2.1) (hS : va_S A s.heap H locs)
    (hst : ∀ L1, ((cv1 x1).1.map (tv L1)).toList ++ rest.map (tv L) = stk1)
    (k : ∀ (L1 : Nat → Nat) (H1 : Heap) (locs1 : List Loc), Lok L L1 → va_P D vwCl (wl cA (cv1 x1).2 L1) H1 → va_D A (wl cA (cv1 x1).2 L1) → va_S A s.heap H1 locs1 → W p l e { frames := K.2.2.2.1, cells := k0, slots := k1, locals := K.2.2.2.2.1 } s m args below meth c H1 locs1 c1 s1 Q (F0 m (pc + 3) ls stk1)) :
    W p l e { frames := K.2.2.2.1, cells := k0, slots := k1, locals := K.2.2.2.2.1 } s m args below meth c H locs cells slots Q (F0 m pc ls (stk.map (tv L))) := by
  intro T0 hT X
  have hA := C.2.2.2.2.2.2.2.2.1
  obtain ⟨-, hr⟩ := hr x1 h1
  have hr := hr (p, l, e, s, m, args, below, meth, c, D, cA, A, σ0, L0) L C
  obtain ⟨a, hr⟩ := hr k0 k1 H locs ls cells slots (by omega) (by omega) hP hD hls hL hS
  obtain ⟨v, st₀, t, T', Lc, h0, X', hLc, e1, e2, ⟨⟨L1, hv, hLok, hP1, hK1, hD1⟩, hz, hk⟩, st⟩ := hr T0 hT X
  have hv2 : v = (cv1 x1).1.map (tv L1) := by injection hv
  subst hv2
  rw [h0] at hz hk
  have hF : ∀ q : Nat, va_A (wl cA σ L) H.size q → A q := fun q hq => by
    rcases hq with ⟨i, y, hi⟩ | hq
    · exact hD.2 i _ hi
    · exact hA q (Nat.le_trans hS.1 hq)
  rw [hc0, hc1] at X'
  obtain ⟨t2, a1, b1⟩ := k L1 T'.heap (locs ++ Lc) hLok (by rw [e1]; exact hP1) (hD1.weaken (fun _ q _ h => hF q.1 h))
    ⟨Nat.le_trans hS.1 (by rw [e1]; exact hz), fun q q1 q2 => by rw [e1, hk q (Nat.lt_of_lt_of_le q1 hS.1) (fun z => q2 (hF q z))]; exact hS.2.1 q q1 q2, fun q hq => by
      rcases List.mem_append.mp hq with h | h
      · exact hS.2.2 q h
      · exact hF _ (hLc q h)⟩ T' rfl X'
  refine ⟨t2, st t2 ?_, b1⟩
  rw [hst L1]
  exact a1
theorem W_get {K : Ks} {σ : St} {pc q j kd kr idx : Nat} {ref n d : String} {fin : Bool} {st : List Value} {v : Value} (hF : Fld q j kd kr ref n d fin) (hlink : Cond.fieldLink K.2.1 idx ref n d ∈ TB) (hd : decode K.1 pc = .ok (.getfield idx, 3)) {p : Program} {l : Launch} {e : Env} {s : State} {m : MethodId} {args : Array Value} {below : List Frame} {meth : Method} {c : Code} {D : va_G} {cA : Nat → ClassId} {A : Nat → Prop} {σ0 : St} {L0 L : Nat → Nat} (hv : fval σ L (kd, kr) = v) (C : Cx (p, l, e, s, m, args, below, meth, c, D, cA, A, σ0, L0) K) {R : Room} {H : Heap} {locs : List Loc} {cells slots : Nat} {ls : Array Slot} {Q : State → Prop}
    (hP : va_P D vwCl (wl cA σ L) H) (k : W p l e R s m args below meth c H locs cells slots Q (F0 m (pc + 3) ls (v :: st))) : W p l e R s m args below meth c H locs cells slots Q (F0 m pc ls (.ref (L q) :: st)) := by
  obtain ⟨hx, hb, hml, hown, hts, hK, hlocks, hret, hA, hX, hscr⟩ := C
  obtain ⟨ci, N, fs, TT, ty, Cn, f1, f2, f3, f4, f5, f6, f7, f8⟩ := hF
  have e1 : (TT j).1 = ref := by rw [f6]
  have e2 : (TT j).2.1 = n := by rw [f6]
  have e3 : (TT j).2.2.1 = d := by rw [f6]
  exact va_get (ref := ref) (ci := ci) (fs := fs.map (fval σ L)) (v := v) hx hb hts f3 hown hK hP q (wl_at f1) f2 j f4 (by rw [e2, e3]; exact hts _ hlink) (by rw [e1]; exact fun _ q => q) (by rw [List.getElem?_map, f5, ← hv]; rfl) hd k
/-! CueRolls.speech where it returns -/
def kX11_speech : Ks := (cX11_speech, RX11, some .int, 40, 3000, 3, none)
def fX11_spR (σ : St) (p0 p1 : Int32) : Option Int32 :=
  (fX7_has σ p0).bind fun x1 => if bi x1 = 0 then none else if p1 < 0 then none else if p1 ≤ 2 then (if p1 = 0 then (fX7_wordsOf σ p0).bind fun x2 => some x2 else if p1 = 1 then ((fX7_cueWordsOf σ p0).bind fun x2 => some x2) else ((fX7_lastWord σ p0).bind fun x2 => (fX10_letters x2).bind fun x3 => some x3)) else none
set_option maxRecDepth 100000 in
set_option maxHeartbeats 4000000 in
theorem ctX11_spR (σ : St) (p0 p1 : Int32) : Ct yX11_speech kX11_speech [.ref 0, .int p0, .int p1] σ (cPi σ) (fX11_spR σ p0 p1) := by
  refine Ct.of (by decide +kernel) rfl rfl (Nat.le_of_ble_eq_true rfl) ?_
  unfold fX11_spR
  show T _ _ _ 0 [(0, .ref 0), (1, .int p0), (2, .int p1)] [] _
  refine T_aload_n (pc := 0) 0 dX11_speech_0 rfl rfl ?_
  refine T_getA (pc := 1) fd_0_4 hw443 dX11_speech_1 ?_
  refine T_iload_n (pc := 4) 1 dX11_speech_4 rfl rfl ?_
  refine T_callPz (pc := 5) (rest := []) (Rn_V (pc := 5) (as := [.int p0]) (rest := []) (ctX7_has σ p0) rfl rfl mv_X7_has hw794 rfl ⟨Nat.le_of_ble_eq_true rfl, Nat.le_of_ble_eq_true rfl⟩ (Nat.le_of_ble_eq_true rfl) dX11_speech_5 rfl) rfl (fun x1 => ?_)
  refine T_if_eq (pc := 8) 20 dX11_speech_8 (by decide) (fun _ => T_none) (fun _ => ?_)
  refine T_iload_n (pc := 11) 2 dX11_speech_11 rfl rfl ?_
  refine T_if_lt (pc := 12) 20 dX11_speech_12 (by decide) (fun _ => T_none) (fun _ => ?_)
  refine T_iload_n (pc := 15) 2 dX11_speech_15 rfl rfl ?_
  refine T_iconst (pc := 16) (v := 2) dX11_speech_16 (by decide) ?_
  refine T_icmp_le (pc := 17) 30 dX11_speech_17 (by decide) (fun _ => ?_) (fun _ => T_none)
  refine T_iload_n (pc := 30) 2 dX11_speech_30 rfl rfl ?_
  refine T_if_ne (pc := 31) 43 dX11_speech_31 (by decide) (fun _ => ?_) (fun _ => ?_)
  · refine T_iload_n (pc := 43) 2 dX11_speech_43 rfl rfl ?_
    refine T_iconst (pc := 44) (v := 1) dX11_speech_44 (by decide) ?_
    refine T_icmp_ne (pc := 45) 59 dX11_speech_45 (by decide) (fun _ => ?_) (fun _ => ?_)
    · refine T_aload_n (pc := 59) 0 dX11_speech_59 rfl rfl ?_
      refine T_getA (pc := 60) fd_0_4 hw443 dX11_speech_60 ?_
      refine T_iload_n (pc := 63) 1 dX11_speech_63 rfl rfl ?_
      refine T_callPl (pc := 64) (rest := []) (Rn_V (pc := 64) (as := [.int p0]) (rest := []) (ctX7_lastWord σ p0) rfl rfl mv_X7_lastWord hw1333 rfl ⟨Nat.le_of_ble_eq_true rfl, Nat.le_of_ble_eq_true rfl⟩ (Nat.le_of_ble_eq_true rfl) dX11_speech_64 rfl) rfl (fun x2 => ?_)
      refine T_callPi (pc := 67) (rest := []) (Rn_S (pc := 67) (as := [.long x2]) (rest := []) (ctX10_letters σ x2) ms_X10_letters hs141 rfl ⟨Nat.le_of_ble_eq_true rfl, Nat.le_of_ble_eq_true rfl⟩ (Nat.le_of_ble_eq_true rfl) dX11_speech_67 rfl) rfl (fun x3 => ?_)
      exact T_ireturn (pc := 70) rfl dX11_speech_70 rfl
    · refine T_aload_n (pc := 48) 0 dX11_speech_48 rfl rfl ?_
      refine T_getA (pc := 49) fd_0_4 hw443 dX11_speech_49 ?_
      refine T_iload_n (pc := 52) 1 dX11_speech_52 rfl rfl ?_
      refine T_callPi (pc := 53) (rest := []) (Rn_V (pc := 53) (as := [.int p0]) (rest := []) (ctX7_cueWordsOf σ p0) rfl rfl mv_X7_cueWordsOf hs134 rfl ⟨Nat.le_of_ble_eq_true rfl, Nat.le_of_ble_eq_true rfl⟩ (Nat.le_of_ble_eq_true rfl) dX11_speech_53 rfl) rfl (fun x2 => ?_)
      refine T_goto (pc := 56) 70 dX11_speech_56 (by decide) ?_
      exact T_ireturn (pc := 70) rfl dX11_speech_70 rfl
  · refine T_aload_n (pc := 34) 0 dX11_speech_34 rfl rfl ?_
    refine T_getA (pc := 35) fd_0_4 hw443 dX11_speech_35 ?_
    refine T_iload_n (pc := 38) 1 dX11_speech_38 rfl rfl ?_
    refine T_callPi (pc := 39) (rest := []) (Rn_V (pc := 39) (as := [.int p0]) (rest := []) (ctX7_wordsOf σ p0) rfl rfl mv_X7_wordsOf hs131 rfl ⟨Nat.le_of_ble_eq_true rfl, Nat.le_of_ble_eq_true rfl⟩ (Nat.le_of_ble_eq_true rfl) dX11_speech_39 rfl) rfl (fun x2 => ?_)
    exact T_ireturn (pc := 42) rfl dX11_speech_42 rfl
/-! CueRolls.speech where it throws -/
theorem nsW_ok : nsW.all (fun w => (decide (w ∈ lw_tb2) && goodWord w) || decide (w ∈ nsBad)) = true := by decide +kernel
theorem nsW_at {args : Array Value} {s : State} (htb : ∀ w ∈ TB, w.before args s = true) (hbad : ∀ w ∈ nsBad, va_Nw w s) : ∀ w ∈ nsW, w.before args s = true := fun w hw => by
  have h := List.all_eq_true.mp nsW_ok w hw
  simp only [Bool.or_eq_true, Bool.and_eq_true, decide_eq_true_eq] at h
  rcases h with h | h
  · exact htb w (tb_m h.1 h.2)
  · exact va_Nw.use (nsBad_tab w h) (hbad w h)
theorem nsW_ot : ∀ w ∈ nsW, vx_ot w = true := fun w hw => by
  have h := List.all_eq_true.mp nsW_ok w hw
  simp only [Bool.or_eq_true, Bool.and_eq_true, decide_eq_true_eq] at h
  unfold vx_ot
  rcases h with h | h
  · rw [h.2, Bool.or_true]
  · rw [nsBad_tab w h, Bool.true_or]
/-- the world that a thrown exception leaves -/
def spX (D : va_G) (cA : Nat → ClassId) (L : Nat → Nat) (sz : Nat) (σ : St) : String → State → State → Prop := vx_X (fun u : Nat → Nat => Lok L u ∧ va_D (va_A (wl cA σ L) sz) (wl cA σ u)) (fun E u t => E = nsE ∧ va_P D vwCl (wl cA σ u) t.heap ∧ va_K D vwCl (tysOf cA) t) (va_A (wl cA σ L) sz)
def spP (l : Launch) (D : va_G) (cA : Nat → ClassId) (L : Nat → Nat) (sz : Nat) (σ : St) : State → Prop := fun U => U.heap.size = sz ∧ va_P D vwCl (wl cA σ L) U.heap ∧ va_K D vwCl (tysOf cA) U ∧ va_D (fun _ => True) (wl cA σ L) ∧ Ext L (va_A (wl cA σ L) sz) U U.heap ∧ Xtr l (va_A (wl cA σ L) sz) U U.heap
set_option maxRecDepth 100000 in
set_option maxHeartbeats 4000000 in
theorem vm_sp (l : Launch) (D : va_G) (cA : Nat → ClassId) (L : Nat → Nat) (sz : Nat) (σ : St) (p0 p1 : Int32) {h : Bool} (hh : fX7_has σ p0 = some h) (hno : ¬ (h = true ∧ 0 ≤ p1 ∧ p1 ≤ 2)) :
    vx_Met l yX11_speech (Cond.code yX11_speech cX11_speech 3 (some .int) :: TB) { frames := 40, cells := 1, slots := 6, locals := 3000 } (va_Pc ([Value.ref 0, .int p0, .int p1].map (tv L)) (spP l D cA L sz σ)) (fun _ _ _ _ => False) (spX D cA L sz σ) 1 6 (va_A (wl cA σ L) sz) := by
  refine vx_ofW (cc := cX11_speech) (maxL := 3) (ret := some .int) (by decide +kernel) rfl ?_
  intro p e s m args' below meth c s₁ B hml hnt hv
  obtain ⟨rfl, hsz, hP, hK, hD0, hX, hXt⟩ := hv
  subst hsz
  have hA : ∀ q : Nat, s.heap.size ≤ q → va_A (wl cA σ L) s.heap.size q := fun q h => Or.inr h
  have hts := atoms_spec (ws := Cond.code yX11_speech cX11_speech 3 (some .int) :: TB) B.pre
  have htb : ∀ w ∈ TB, w.before ([Value.ref 0, .int p0, .int p1].map (tv L)).toArray s = true := fun w hw => hts w (List.mem_cons_of_mem _ hw)
  have hown : s.vm.findClass RX11 = some m.cls := findClass_of_methodNamed B.named
  have hx : p.tables.exec = Jvm.exec := B.exec
  have hb : c.code = cX11_speech := B.bytes
  have C : Cx (p, l, e, s, m, ([Value.ref 0, .int p0, .int p1].map (tv L)).toArray, below, meth, c, D, cA, va_A (wl cA σ L) s.heap.size, σ, L) kX11_speech := ⟨B.exec, B.bytes, hml, hown, htb, hK, B.notSynchronized, B.returns, hA, hX, trivial⟩
  have hl := lv_entry ([Value.ref 0, .int p0, .int p1].map (tv L)) (n := 3) (Nat.le_of_ble_eq_true rfl)
  rw [lg_entry_eq]
  rw [lv_args_tv] at hl
  have key : ∀ ls : Array Slot, lv_has ls 3 (tl L (lv_args 0 [Value.ref 0, .int p0, .int p1])) → W p l e { frames := 40, cells := 1, slots := 6, locals := 3000 } s m ([Value.ref 0, .int p0, .int p1].map (tv L)).toArray below meth c s.heap [] 0 0 (vx_MQ below (fun _ _ _ _ => False) (spX D cA L s.heap.size σ) ([Value.ref 0, .int p0, .int p1].map (tv L)).toArray s 1 6 (va_A (wl cA σ L) s.heap.size)) (F0 m 0 ls []) := by
    intro ls hl
    refine lv_aload_n hx hb dX11_speech_0 rfl (lv_at hl 0 rfl) ?_
    refine W_get (K := kX11_speech) (σ := σ) fd_0_4 hw443 dX11_speech_1 rfl C hP ?_
    refine lv_iload_n hx hb dX11_speech_4 rfl (lv_at hl 1 rfl) ?_
    refine W_call (K := kX11_speech) (k0 := 1) (k1 := 6) (c1 := 0) (s1 := 0) (stk := [.int p0, .ref 5]) (rest := []) (stk1 := [.int (bi h)]) (Rn_V (pc := 5) (as := [.int p0]) (rest := []) (ctX7_has σ p0) rfl rfl mv_X7_has hw794 rfl ⟨Nat.le_of_ble_eq_true rfl, Nat.le_of_ble_eq_true rfl⟩ (Nat.le_of_ble_eq_true rfl) dX11_speech_5 rfl) hh L C Lok.rf (by show 0 + (zN σ 0 - zN σ 0) = 0; omega) (by show 0 + (zN σ 1 - zN σ 1) = 0; omega) (Nat.zero_le _) (Nat.zero_le _) hP hD0.self hl.1 va_S.rf (fun _ => rfl) ?_
    intro L1 H1 locs1 hL1 hP1 hD1 hS1
    have throw : W p l e { frames := 40, cells := 1, slots := 6, locals := 3000 } s m ([Value.ref 0, .int p0, .int p1].map (tv L)).toArray below meth c H1 locs1 0 0 (vx_MQ below (fun _ _ _ _ => False) (spX D cA L s.heap.size σ) ([Value.ref 0, .int p0, .int p1].map (tv L)).toArray s 1 6 (va_A (wl cA σ L) s.heap.size)) (F0 m 20 ls []) := by
      obtain ⟨hst, ⟨sa, htx⟩, hU, hN, hbad⟩ := hXt
      refine sx_throw (cc := cX11_speech) (pc := 20) (own := RX11) (cls := nsE) (text := nsT) (names := nsUp) (ik := 124) (is := 126) (ic := 128) (ix := 13) (sa := sa) (rx := nsRx) (A := va_A (wl cA σ L) s.heap.size) hx hb hst (by decide +kernel) (by decide +kernel) (by decide +kernel) (by decide +kernel) hown (by decide +kernel) (by decide +kernel) (htb _ hs124) (htb _ hsini) htx (nsW_at htb hbad) (fun w hw => ?_) hU hN hS1 (hl.1.trans hml.symm) dX11_speech_20 dX11_speech_23 dX11_speech_24 dX11_speech_26 dX11_speech_29 (fun x hx => (hnt x hx).elim) (Nat.le_of_ble_eq_true rfl) (Nat.le_of_ble_eq_true rfl) (Nat.le_of_ble_eq_true rfl) (Nat.le_of_ble_eq_true rfl) B.notSynchronized (fun t ht hz hk => ?_) hS1.2.2 (Nat.le_of_ble_eq_true rfl) (Nat.le_of_ble_eq_true rfl)
      · rcases List.mem_cons.mp hw with rfl | hw
        · rfl
        · rcases List.mem_cons.mp hw with rfl | hw
          · rfl
          · exact nsW_ot w hw
      · refine ⟨L1, ⟨hL1, hD1⟩, ⟨rfl, hP1.kept (fun k q hq => hk _ (vx_lt hP1 hq)), va_K.moved ht hK⟩, Nat.le_trans hS1.1 hz, fun q h1 h2 => ?_⟩
        rw [hk q (Nat.lt_of_lt_of_le h1 hS1.1)]
        exact hS1.2.1 q h1 h2
    cases h with
    | false => exact lv_if_eq hx hb dX11_speech_8 (by decide) (fun _ => throw) (fun q => absurd rfl q)
    | true =>
      refine lv_if_eq hx hb dX11_speech_8 (tgt := 20) (by decide) (fun q => absurd q (by decide)) (fun _ => ?_)
      refine lv_iload_n hx hb dX11_speech_11 rfl (lv_at hl 2 rfl) ?_
      refine lv_if_lt hx hb dX11_speech_12 (tgt := 20) (by decide) (fun _ => throw) (fun hge => ?_)
      refine lv_iload_n hx hb dX11_speech_15 rfl (lv_at hl 2 rfl) ?_
      refine lv_iconst hx hb dX11_speech_16 (v := 2) (by decide) ?_
      exact lv_icmp_le hx hb dX11_speech_17 (tgt := 30) (by decide) (fun q => absurd ⟨rfl, Int32.not_lt.mp hge, q⟩ hno) (fun _ => throw)
  exact key _ hl
