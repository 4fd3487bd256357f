/-! the law's speech(): it calls CueRolls.speech, and catches -/
theorem mv_X11_speech {fr lc : Nat} : MV yX11_speech (cX11_speech, RX11, some .int, fr, lc, 3, none) 2 := ⟨⟨hs116, hs114, hs115, hsi1⟩, by decide +kernel, by decide +kernel, by decide +kernel⟩
def kL_speech : Ks := (cL_speech, RL, some .int, 60, 5000, 5, none)
theorem lay01 : ∀ k : Nat, k < 2 → ∃ x, lay[k]? = some (.inl x) := fun k hk => match k, hk with
  | 0, _ => ⟨_, rfl⟩
  | 1, _ => ⟨_, rfl⟩
theorem wl_N01 {cA : Nat → ClassId} {σ : St} {L : Nat → Nat} {x y : Nat} : wl cA (uN (uN σ 0 x) 1 y) L = wl cA σ L := by
  unfold wl
  apply List.ext_getElem?
  intro k
  rw [List.getElem?_mapIdx, List.getElem?_mapIdx]
  cases h : lay[k]? with
  | none => rfl
  | some en =>
    refine congrArg some ?_
    match en, h with
    | .inl z, _ => rfl
    | .inr (kd, n), h =>
      have hk : 2 ≤ k := by
        refine Nat.le_of_not_lt (fun hlt => ?_)
        obtain ⟨z, hz⟩ := lay01 k hlt
        rw [h] at hz
        cases hz
      have e1 : zN (uN (uN σ 0 x) 1 y) k = zN σ k := by
        rw [zN_ne (by omega), zN_ne (by omega)]
      unfold cellOf
      rw [e1]
      rcases kd with _ | _ | _ | _ | _ | kd <;> rfl
theorem spP_blind (l : Launch) (D : va_G) (cA : Nat → ClassId) (L : Nat → Nat) (sz : Nat) (σ : St) (vs : List Value) : FrameBlind (va_Pc vs (spP l D cA L sz σ)) := fun a U g mk q => by
  obtain ⟨q0, q1, q2, q3, q4, q5, q6⟩ := q
  exact ⟨q0, q1, q2, va_K.moved (u := U) (U := U.calling g mk a) (Vm.Alike.refl U.vm) q3, q4, q5.frame, q6.frame⟩
theorem spL_has {σ : St} {a b : Int32} {x1 : Int32 × St} (h1 : fL_speech_88 σ a b = some x1) : ∃ h, fX7_has σ a = some h := by
  unfold fL_speech_88 at h1
  cases hq : fX7_has σ a with
  | none => rw [hq] at h1; cases h1
  | some h => exact ⟨h, rfl⟩
theorem spL_ret {σ : St} {a b : Int32} {x1 : Int32 × St} {h : Bool} (h1 : fL_speech_88 σ a b = some x1) (hh : fX7_has σ a = some h) (hc : h = true ∧ 0 ≤ b ∧ b ≤ 2) : ((fX11_spR σ a b).bind fun v => wr 1 (0 : Int32) (some ((0 : Int32), uB σ 88 (vp_updL (zB σ 88) 0 (Int32.toInt64 v))))) = some x1 := by
  have hw : ∀ o : Option (Int32 × St), wr 1 (0 : Int32) o = o := fun o => if_neg (by decide)
  have he : ∀ o : Option Int32, (o.bind fun x => some x) = o := fun o => by cases o <;> rfl
  rw [← h1]
  obtain ⟨h2, h3, h4⟩ := id hc
  subst h2
  unfold fX11_spR fL_speech_88
  rw [hh, bnd, bnd, if_pos hc, if_neg (show ¬ bi true = 0 by decide), if_neg (Int32.not_lt.mpr h3), if_pos h4]
  simp only [hw, he]
theorem spL_thr {σ : St} {a b : Int32} {x1 : Int32 × St} {h : Bool} (h1 : fL_speech_88 σ a b = some x1) (hh : fX7_has σ a = some h) (hc : ¬ (h = true ∧ 0 ≤ b ∧ b ≤ 2)) : x1 = (1, uN (uN σ 0 (zN σ 0 + 1)) 1 (zN σ 1 + 6)) := by
  unfold fL_speech_88 at h1
  rw [hh, bnd, if_neg hc] at h1
  exact (Option.some.inj h1).symm
theorem spL_mono {σ : St} {a b : Int32} {x1 : Int32 × St} (h1 : fL_speech_88 σ a b = some x1) : zN σ 0 ≤ zN x1.2 0 ∧ zN σ 1 ≤ zN x1.2 1 := by
  obtain ⟨h, hh⟩ := spL_has h1
  by_cases hc : h = true ∧ 0 ≤ b ∧ b ≤ 2
  · have h2 := spL_ret h1 hh hc
    obtain ⟨v, -, h3⟩ := Option.bind_eq_some_iff.mp h2
    have hw : wr 1 (0 : Int32) (some ((0 : Int32), uB σ 88 (vp_updL (zB σ 88) 0 (Int32.toInt64 v)))) = some ((0 : Int32), uB σ 88 (vp_updL (zB σ 88) 0 (Int32.toInt64 v))) := if_neg (by decide)
    rw [hw] at h3
    rw [← Option.some.inj h3]
    exact ⟨Nat.le_refl _, Nat.le_refl _⟩
  · rw [spL_thr h1 hh hc]
    exact ⟨Nat.le_succ _, Nat.le_add_right _ _⟩
set_option maxRecDepth 100000 in
set_option maxHeartbeats 4000000 in
theorem spL_T (σ : St) (a b : Int32) : T kL_speech cSi σ 0 [(0, .ref 0), (1, .int a), (2, .int b), (3, .ref 88)] [] ((fX11_spR σ a b).bind fun v => wr 1 (0 : Int32) (some ((0 : Int32), uB σ 88 (vp_updL (zB σ 88) 0 (Int32.toInt64 v))))) := by
  refine T_aload_n (pc := 0) 3 dL_speech_0 rfl rfl ?_
  refine T_iconst (pc := 1) (v := 0) dL_speech_1 (by decide) ?_
  refine T_aload_n (pc := 2) 0 dL_speech_2 rfl rfl ?_
  refine T_iload_n (pc := 3) 1 dL_speech_3 rfl rfl ?_
  refine T_iload_n (pc := 4) 2 dL_speech_4 rfl rfl ?_
  refine T_callPi (pc := 5) (rest := [.int 0, .ref 88]) (Rn_V (pc := 5) (as := [.int a, .int b]) (rest := [.int 0, .ref 88]) (ctX11_spR σ a b) rfl rfl mv_X11_speech hsL7 rfl ⟨Nat.le_of_ble_eq_true rfl, Nat.le_of_ble_eq_true rfl⟩ (Nat.le_of_ble_eq_true rfl) dL_speech_5 rfl) rfl (fun v => ?_)
  refine T_i2l (pc := 8) dL_speech_8 ?_
  refine T_last (pc := 9) (q := 88) (n := 1) (i := 0) rfl dL_speech_9 ?_
  refine T_goto (pc := 10) 17 dL_speech_10 (by decide) ?_
  refine T_iconst (pc := 17) (v := 0) dL_speech_17 (by decide) ?_
  exact T_ireturn (pc := 18) rfl dL_speech_18 rfl
set_option maxRecDepth 100000 in
set_option maxHeartbeats 4000000 in
theorem vm_spL (l : Launch) (D : va_G) (cA : Nat → ClassId) (L : Nat → Nat) (sz : Nat) (σ : St) (a b : Int32) {x1 : Int32 × St} (h1 : fL_speech_88 σ a b = some x1) :
    Met l yL_speech (Cond.codeWith yL_speech cL_speech 5 (some .int) [(0, 10, 13, 13)] :: TB) { frames := 60, cells := zN x1.2 0 - zN σ 0, slots := zN x1.2 1 - zN σ 1, locals := 5000 } (va_Pc ([Value.ref 0, .int a, .int b, .ref 88].map (tv L)) (spP l D cA L sz σ)) (Qv D cA L (va_A (wl cA σ L) sz) (some (.int x1.1)) x1.2) (zN x1.2 0 - zN σ 0) (zN x1.2 1 - zN σ 1) (va_A (wl cA σ L) sz) := by
  refine va_MetW (cc := cL_speech) (maxL := 5) (ret := some .int) (hh := [(0, 10, 13, 13)]) (by decide +kernel) rfl ?_
  intro p e s m args' below meth c s₁ B hml hv
  obtain ⟨rfl, hsz, hP, hK, hD0, hX, hXt⟩ := hv
  subst hsz
  have hA : ∀ q : Nat, s.heap.size ≤ q → va_A (wl cA σ L) s.heap.size q := fun q h => Or.inr h
  have hts := atoms_spec (ws := Cond.codeWith yL_speech cL_speech 5 (some .int) [(0, 10, 13, 13)] :: TB) B.pre
  have htb : ∀ w ∈ TB, w.before ([Value.ref 0, .int a, .int b, .ref 88].map (tv L)).toArray s = true := fun w hw => hts w (List.mem_cons_of_mem _ hw)
  have hown : s.vm.findClass RL = some m.cls := findClass_of_methodNamed B.named
  have hx : p.tables.exec = Jvm.exec := B.exec
  have hb : c.code = cL_speech := B.bytes
  have C : Cx (p, l, e, s, m, ([Value.ref 0, .int a, .int b, .ref 88].map (tv L)).toArray, below, meth, c, D, cA, va_A (wl cA σ L) s.heap.size, σ, L) kL_speech := ⟨B.exec, B.bytes, hml, hown, htb, hK, B.notSynchronized, B.returns, hA, hX, trivial⟩
  have htab : c.exceptionTable.toList = tableOf [(0, 10, 13, 13)] := vx_table (x := yL_speech) B (hts _ List.mem_cons_self)
  have hl := lv_entry ([Value.ref 0, .int a, .int b, .ref 88].map (tv L)) (n := 5) (Nat.le_of_ble_eq_true rfl)
  rw [lg_entry_eq]
  rw [lv_args_tv] at hl
  obtain ⟨h, hh⟩ := spL_has h1
  by_cases hc : h = true ∧ 0 ≤ b ∧ b ≤ 2
  · have k := (spL_T σ a b x1 (spL_ret h1 hh hc)).2 _ L C
    have k2 := k (Nat.le_refl _) (Nat.le_refl _) Lok.rf s.heap [] _ hP hD0.self va_S.rf hl
    rw [Nat.sub_self, Nat.sub_self] at k2
    exact k2
  · have e2 := spL_thr h1 hh hc
    subst e2
    have c0 : zN (uN (uN σ 0 (zN σ 0 + 1)) 1 (zN σ 1 + 6)) 0 - zN σ 0 = 1 := by
      show (zN σ 0 + 1) - zN σ 0 = 1
      omega
    have c1 : zN (uN (uN σ 0 (zN σ 0 + 1)) 1 (zN σ 1 + 6)) 1 - zN σ 1 = 6 := by
      show (zN σ 1 + 6) - zN σ 1 = 6
      omega
    have key : ∀ (mc ms : Nat) (ls : Array Slot), mc = 1 → ms = 6 → lv_has ls 5 (tl L (lv_args 0 [Value.ref 0, .int a, .int b, .ref 88])) → W p l e { frames := 60, cells := mc, slots := ms, locals := 5000 } s m ([Value.ref 0, .int a, .int b, .ref 88].map (tv L)).toArray below meth c s.heap [] 0 0 (MQ below (Qv D cA L (va_A (wl cA σ L) s.heap.size) (some (.int 1)) (uN (uN σ 0 (zN σ 0 + 1)) 1 (zN σ 1 + 6))) ([Value.ref 0, .int a, .int b, .ref 88].map (tv L)).toArray s mc ms (va_A (wl cA σ L) s.heap.size)) (F0 m 0 ls []) := by
      intro mc ms ls hmc hms hl
      subst hmc
      subst hms
      refine lv_aload_n hx hb dL_speech_0 rfl (lv_at hl 3 rfl) ?_
      refine lv_iconst hx hb dL_speech_1 (v := 0) (by decide) ?_
      refine lv_aload_n hx hb dL_speech_2 rfl (lv_at hl 0 rfl) ?_
      refine lv_iload_n hx hb dL_speech_3 rfl (lv_at hl 1 rfl) ?_
      refine lv_iload_n hx hb dL_speech_4 rfl (lv_at hl 2 rfl) ?_
      intro T hT X
      have hG : GoodIn TB (wsV RL 7 RX11 yX11_speech (Cond.code yX11_speech cX11_speech 3 (some .int) :: TB)) := tb_good (tb_app (fun w hw => by
        simp only [List.mem_cons, List.not_mem_nil, or_false] at hw
        rcases hw with rfl | rfl | rfl | rfl <;> first | exact hsL7 | exact hs114 | exact hs115 | exact hsi1) (tb_code hs116))
      have hr := vx_runV (meth := meth) (below := below) (e := e) (As := [.int a, .int b]) (rest := [.int 0, .ref (L 88)]) (g := F0 m 5 ls [.int b, .int a, .ref (L 0), .int 0, .ref (L 88)]) (R := { frames := 60, cells := 1, slots := 6, locals := 5000 }) (nL := 5) (cells := 0) (slots := 0) (locs := []) (H := s.heap) ⟨hx, hb, hml, hown, htb⟩ (vm_sp l D cA L s.heap.size σ a b hh hc) (cwV 2 htb hG rfl rfl rfl ⟨rfl, by decide +kernel, by decide +kernel, by decide +kernel⟩ ⟨Nat.le_of_ble_eq_true rfl, Nat.le_of_ble_eq_true rfl⟩) ⟨spP_blind l D cA L s.heap.size σ _, va_recv hK hP (show vwCl[9]? = some (RX11, TX11, 11) from rfl) (wl_at (q := 0) rfl), fun U hU hW => ⟨rfl, by rw [hU], by rw [hU]; exact hP, va_K.moved hW.alike hK, hD0, by rw [hU]; exact hX.next Lok.rf va_S.rf (fun _ q => q) hW, by rw [hU]; exact hXt.next va_S.rf (fun _ q => q) hW⟩⟩ rfl rfl hl.1 rfl (lv_room (Nat.le_of_ble_eq_true rfl)) dL_speech_5 ⟨Nat.le_refl _, Nat.le_refl _⟩
      rcases hr T hT X with ⟨v, st₀, t, T', Lc, h0, X', hLc, e1, e2, hq, st⟩ | ⟨q, st₀, t, T', Lc, E, ce, h0, X', hLc, e1, e2, hxc, hce, hcv, hcl, st⟩
      · exact hq.elim
      · obtain ⟨L1, ⟨hL1, hD1⟩, ⟨rfl, hP1, hK1⟩, hz, hk⟩ := hxc
        rw [h0] at hz hk
        have hS1 : va_S (va_A (wl cA σ L) s.heap.size) s.heap T'.heap ([] ++ Lc) := ⟨by rw [e1]; exact hz, fun q h1 h2 => by rw [e1]; exact hk q h1 h2, fun q hq => hLc q hq⟩
        have kx := vx_catch (own := RL) (name := nsE) (E := nsE) (ce := ce) (q := q) (pc := 5) (ls := ls) (rest := [.int 0, .ref (L 88)]) (H := T'.heap) (locs := [] ++ Lc) (cells := 0 + 1) (slots := 0 + 6) (l := l) (p := p) (e := e) (R := { frames := 60, cells := 1, slots := 6, locals := 5000 }) (below := below) (meth := meth) (c := c) (args := ([Value.ref 0, .int a, .int b, .ref 88].map (tv L)).toArray) (Q := MQ below (Qv D cA L (va_A (wl cA σ L) s.heap.size) (some (.int 1)) (uN (uN σ 0 (zN σ 0 + 1)) 1 (zN σ 1 + 6))) ([Value.ref 0, .int a, .int b, .ref 88].map (tv L)).toArray s 1 6 (va_A (wl cA σ L) s.heap.size)) hown [] ⟨0, 10, 13, 13⟩ [] (htab.trans rfl) (fun z hz => nomatch hz) (by decide +kernel) (by decide) (htb _ hsL13) (va_Nw.use rfl (hXt.2.2.2.2 _ List.mem_cons_self)) (by rw [e1]; exact hce) hcv hcl (by
          refine lv_astore hx hb dL_speech_13 hl (by decide) rfl (fun ls' hl' => ?_)
          refine lv_iconst hx hb dL_speech_15 (v := 1) (by decide) ?_
          exact W.iret hx hb B.returns (fun u hu hW => ⟨⟨L1, rfl, hL1, by rw [hu, e1, wl_N01]; exact hP1, va_K.moved hW.alike hK, by rw [wl_N01]; exact hD1⟩, hS1.F hu⟩) hS1.2.2 dL_speech_16 B.notSynchronized)
        obtain ⟨t2, a1, b1⟩ := kx T' rfl X'
        exact ⟨t2, st.trans a1, b1⟩
    exact key _ _ _ c0 c1 hl
theorem RnL_speech {pc : Nat} {stk rest : List Value} (σ : St) (a b : Int32) (xs : Nat → Int32) (n : Nat) (hcat : (rest.map fun v => v.category).sum ≤ 8) (hd : decode cL_law pc = .ok (.invokestatic 38, 3)) (hst : stk = [.ref 88, .int b, .int a, .ref 0] ++ rest) : Rn (kL_law xs n) cSi σ pc stk rest (fL_speech_88 σ a b) := by
  intro x1 h1
  refine ⟨spL_mono h1, fun E L C => ?_⟩
  obtain ⟨p, l, e, s, m, args, below, meth, c, D, cA, A, σ0, L0⟩ := E
  obtain ⟨hx, hb, hml, hown, hts, hK, hlocks, hret, hA, hX, hscr⟩ := C
  intro k0 k1 H locs ls cells slots hc0 hc1 hP hD hls hL hS
  have hF : ∀ q : Nat, va_A (wl cA σ L) H.size q → A q := fun q hq => by
    rcases hq with ⟨i, y, hi⟩ | hq
    · exact hD.2 i _ hi
    · exact hA q (Nat.le_trans hS.1 hq)
  have hscr : va_X (L0 300) n xs s s.heap ∧ ¬ A (L0 300) ∧ L0 300 < s.heap.size ∧ Xtr l A s s.heap := hscr
  obtain ⟨-, -, -, hXt⟩ := hscr
  have hG : GoodIn TB (va_wsS RL 38 yL_speech (Cond.codeWith yL_speech cL_speech 5 (some .int) [(0, 10, 13, 13)] :: TB)) := tb_good (tb_app (fun w hw => by
    simp only [List.mem_cons, List.not_mem_nil, or_false] at hw
    rcases hw with rfl | rfl | rfl <;> first | exact hsL38 | exact hsLst | exact hsiL) (tb_code hsLcw))
  exact ⟨_, vx_runSW (As := [Value.ref 0, .int a, .int b, .ref 88].map (tv L)) (rest := rest.map (tv L)) ⟨hx, hb, hml, hown, hts⟩ (vm_spL l D cA L H.size σ a b h1) (vx_cwSW 4 hts hG rfl rfl rfl ⟨by decide +kernel, by decide +kernel, by decide +kernel⟩ ⟨Nat.le_of_ble_eq_true rfl, Nat.le_of_ble_eq_true rfl⟩) ⟨spP_blind l D cA L H.size σ _, fun U hU hW => ⟨rfl, by rw [hU], by rw [hU]; exact hP, va_K.moved hW.alike hK, hD.weaken (fun _ _ _ _ => trivial), by rw [hU]; exact hX.next hL hS hF hW, by rw [hU]; exact hXt.next hS hF hW⟩⟩ rfl rfl hls (by show stk.map (tv L) = _; rw [hst]; simp [tv]) (lv_room (by rw [tv_cats]; exact hcat)) hd ⟨hc0, hc1⟩⟩
