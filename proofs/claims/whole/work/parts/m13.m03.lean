/-! methods J6_bitCount_0f7a4 .. X1_isRelation: by program (wip/gen) -/
set_option maxRecDepth 100000 in
set_option maxHeartbeats 4000000 in
theorem ctJ6_bitCount_0f7a4 (σ : St) (p0 : Int32) : Ct yJ6_bitCount_0f7a4 kJ6_bitCount_0f7a4 [.int p0] σ (cPi σ) (fJ6_bitCount_0f7a4 p0) := by
  refine Ct.ofJ (by decide +kernel) rfl rfl (Nat.le_of_ble_eq_true rfl) ?_
  unfold fJ6_bitCount_0f7a4
  show T _ _ _ 0 [(0, .int p0)] [] _
  refine T_iload_n (pc := 0) 0 dJ6_bitCount_0f7a4_0 rfl rfl ?_
  refine T_iload_n (pc := 1) 0 dJ6_bitCount_0f7a4_1 rfl rfl ?_
  refine T_iconst (pc := 2) (v := 1) dJ6_bitCount_0f7a4_2 (by decide) ?_
  refine T_iushr (pc := 3) dJ6_bitCount_0f7a4_3 ?_
  refine T_ldcw (pc := 4) hw1301 dJ6_bitCount_0f7a4_4 ?_
  refine T_iand (pc := 7) dJ6_bitCount_0f7a4_7 ?_
  refine T_isub (pc := 8) dJ6_bitCount_0f7a4_8 ?_
  refine T_letI (fun x1 => ?_)
  refine T_istore_n (pc := 9) (lv' := [(0, .int x1)]) dJ6_bitCount_0f7a4_9 rfl (Nat.le_of_ble_eq_true rfl) rfl ?_
  refine T_iload_n (pc := 10) 0 dJ6_bitCount_0f7a4_10 rfl rfl ?_
  refine T_ldcw (pc := 11) hw1302 dJ6_bitCount_0f7a4_11 ?_
  refine T_iand (pc := 14) dJ6_bitCount_0f7a4_14 ?_
  refine T_iload_n (pc := 15) 0 dJ6_bitCount_0f7a4_15 rfl rfl ?_
  refine T_iconst (pc := 16) (v := 2) dJ6_bitCount_0f7a4_16 (by decide) ?_
  refine T_iushr (pc := 17) dJ6_bitCount_0f7a4_17 ?_
  refine T_ldcw (pc := 18) hw1302 dJ6_bitCount_0f7a4_18 ?_
  refine T_iand (pc := 21) dJ6_bitCount_0f7a4_21 ?_
  refine T_iadd (pc := 22) dJ6_bitCount_0f7a4_22 ?_
  refine T_letI (fun x2 => ?_)
  refine T_istore_n (pc := 23) (lv' := [(0, .int x2)]) dJ6_bitCount_0f7a4_23 rfl (Nat.le_of_ble_eq_true rfl) rfl ?_
  refine T_iload_n (pc := 24) 0 dJ6_bitCount_0f7a4_24 rfl rfl ?_
  refine T_iload_n (pc := 25) 0 dJ6_bitCount_0f7a4_25 rfl rfl ?_
  refine T_iconst (pc := 26) (v := 4) dJ6_bitCount_0f7a4_26 (by decide) ?_
  refine T_iushr (pc := 27) dJ6_bitCount_0f7a4_27 ?_
  refine T_iadd (pc := 28) dJ6_bitCount_0f7a4_28 ?_
  refine T_ldcw (pc := 29) hw1303 dJ6_bitCount_0f7a4_29 ?_
  refine T_iand (pc := 32) dJ6_bitCount_0f7a4_32 ?_
  refine T_letI (fun x3 => ?_)
  refine T_istore_n (pc := 33) (lv' := [(0, .int x3)]) dJ6_bitCount_0f7a4_33 rfl (Nat.le_of_ble_eq_true rfl) rfl ?_
  refine T_iload_n (pc := 34) 0 dJ6_bitCount_0f7a4_34 rfl rfl ?_
  refine T_iload_n (pc := 35) 0 dJ6_bitCount_0f7a4_35 rfl rfl ?_
  refine T_bipush (pc := 36) (v := 8) dJ6_bitCount_0f7a4_36 (by decide) ?_
  refine T_iushr (pc := 38) dJ6_bitCount_0f7a4_38 ?_
  refine T_iadd (pc := 39) dJ6_bitCount_0f7a4_39 ?_
  refine T_letI (fun x4 => ?_)
  refine T_istore_n (pc := 40) (lv' := [(0, .int x4)]) dJ6_bitCount_0f7a4_40 rfl (Nat.le_of_ble_eq_true rfl) rfl ?_
  refine T_iload_n (pc := 41) 0 dJ6_bitCount_0f7a4_41 rfl rfl ?_
  refine T_iload_n (pc := 42) 0 dJ6_bitCount_0f7a4_42 rfl rfl ?_
  refine T_bipush (pc := 43) (v := 16) dJ6_bitCount_0f7a4_43 (by decide) ?_
  refine T_iushr (pc := 45) dJ6_bitCount_0f7a4_45 ?_
  refine T_iadd (pc := 46) dJ6_bitCount_0f7a4_46 ?_
  refine T_letI (fun x5 => ?_)
  refine T_istore_n (pc := 47) (lv' := [(0, .int x5)]) dJ6_bitCount_0f7a4_47 rfl (Nat.le_of_ble_eq_true rfl) rfl ?_
  refine T_iload_n (pc := 48) 0 dJ6_bitCount_0f7a4_48 rfl rfl ?_
  refine T_bipush (pc := 49) (v := 63) dJ6_bitCount_0f7a4_49 (by decide) ?_
  refine T_iand (pc := 51) dJ6_bitCount_0f7a4_51 ?_
  exact T_ireturn (pc := 52) rfl dJ6_bitCount_0f7a4_52 rfl
set_option maxRecDepth 100000 in
set_option maxHeartbeats 4000000 in
theorem fX4_fullest_L7_T (v1 : Int32) (σ : St) {kb : Int32 → Int32 → Int32 → Option Int32} (hkb : ∀ (w2 : Int32) (w3 : Int32) (w4 : Int32), T kX4_fullest (cPi σ) σ 7 [(0, .ref 9), (1, .int v1), (2, .int w2), (3, .int w3), (4, .int w4)] [] (kb w2 w3 w4)) (v2 : Int32) (v3 : Int32) (v4 : Int32) : T kX4_fullest (cPi σ) σ 7 [(0, .ref 9), (1, .int v1), (2, .int v2), (3, .int v3), (4, .int v4)] [] (fX4_fullest_L7 v1 kb σ v2 v3 v4) := by
  unfold fX4_fullest_L7
  refine T_iload (pc := 7) 4 dX4_fullest_7 rfl ?_
  refine T_aload_n (pc := 9) 0 dX4_fullest_9 rfl rfl ?_
  refine T_iload_n (pc := 10) 1 dX4_fullest_10 rfl rfl ?_
  refine T_callPi (pc := 11) (rest := [.int v4]) (Rn_V (pc := 11) (as := [.int v1]) (rest := [.int v4]) (ctX4_sizeOf σ v1) rfl rfl mv_X4_sizeOf hw1230 rfl ⟨Nat.le_of_ble_eq_true rfl, Nat.le_of_ble_eq_true rfl⟩ (Nat.le_of_ble_eq_true rfl) dX4_fullest_11 rfl) rfl (fun x1 => ?_)
  refine T_icmp_ge (pc := 14) 47 dX4_fullest_14 (by decide) (fun _ => ?_) (fun _ => ?_)
  · refine T_iload_n (pc := 47) 2 dX4_fullest_47 rfl rfl ?_
    exact T_ireturn (pc := 48) rfl dX4_fullest_48 rfl
  · refine T_aload_n (pc := 17) 0 dX4_fullest_17 rfl rfl ?_
    refine T_iload_n (pc := 18) 1 dX4_fullest_18 rfl rfl ?_
    refine T_iload (pc := 19) 4 dX4_fullest_19 rfl ?_
    refine T_callPi (pc := 21) (rest := []) (Rn_V (pc := 21) (as := [.int v1, .int v4]) (rest := []) (ctX4_partsIn σ v1 v4) rfl rfl mv_X4_partsIn hw1234 rfl ⟨Nat.le_of_ble_eq_true rfl, Nat.le_of_ble_eq_true rfl⟩ (Nat.le_of_ble_eq_true rfl) dX4_fullest_21 rfl) rfl (fun x2 => ?_)
    refine T_callPi (pc := 24) (rest := []) (Rn_S (pc := 24) (as := [.int x2]) (rest := []) (ctJ6_bitCount_0f7a4 σ x2) ms_J6_bitCount_0f7a4 hw1298 rfl ⟨Nat.le_of_ble_eq_true rfl, Nat.le_of_ble_eq_true rfl⟩ (Nat.le_of_ble_eq_true rfl) dX4_fullest_24 rfl) rfl (fun x3 => ?_)
    refine T_istore (pc := 27) (lv' := [(0, .ref 9), (1, .int v1), (2, .int v2), (3, .int v3), (4, .int v4), (5, .int x3)]) dX4_fullest_27 (Nat.le_of_ble_eq_true rfl) rfl ?_
    refine T_iload (pc := 29) 5 dX4_fullest_29 rfl ?_
    refine T_iload_n (pc := 31) 3 dX4_fullest_31 rfl rfl ?_
    refine T_icmp_le (pc := 32) 41 dX4_fullest_32 (by decide) (fun _ => ?_) (fun _ => ?_)
    · refine T_iinc (pc := 41) (y := 1) (lv' := [(0, .ref 9), (1, .int v1), (2, .int v2), (3, .int v3), (4, .int (v4 + (1 : Int32))), (5, .int x3)]) 4 dX4_fullest_41 (by decide) rfl (Nat.le_of_ble_eq_true rfl) rfl ?_
      refine T_goto (pc := 44) 7 dX4_fullest_44 (by decide) ?_
      refine T_pick (lv' := [(0, .ref 9), (1, .int v1), (2, .int v2), (3, .int v3), (4, .int (v4 + (1 : Int32)))]) [0, 1, 2, 3, 4] rfl ?_
      exact hkb v2 v3 (v4 + (1 : Int32))
    · refine T_iload (pc := 35) 4 dX4_fullest_35 rfl ?_
      refine T_istore_n (pc := 37) (lv' := [(0, .ref 9), (1, .int v1), (2, .int v4), (3, .int v3), (4, .int v4), (5, .int x3)]) dX4_fullest_37 rfl (Nat.le_of_ble_eq_true rfl) rfl ?_
      refine T_iload (pc := 38) 5 dX4_fullest_38 rfl ?_
      refine T_istore_n (pc := 40) (lv' := [(0, .ref 9), (1, .int v1), (2, .int v4), (3, .int x3), (4, .int v4), (5, .int x3)]) dX4_fullest_40 rfl (Nat.le_of_ble_eq_true rfl) rfl ?_
      refine T_iinc (pc := 41) (y := 1) (lv' := [(0, .ref 9), (1, .int v1), (2, .int v4), (3, .int x3), (4, .int (v4 + (1 : Int32))), (5, .int x3)]) 4 dX4_fullest_41 (by decide) rfl (Nat.le_of_ble_eq_true rfl) rfl ?_
      refine T_goto (pc := 44) 7 dX4_fullest_44 (by decide) ?_
      refine T_pick (lv' := [(0, .ref 9), (1, .int v1), (2, .int v4), (3, .int x3), (4, .int (v4 + (1 : Int32)))]) [0, 1, 2, 3, 4] rfl ?_
      exact hkb v4 x3 (v4 + (1 : Int32))
set_option maxRecDepth 100000 in
set_option maxHeartbeats 4000000 in
theorem fX4_fullest_P7_T (v1 : Int32) (σ : St) (v2 : Int32) (v3 : Int32) (v4 : Int32) : T kX4_fullest (cPi σ) σ 7 [(0, .ref 9), (1, .int v1), (2, .int v2), (3, .int v3), (4, .int v4)] [] (fX4_fullest_P7 v1 σ v2 v3 v4) :=
  it_T (S := (fun _ : Int32 × Int32 × Int32 => σ)) (lv := fun t : Int32 × Int32 × Int32 => [(0, .ref 9), (1, .int v1), (2, .int t.1), (3, .int t.2.1), (4, .int t.2.2)]) (st := fun _ => []) (fun kb hkb t => fX4_fullest_L7_T v1 (hkb := fun v2 v3 v4 => hkb (v2, v3, v4)) σ t.1 t.2.1 t.2.2) FU (v2, v3, v4)
set_option maxRecDepth 100000 in
set_option maxHeartbeats 4000000 in
theorem ctX4_fullest (σ : St) (p0 : Int32) : Ct yX4_fullest kX4_fullest [.ref 9, .int p0] σ (cPi σ) (fX4_fullest σ p0) := by
  refine Ct.of (by decide +kernel) rfl rfl (Nat.le_of_ble_eq_true rfl) ?_
  unfold fX4_fullest
  show T _ _ _ 0 [(0, .ref 9), (1, .int p0)] [] _
  refine T_iconst (pc := 0) (v := 0) dX4_fullest_0 (by decide) ?_
  refine T_istore_n (pc := 1) (lv' := [(0, .ref 9), (1, .int p0), (2, .int (0 : Int32))]) dX4_fullest_1 rfl (Nat.le_of_ble_eq_true rfl) rfl ?_
  refine T_iconst (pc := 2) (v := 0) dX4_fullest_2 (by decide) ?_
  refine T_istore_n (pc := 3) (lv' := [(0, .ref 9), (1, .int p0), (2, .int (0 : Int32)), (3, .int (0 : Int32))]) dX4_fullest_3 rfl (Nat.le_of_ble_eq_true rfl) rfl ?_
  refine T_iconst (pc := 4) (v := 0) dX4_fullest_4 (by decide) ?_
  refine T_istore (pc := 5) (lv' := [(0, .ref 9), (1, .int p0), (2, .int (0 : Int32)), (3, .int (0 : Int32)), (4, .int (0 : Int32))]) dX4_fullest_5 (Nat.le_of_ble_eq_true rfl) rfl ?_
  exact fX4_fullest_P7_T p0 σ (0 : Int32) (0 : Int32) (0 : Int32)
set_option maxRecDepth 100000 in
set_option maxHeartbeats 4000000 in
theorem ctX11_crowd (σ : St) (p0 : Int32) (p1 : Int32) : Ct yX11_crowd kX11_crowd [.ref 0, .int p0, .int p1] σ (cPi σ) (fX11_crowd σ p0 p1) := by
  refine Ct.of (by decide +kernel) rfl rfl (Nat.le_of_ble_eq_true rfl) ?_
  unfold fX11_crowd
  show T _ _ _ 0 [(0, .ref 0), (1, .int p0), (2, .int p1)] [] _
  refine T_aload_n (pc := 0) 0 dX11_crowd_0 rfl rfl ?_
  refine T_getA (pc := 1) fd_0_8 hw447 dX11_crowd_1 ?_
  refine T_iload_n (pc := 4) 1 dX11_crowd_4 rfl rfl ?_
  refine T_callPz (pc := 5) (rest := []) (Rn_V (pc := 5) (as := [.int p0]) (rest := []) (ctX4_has σ p0) rfl rfl mv_X4_has hw1222 rfl ⟨Nat.le_of_ble_eq_true rfl, Nat.le_of_ble_eq_true rfl⟩ (Nat.le_of_ble_eq_true rfl) dX11_crowd_5 rfl) rfl (fun x1 => ?_)
  refine T_if_eq (pc := 8) 20 dX11_crowd_8 (by decide) (fun _ => ?_) (fun _ => ?_)
  · refine T_iconst (pc := 20) (v := -1) dX11_crowd_20 (by decide) ?_
    exact T_ireturn (pc := 21) rfl dX11_crowd_21 rfl
  · refine T_iload_n (pc := 11) 2 dX11_crowd_11 rfl rfl ?_
    refine T_if_lt (pc := 12) 20 dX11_crowd_12 (by decide) (fun _ => ?_) (fun _ => ?_)
    · refine T_iconst (pc := 20) (v := -1) dX11_crowd_20 (by decide) ?_
      exact T_ireturn (pc := 21) rfl dX11_crowd_21 rfl
    · refine T_iload_n (pc := 15) 2 dX11_crowd_15 rfl rfl ?_
      refine T_iconst (pc := 16) (v := 1) dX11_crowd_16 (by decide) ?_
      refine T_icmp_le (pc := 17) 22 dX11_crowd_17 (by decide) (fun _ => ?_) (fun _ => ?_)
      · refine T_aload_n (pc := 22) 0 dX11_crowd_22 rfl rfl ?_
        refine T_getA (pc := 23) fd_0_8 hw447 dX11_crowd_23 ?_
        refine T_iload_n (pc := 26) 1 dX11_crowd_26 rfl rfl ?_
        refine T_callPi (pc := 27) (rest := []) (Rn_V (pc := 27) (as := [.int p0]) (rest := []) (ctX4_fullest σ p0) rfl rfl mv_X4_fullest hw1294 rfl ⟨Nat.le_of_ble_eq_true rfl, Nat.le_of_ble_eq_true rfl⟩ (Nat.le_of_ble_eq_true rfl) dX11_crowd_27 rfl) rfl (fun x2 => ?_)
        refine T_istore_n (pc := 30) (lv' := [(0, .ref 0), (1, .int p0), (2, .int p1), (3, .int x2)]) dX11_crowd_30 rfl (Nat.le_of_ble_eq_true rfl) rfl ?_
        refine T_iload_n (pc := 31) 2 dX11_crowd_31 rfl rfl ?_
        refine T_if_ne (pc := 32) 39 dX11_crowd_32 (by decide) (fun _ => ?_) (fun _ => ?_)
        · refine T_aload_n (pc := 39) 0 dX11_crowd_39 rfl rfl ?_
          refine T_getA (pc := 40) fd_0_8 hw447 dX11_crowd_40 ?_
          refine T_iload_n (pc := 43) 1 dX11_crowd_43 rfl rfl ?_
          refine T_iload_n (pc := 44) 3 dX11_crowd_44 rfl rfl ?_
          refine T_callPi (pc := 45) (rest := []) (Rn_V (pc := 45) (as := [.int p0, .int x2]) (rest := []) (ctX4_partsIn σ p0 x2) rfl rfl mv_X4_partsIn hw1238 rfl ⟨Nat.le_of_ble_eq_true rfl, Nat.le_of_ble_eq_true rfl⟩ (Nat.le_of_ble_eq_true rfl) dX11_crowd_45 rfl) rfl (fun x3 => ?_)
          refine T_callPi (pc := 48) (rest := []) (Rn_S (pc := 48) (as := [.int x3]) (rest := []) (ctJ6_bitCount_0f7a4 σ x3) ms_J6_bitCount_0f7a4 hw1304 rfl ⟨Nat.le_of_ble_eq_true rfl, Nat.le_of_ble_eq_true rfl⟩ (Nat.le_of_ble_eq_true rfl) dX11_crowd_48 rfl) rfl (fun x4 => ?_)
          exact T_ireturn (pc := 51) rfl dX11_crowd_51 rfl
        · refine T_iload_n (pc := 35) 3 dX11_crowd_35 rfl rfl ?_
          refine T_goto (pc := 36) 51 dX11_crowd_36 (by decide) ?_
          exact T_ireturn (pc := 51) rfl dX11_crowd_51 rfl
      · refine T_iconst (pc := 20) (v := -1) dX11_crowd_20 (by decide) ?_
        exact T_ireturn (pc := 21) rfl dX11_crowd_21 rfl
set_option maxRecDepth 100000 in
set_option maxHeartbeats 4000000 in
theorem ctX9_cut (σ : St) (p0 : Int32) : Ct yX9_cut kX9_cut [.ref 1, .int p0] σ cSz (fX9_cut σ p0) := by
  refine Ct.of (by decide +kernel) rfl rfl (Nat.le_of_ble_eq_true rfl) ?_
  unfold fX9_cut
  show T _ _ _ 0 [(0, .ref 1), (1, .int p0)] [] _
  refine T_iload_n (pc := 0) 1 dX9_cut_0 rfl rfl ?_
  refine T_if_lt (pc := 1) 12 dX9_cut_1 (by decide) (fun _ => ?_) (fun _ => ?_)
  · refine T_iconst (pc := 12) (v := 0) dX9_cut_12 (by decide) ?_
    exact T_zreturn (pc := 13) false rfl dX9_cut_13 rfl rfl
  · refine T_iload_n (pc := 4) 1 dX9_cut_4 rfl rfl ?_
    refine T_aload_n (pc := 5) 0 dX9_cut_5 rfl rfl ?_
    refine T_getI (pc := 6) fd_1_1 hw216 dX9_cut_6 ?_
    refine T_icmp_le (pc := 9) 14 dX9_cut_9 (by decide) (fun _ => ?_) (fun _ => ?_)
    · refine T_aload_n (pc := 14) 0 dX9_cut_14 rfl rfl ?_
      refine T_iload_n (pc := 15) 1 dX9_cut_15 rfl rfl ?_
      refine T_putI (pc := 16) fd_1_1 hw216 dX9_cut_16 ?_
      refine T_letS (fun s1 => ?_)
      refine T_iconst (pc := 19) (v := 1) dX9_cut_19 (by decide) ?_
      exact T_zreturn (pc := 20) true rfl dX9_cut_20 rfl rfl
    · refine T_iconst (pc := 12) (v := 0) dX9_cut_12 (by decide) ?_
      exact T_zreturn (pc := 13) false rfl dX9_cut_13 rfl rfl
set_option maxRecDepth 100000 in
set_option maxHeartbeats 4000000 in
theorem ctX11_end (σ : St) (p0 : Int32) : Ct yX11_end kX11_end [.ref 0, .int p0] σ cSz (fX11_end σ p0) := by
  refine Ct.of (by decide +kernel) rfl rfl (Nat.le_of_ble_eq_true rfl) ?_
  unfold fX11_end
  show T _ _ _ 0 [(0, .ref 0), (1, .int p0)] [] _
  refine T_aload_n (pc := 0) 0 dX11_end_0 rfl rfl ?_
  refine T_getA (pc := 1) fd_0_0 hw439 dX11_end_1 ?_
  refine T_iload_n (pc := 4) 1 dX11_end_4 rfl rfl ?_
  refine T_callSz (pc := 5) (rest := []) (Rn_V (pc := 5) (as := [.int p0]) (rest := []) (ctX9_cut σ p0) rfl rfl mv_X9_cut hw492 rfl ⟨Nat.le_of_ble_eq_true rfl, Nat.le_of_ble_eq_true rfl⟩ (Nat.le_of_ble_eq_true rfl) dX11_end_5 rfl) rfl (fun r1 => ?_)
  exact T_zreturn (pc := 8) r1.1 rfl dX11_end_8 rfl rfl
set_option maxRecDepth 100000 in
set_option maxHeartbeats 4000000 in
theorem ctX11_ends (σ : St) (p0 : Int32) (p1 : Int32) : Ct yX11_ends kX11_ends [.ref 0, .int p0, .int p1] σ (cPi σ) (fX11_ends σ p0 p1) := by
  refine Ct.of (by decide +kernel) rfl rfl (Nat.le_of_ble_eq_true rfl) ?_
  unfold fX11_ends
  show T _ _ _ 0 [(0, .ref 0), (1, .int p0), (2, .int p1)] [] _
  refine T_aload_n (pc := 0) 0 dX11_ends_0 rfl rfl ?_
  refine T_getA (pc := 1) fd_0_4 hw443 dX11_ends_1 ?_
  refine T_iload_n (pc := 4) 1 dX11_ends_4 rfl rfl ?_
  refine T_callPz (pc := 5) (rest := []) (Rn_V (pc := 5) (as := [.int p0]) (rest := []) (ctX7_has σ p0) rfl rfl mv_X7_has hw794 rfl ⟨Nat.le_of_ble_eq_true rfl, Nat.le_of_ble_eq_true rfl⟩ (Nat.le_of_ble_eq_true rfl) dX11_ends_5 rfl) rfl (fun x1 => ?_)
  refine T_if_eq (pc := 8) 22 dX11_ends_8 (by decide) (fun _ => ?_) (fun _ => ?_)
  · refine T_iconst (pc := 22) (v := -1) dX11_ends_22 (by decide) ?_
    exact T_ireturn (pc := 23) rfl dX11_ends_23 rfl
  · refine T_aload_n (pc := 11) 0 dX11_ends_11 rfl rfl ?_
    refine T_getA (pc := 12) fd_0_4 hw443 dX11_ends_12 ?_
    refine T_iload_n (pc := 15) 2 dX11_ends_15 rfl rfl ?_
    refine T_callPz (pc := 16) (rest := []) (Rn_V (pc := 16) (as := [.int p1]) (rest := []) (ctX7_has σ p1) rfl rfl mv_X7_has hw794 rfl ⟨Nat.le_of_ble_eq_true rfl, Nat.le_of_ble_eq_true rfl⟩ (Nat.le_of_ble_eq_true rfl) dX11_ends_16 rfl) rfl (fun x2 => ?_)
    refine T_if_ne (pc := 19) 24 dX11_ends_19 (by decide) (fun _ => ?_) (fun _ => ?_)
    · refine T_aload_n (pc := 24) 0 dX11_ends_24 rfl rfl ?_
      refine T_getA (pc := 25) fd_0_5 hw444 dX11_ends_25 ?_
      refine T_iload_n (pc := 28) 1 dX11_ends_28 rfl rfl ?_
      refine T_iload_n (pc := 29) 2 dX11_ends_29 rfl rfl ?_
      refine T_callPz (pc := 30) (rest := []) (Rn_V (pc := 30) (as := [.int p0, .int p1]) (rest := []) (ctX0_closes σ p0 p1) rfl rfl mv_X0_closes hw801 rfl ⟨Nat.le_of_ble_eq_true rfl, Nat.le_of_ble_eq_true rfl⟩ (Nat.le_of_ble_eq_true rfl) dX11_ends_30 rfl) rfl (fun x3 => ?_)
      refine T_if_eq (pc := 33) 40 dX11_ends_33 (by decide) (fun _ => ?_) (fun _ => ?_)
      · refine T_iconst (pc := 40) (v := 0) dX11_ends_40 (by decide) ?_
        exact T_ireturn (pc := 41) rfl dX11_ends_41 rfl
      · refine T_iconst (pc := 36) (v := 1) dX11_ends_36 (by decide) ?_
        refine T_goto (pc := 37) 41 dX11_ends_37 (by decide) ?_
        exact T_ireturn (pc := 41) rfl dX11_ends_41 rfl
    · refine T_iconst (pc := 22) (v := -1) dX11_ends_22 (by decide) ?_
      exact T_ireturn (pc := 23) rfl dX11_ends_23 rfl
set_option maxRecDepth 100000 in
set_option maxHeartbeats 4000000 in
theorem ctX11_far (σ : St) (p0 : Int32) (p1 : Int32) : Ct yX11_far kX11_far [.ref 0, .int p0, .int p1] σ cSi (fX11_far σ p0 p1) := by
  refine Ct.of (by decide +kernel) rfl rfl (Nat.le_of_ble_eq_true rfl) ?_
  unfold fX11_far
  show T _ _ _ 0 [(0, .ref 0), (1, .int p0), (2, .int p1)] [] _
  refine T_aload_n (pc := 0) 0 dX11_far_0 rfl rfl ?_
  refine T_getA (pc := 1) fd_0_4 hw443 dX11_far_1 ?_
  refine T_iload_n (pc := 4) 1 dX11_far_4 rfl rfl ?_
  refine T_callPz (pc := 5) (rest := []) (Rn_V (pc := 5) (as := [.int p0]) (rest := []) (ctX7_hasCue σ p0) rfl rfl mv_X7_hasCue hw827 rfl ⟨Nat.le_of_ble_eq_true rfl, Nat.le_of_ble_eq_true rfl⟩ (Nat.le_of_ble_eq_true rfl) dX11_far_5 rfl) rfl (fun x1 => ?_)
  refine T_if_eq (pc := 8) 22 dX11_far_8 (by decide) (fun _ => ?_) (fun _ => ?_)
  · refine T_iconst (pc := 22) (v := -1) dX11_far_22 (by decide) ?_
    exact T_ireturn (pc := 23) rfl dX11_far_23 rfl
  · refine T_aload_n (pc := 11) 0 dX11_far_11 rfl rfl ?_
    refine T_getA (pc := 12) fd_0_4 hw443 dX11_far_12 ?_
    refine T_iload_n (pc := 15) 2 dX11_far_15 rfl rfl ?_
    refine T_callPz (pc := 16) (rest := []) (Rn_V (pc := 16) (as := [.int p1]) (rest := []) (ctX7_has σ p1) rfl rfl mv_X7_has hw794 rfl ⟨Nat.le_of_ble_eq_true rfl, Nat.le_of_ble_eq_true rfl⟩ (Nat.le_of_ble_eq_true rfl) dX11_far_16 rfl) rfl (fun x2 => ?_)
    refine T_if_ne (pc := 19) 24 dX11_far_19 (by decide) (fun _ => ?_) (fun _ => ?_)
    · refine T_aload_n (pc := 24) 0 dX11_far_24 rfl rfl ?_
      refine T_getA (pc := 25) fd_0_5 hw444 dX11_far_25 ?_
      refine T_iload_n (pc := 28) 1 dX11_far_28 rfl rfl ?_
      refine T_iload_n (pc := 29) 2 dX11_far_29 rfl rfl ?_
      refine T_callSi (pc := 30) (rest := []) (Rn_V (pc := 30) (as := [.int p0, .int p1]) (rest := []) (ctX0_distance σ p0 p1) rfl rfl mv_X0_distance hw832 rfl ⟨Nat.le_of_ble_eq_true rfl, Nat.le_of_ble_eq_true rfl⟩ (Nat.le_of_ble_eq_true rfl) dX11_far_30 rfl) rfl (fun r3 => ?_)
      exact T_ireturn (pc := 33) rfl dX11_far_33 rfl
    · refine T_iconst (pc := 22) (v := -1) dX11_far_22 (by decide) ?_
      exact T_ireturn (pc := 23) rfl dX11_far_23 rfl
set_option maxRecDepth 100000 in
theorem ctX11_readerOf (σ : St) (p0 : Int32) : Ct yX11_readerOf kX11_readerOf [.ref 0, .int p0] σ (cPr σ) (some p0) := by
  refine Ct.of (by decide +kernel) rfl rfl (Nat.le_of_ble_eq_true rfl) ?_
  show T _ _ _ 0 [(0, .ref 0), (1, .int p0)] [] _
  refine T_iload_n (pc := 0) 1 dX11_readerOf_0 rfl rfl ?_
  by_cases h0 : p0 = 0
  · refine T_tabIn (pc := 1) (off := 27) 28 dX11_readerOf_1 (by rw [h0]; decide) (by rw [h0]; decide) (by rw [h0]; rfl) (by decide) ?_
    refine T_aload_n (pc := 28) 0 dX11_readerOf_28 rfl rfl ?_
    refine T_getA (pc := 29) fd_0_1 hw440 dX11_readerOf_29 ?_
    exact T_areturn (pc := 32) (nm := "CueRolls$Reader") rfl (Or.inr ⟨_, rfl⟩) dX11_readerOf_32 (by unfold cPr rdr; rw [if_pos h0])
  · by_cases h1 : p0 = 1
    · refine T_tabIn (pc := 1) (off := 32) 33 dX11_readerOf_1 (by rw [h1]; decide) (by rw [h1]; decide) (by rw [h1]; rfl) (by decide) ?_
      refine T_aload_n (pc := 33) 0 dX11_readerOf_33 rfl rfl ?_
      refine T_getA (pc := 34) fd_0_2 hw441 dX11_readerOf_34 ?_
      exact T_areturn (pc := 37) (nm := "CueRolls$Reader") rfl (Or.inr ⟨_, rfl⟩) dX11_readerOf_37 (by unfold cPr rdr; rw [if_neg h0, if_pos h1])
    · by_cases h2 : p0 = 2
      · refine T_tabIn (pc := 1) (off := 37) 38 dX11_readerOf_1 (by rw [h2]; decide) (by rw [h2]; decide) (by rw [h2]; rfl) (by decide) ?_
        refine T_aload_n (pc := 38) 0 dX11_readerOf_38 rfl rfl ?_
        refine T_getA (pc := 39) fd_0_3 hw442 dX11_readerOf_39 ?_
        exact T_areturn (pc := 42) (nm := "CueRolls$Reader") rfl (Or.inr ⟨_, rfl⟩) dX11_readerOf_42 (by unfold cPr rdr; rw [if_neg h0, if_neg h1, if_pos h2])
      · refine T_tabOut (pc := 1) 43 dX11_readerOf_1 (by have a0 := i32_ne (n := 0) h0 rfl; have a1 := i32_ne (n := 1) h1 rfl; have a2 := i32_ne (n := 2) h2 rfl; omega) (by decide) ?_
        refine T_aconst_null (pc := 43) dX11_readerOf_43 ?_
        exact T_areturn (pc := 44) (nm := "CueRolls$Reader") rfl (Or.inl rfl) dX11_readerOf_44 (by unfold cPr rdr; rw [if_neg h0, if_neg h1, if_neg h2])
set_option maxRecDepth 100000 in
set_option maxHeartbeats 4000000 in
theorem ctX9_at (σ : St) (p0 : Int32) : Ct yX9_at kX9_at [.ref 1, .int p0] σ (cPi σ) (fX9_at σ p0) := by
  refine Ct.of (by decide +kernel) rfl rfl (Nat.le_of_ble_eq_true rfl) ?_
  unfold fX9_at
  show T _ _ _ 0 [(0, .ref 1), (1, .int p0)] [] _
  refine T_iload_n (pc := 0) 1 dX9_at_0 rfl rfl ?_
  refine T_if_lt (pc := 1) 34 dX9_at_1 (by decide) (fun _ => ?_) (fun _ => ?_)
  · refine T_iconst (pc := 34) (v := -1) dX9_at_34 (by decide) ?_
    exact T_ireturn (pc := 35) rfl dX9_at_35 rfl
  · refine T_iload_n (pc := 4) 1 dX9_at_4 rfl rfl ?_
    refine T_aload_n (pc := 5) 0 dX9_at_5 rfl rfl ?_
    refine T_getI (pc := 6) fd_1_1 hw216 dX9_at_6 ?_
    refine T_icmp_ge (pc := 9) 34 dX9_at_9 (by decide) (fun _ => ?_) (fun _ => ?_)
    · refine T_iconst (pc := 34) (v := -1) dX9_at_34 (by decide) ?_
      exact T_ireturn (pc := 35) rfl dX9_at_35 rfl
    · refine T_iload_n (pc := 12) 1 dX9_at_12 rfl rfl ?_
      refine T_aload_n (pc := 13) 0 dX9_at_13 rfl rfl ?_
      refine T_getA (pc := 14) fd_1_0 hw215 dX9_at_14 ?_
      refine T_alenB (pc := 17) (v := 200) rfl (by decide) dX9_at_17 ?_
      refine T_icmp_ge (pc := 18) 34 dX9_at_18 (by decide) (fun _ => ?_) (fun _ => ?_)
      · refine T_iconst (pc := 34) (v := -1) dX9_at_34 (by decide) ?_
        exact T_ireturn (pc := 35) rfl dX9_at_35 rfl
      · refine T_aload_n (pc := 21) 0 dX9_at_21 rfl rfl ?_
        refine T_getA (pc := 22) fd_1_0 hw215 dX9_at_22 ?_
        refine T_iload_n (pc := 25) 1 dX9_at_25 rfl rfl ?_
        refine T_bald (pc := 26) rfl dX9_at_26 (fun x1 => ?_)
        refine T_sipush (pc := 27) (v := 255) dX9_at_27 (by decide) ?_
        refine T_iand (pc := 30) dX9_at_30 ?_
        refine T_goto (pc := 31) 35 dX9_at_31 (by decide) ?_
        exact T_ireturn (pc := 35) rfl dX9_at_35 rfl
set_option maxRecDepth 100000 in
set_option maxHeartbeats 4000000 in
theorem ctX1_joins (σ : St) (p0 : Int32) : Ct yX1_joins kX1_joins [.ref 4, .int p0] σ (cPz σ) (fX1_joins p0) := by
  refine Ct.of (by decide +kernel) rfl rfl (Nat.le_of_ble_eq_true rfl) ?_
  unfold fX1_joins
  show T _ _ _ 0 [(0, .ref 4), (1, .int p0)] [] _
  refine T_iload_n (pc := 0) 1 dX1_joins_0 rfl rfl ?_
  refine T_bipush (pc := 1) (v := 48) dX1_joins_1 (by decide) ?_
  refine T_icmp_lt (pc := 3) 16 dX1_joins_3 (by decide) (fun _ => ?_) (fun _ => ?_)
  · refine T_iconst (pc := 16) (v := 0) dX1_joins_16 (by decide) ?_
    exact T_zreturn (pc := 17) false rfl dX1_joins_17 rfl rfl
  · refine T_iload_n (pc := 6) 1 dX1_joins_6 rfl rfl ?_
    refine T_bipush (pc := 7) (v := 57) dX1_joins_7 (by decide) ?_
    refine T_icmp_gt (pc := 9) 16 dX1_joins_9 (by decide) (fun _ => ?_) (fun _ => ?_)
    · refine T_iconst (pc := 16) (v := 0) dX1_joins_16 (by decide) ?_
      exact T_zreturn (pc := 17) false rfl dX1_joins_17 rfl rfl
    · refine T_iconst (pc := 12) (v := 1) dX1_joins_12 (by decide) ?_
      refine T_goto (pc := 13) 17 dX1_joins_13 (by decide) ?_
      exact T_zreturn (pc := 17) true rfl dX1_joins_17 rfl rfl
set_option maxRecDepth 100000 in
set_option maxHeartbeats 4000000 in
theorem ctX1_grown (σ : St) (p0 : Int64) (p1 : Int32) : Ct yX1_grown kX1_grown [.ref 4, .long p0, .int p1] σ (cPl σ) (fX1_grown p0 p1) := by
  refine Ct.of (by decide +kernel) rfl rfl (Nat.le_of_ble_eq_true rfl) ?_
  unfold fX1_grown
  show T _ _ _ 0 [(0, .ref 4), (1, .long p0), (3, .int p1)] [] _
  refine T_ldc2 (pc := 0) hw551 dX1_grown_0 ?_
  refine T_lload_n (pc := 3) 1 dX1_grown_3 rfl rfl ?_
  refine T_lmul (pc := 4) dX1_grown_4 ?_
  refine T_iload_n (pc := 5) 2 dX1_grown_5 rfl rfl ?_
  refine T_i2l (pc := 6) dX1_grown_6 ?_
  refine T_ladd (pc := 7) dX1_grown_7 ?_
  refine T_ldc2 (pc := 8) hw552 dX1_grown_8 ?_
  refine T_lsub (pc := 11) dX1_grown_11 ?_
  exact T_lreturn (pc := 12) rfl dX1_grown_12 rfl
set_option maxRecDepth 100000 in
set_option maxHeartbeats 4000000 in
theorem ctX1_mostJoined (σ : St) : Ct yX1_mostJoined kX1_mostJoined [.ref 4] σ (cPi σ) (fX1_mostJoined) := by
  refine Ct.of (by decide +kernel) rfl rfl (Nat.le_of_ble_eq_true rfl) ?_
  unfold fX1_mostJoined
  show T _ _ _ 0 [(0, .ref 4)] [] _
  refine T_iconst (pc := 0) (v := 4) dX1_mostJoined_0 (by decide) ?_
  exact T_ireturn (pc := 1) rfl dX1_mostJoined_1 rfl
set_option maxRecDepth 100000 in
set_option maxHeartbeats 4000000 in
theorem fX5_cutUp_h_J114_T (σ : St) (v2 : Int32) (v3 : Int32) (v4 : Int32) (v5 : Int32) (v6 : Int32) (t0 : Int32) {kb : St → Int32 → Int32 → Int32 → Option St} (hkb : ∀ (σ' : St) (w2 : Int32) (w3 : Int32) (w4 : Int32), T kX5_cutUp_h cSv σ' 7 [(0, .ref 4), (1, .ref 1), (2, .int w2), (3, .int w3), (4, .int w4)] [] (kb σ' w2 w3 w4)) : T kX5_cutUp_h cSv σ 114 [(0, .ref 4), (1, .ref 1), (2, .int v2), (3, .int v3), (4, .int v4), (5, .int v5), (6, .int v6)] [.int t0] (fX5_cutUp_h_J114 kb σ v2 v3 v4 v5 v6 t0) := by
  unfold fX5_cutUp_h_J114
  refine T_istore (pc := 114) (lv' := [(0, .ref 4), (1, .ref 1), (2, .int v2), (3, .int v3), (4, .int v4), (5, .int v5), (6, .int v6), (7, .int t0)]) dX5_cutUp_114 (Nat.le_of_ble_eq_true rfl) rfl ?_
  refine T_aload_n (pc := 116) 0 dX5_cutUp_116 rfl rfl ?_
  refine T_getA (pc := 117) fd_4_0 hw237 dX5_cutUp_117 ?_
  refine T_iload_n (pc := 120) 2 dX5_cutUp_120 rfl rfl ?_
  refine T_iload (pc := 121) 7 dX5_cutUp_121 rfl ?_
  refine T_if_eq (pc := 123) 132 dX5_cutUp_123 (by decide) (fun _ => ?_) (fun _ => ?_)
  · refine T_iload (pc := 132) 6 dX5_cutUp_132 rfl ?_
    refine T_if_eq (pc := 134) 151 dX5_cutUp_134 (by decide) (fun _ => ?_) (fun _ => ?_)
    · refine T_iload (pc := 151) 5 dX5_cutUp_151 rfl ?_
      refine T_i2l (pc := 153) dX5_cutUp_153 ?_
      refine T_last (pc := 154) rfl dX5_cutUp_154 ?_
      refine T_letS (fun s5 => ?_)
      refine T_aload_n (pc := 155) 0 dX5_cutUp_155 rfl rfl ?_
      refine T_getA (pc := 156) fd_4_1 hw238 dX5_cutUp_156 ?_
      refine T_iload_n (pc := 159) 2 dX5_cutUp_159 rfl rfl ?_
      refine T_iload (pc := 160) 4 dX5_cutUp_160 rfl ?_
      refine T_iast (pc := 162) rfl dX5_cutUp_162 ?_
      refine T_letS (fun s6 => ?_)
      refine T_iinc (pc := 163) (y := 1) (lv' := [(0, .ref 4), (1, .ref 1), (2, .int (v2 + (1 : Int32))), (3, .int v3), (4, .int v4), (5, .int v5), (6, .int v6), (7, .int t0)]) 2 dX5_cutUp_163 (by decide) rfl (Nat.le_of_ble_eq_true rfl) rfl ?_
      refine T_iload (pc := 166) 6 dX5_cutUp_166 rfl ?_
      refine T_if_eq (pc := 168) 177 dX5_cutUp_168 (by decide) (fun _ => ?_) (fun _ => ?_)
      · refine T_iconst (pc := 177) (v := 0) dX5_cutUp_177 (by decide) ?_
        refine T_istore_n (pc := 178) (lv' := [(0, .ref 4), (1, .ref 1), (2, .int (v2 + (1 : Int32))), (3, .int (0 : Int32)), (4, .int v4), (5, .int v5), (6, .int v6), (7, .int t0)]) dX5_cutUp_178 rfl (Nat.le_of_ble_eq_true rfl) rfl ?_
        refine T_iinc (pc := 179) (y := 1) (lv' := [(0, .ref 4), (1, .ref 1), (2, .int (v2 + (1 : Int32))), (3, .int (0 : Int32)), (4, .int (v4 + (1 : Int32))), (5, .int v5), (6, .int v6), (7, .int t0)]) 4 dX5_cutUp_179 (by decide) rfl (Nat.le_of_ble_eq_true rfl) rfl ?_
        refine T_goto (pc := 182) 7 dX5_cutUp_182 (by decide) ?_
        refine T_pick (lv' := [(0, .ref 4), (1, .ref 1), (2, .int (v2 + (1 : Int32))), (3, .int (0 : Int32)), (4, .int (v4 + (1 : Int32)))]) [0, 1, 2, 3, 4] rfl ?_
        exact hkb s6 (v2 + (1 : Int32)) (0 : Int32) (v4 + (1 : Int32))
      · refine T_iload_n (pc := 171) 3 dX5_cutUp_171 rfl rfl ?_
        refine T_iconst (pc := 172) (v := 1) dX5_cutUp_172 (by decide) ?_
        refine T_iadd (pc := 173) dX5_cutUp_173 ?_
        refine T_goto (pc := 174) 178 dX5_cutUp_174 (by decide) ?_
        refine T_letI (fun x7 => ?_)
        refine T_istore_n (pc := 178) (lv' := [(0, .ref 4), (1, .ref 1), (2, .int (v2 + (1 : Int32))), (3, .int x7), (4, .int v4), (5, .int v5), (6, .int v6), (7, .int t0)]) dX5_cutUp_178 rfl (Nat.le_of_ble_eq_true rfl) rfl ?_
        refine T_iinc (pc := 179) (y := 1) (lv' := [(0, .ref 4), (1, .ref 1), (2, .int (v2 + (1 : Int32))), (3, .int x7), (4, .int (v4 + (1 : Int32))), (5, .int v5), (6, .int v6), (7, .int t0)]) 4 dX5_cutUp_179 (by decide) rfl (Nat.le_of_ble_eq_true rfl) rfl ?_
        refine T_goto (pc := 182) 7 dX5_cutUp_182 (by decide) ?_
        refine T_pick (lv' := [(0, .ref 4), (1, .ref 1), (2, .int (v2 + (1 : Int32))), (3, .int x7), (4, .int (v4 + (1 : Int32)))]) [0, 1, 2, 3, 4] rfl ?_
        exact hkb s6 (v2 + (1 : Int32)) x7 (v4 + (1 : Int32))
    · refine T_ldc2 (pc := 137) hw544 dX5_cutUp_137 ?_
      refine T_aload_n (pc := 140) 0 dX5_cutUp_140 rfl rfl ?_
      refine T_lconst (pc := 141) (v := 0) dX5_cutUp_141 (by decide) ?_
      refine T_iload (pc := 142) 5 dX5_cutUp_142 rfl ?_
      refine T_callPl (pc := 144) (rest := [.long (1000 : Int64), .int v2, .ref 21]) (Rn_A (pc := 144) (x := ⟨"CueRolls$Reader", "grown", "(JI)J"⟩) (as := [.long (0 : Int64), .int v5]) (rest := [.long (1000 : Int64), .int v2, .ref 21]) (ctX1_grown σ (0 : Int64) v5) rfl rfl mu_X1_Reader_X1_grown hw545 (by decide) rfl ⟨Nat.le_of_ble_eq_true rfl, Nat.le_of_ble_eq_true rfl⟩ (Nat.le_of_ble_eq_true rfl) dX5_cutUp_144 rfl) rfl (fun x8 => ?_)
      refine T_ladd (pc := 147) dX5_cutUp_147 ?_
      refine T_goto (pc := 148) 154 dX5_cutUp_148 (by decide) ?_
      refine T_last (pc := 154) rfl dX5_cutUp_154 ?_
      refine T_letS (fun s9 => ?_)
      refine T_aload_n (pc := 155) 0 dX5_cutUp_155 rfl rfl ?_
      refine T_getA (pc := 156) fd_4_1 hw238 dX5_cutUp_156 ?_
      refine T_iload_n (pc := 159) 2 dX5_cutUp_159 rfl rfl ?_
      refine T_iload (pc := 160) 4 dX5_cutUp_160 rfl ?_
      refine T_iast (pc := 162) rfl dX5_cutUp_162 ?_
      refine T_letS (fun s10 => ?_)
      refine T_iinc (pc := 163) (y := 1) (lv' := [(0, .ref 4), (1, .ref 1), (2, .int (v2 + (1 : Int32))), (3, .int v3), (4, .int v4), (5, .int v5), (6, .int v6), (7, .int t0)]) 2 dX5_cutUp_163 (by decide) rfl (Nat.le_of_ble_eq_true rfl) rfl ?_
      refine T_iload (pc := 166) 6 dX5_cutUp_166 rfl ?_
      refine T_if_eq (pc := 168) 177 dX5_cutUp_168 (by decide) (fun _ => ?_) (fun _ => ?_)
      · refine T_iconst (pc := 177) (v := 0) dX5_cutUp_177 (by decide) ?_
        refine T_istore_n (pc := 178) (lv' := [(0, .ref 4), (1, .ref 1), (2, .int (v2 + (1 : Int32))), (3, .int (0 : Int32)), (4, .int v4), (5, .int v5), (6, .int v6), (7, .int t0)]) dX5_cutUp_178 rfl (Nat.le_of_ble_eq_true rfl) rfl ?_
        refine T_iinc (pc := 179) (y := 1) (lv' := [(0, .ref 4), (1, .ref 1), (2, .int (v2 + (1 : Int32))), (3, .int (0 : Int32)), (4, .int (v4 + (1 : Int32))), (5, .int v5), (6, .int v6), (7, .int t0)]) 4 dX5_cutUp_179 (by decide) rfl (Nat.le_of_ble_eq_true rfl) rfl ?_
        refine T_goto (pc := 182) 7 dX5_cutUp_182 (by decide) ?_
        refine T_pick (lv' := [(0, .ref 4), (1, .ref 1), (2, .int (v2 + (1 : Int32))), (3, .int (0 : Int32)), (4, .int (v4 + (1 : Int32)))]) [0, 1, 2, 3, 4] rfl ?_
        exact hkb s10 (v2 + (1 : Int32)) (0 : Int32) (v4 + (1 : Int32))
      · refine T_iload_n (pc := 171) 3 dX5_cutUp_171 rfl rfl ?_
        refine T_iconst (pc := 172) (v := 1) dX5_cutUp_172 (by decide) ?_
        refine T_iadd (pc := 173) dX5_cutUp_173 ?_
        refine T_goto (pc := 174) 178 dX5_cutUp_174 (by decide) ?_
        refine T_letI (fun x11 => ?_)
        refine T_istore_n (pc := 178) (lv' := [(0, .ref 4), (1, .ref 1), (2, .int (v2 + (1 : Int32))), (3, .int x11), (4, .int v4), (5, .int v5), (6, .int v6), (7, .int t0)]) dX5_cutUp_178 rfl (Nat.le_of_ble_eq_true rfl) rfl ?_
        refine T_iinc (pc := 179) (y := 1) (lv' := [(0, .ref 4), (1, .ref 1), (2, .int (v2 + (1 : Int32))), (3, .int x11), (4, .int (v4 + (1 : Int32))), (5, .int v5), (6, .int v6), (7, .int t0)]) 4 dX5_cutUp_179 (by decide) rfl (Nat.le_of_ble_eq_true rfl) rfl ?_
        refine T_goto (pc := 182) 7 dX5_cutUp_182 (by decide) ?_
        refine T_pick (lv' := [(0, .ref 4), (1, .ref 1), (2, .int (v2 + (1 : Int32))), (3, .int x11), (4, .int (v4 + (1 : Int32)))]) [0, 1, 2, 3, 4] rfl ?_
        exact hkb s10 (v2 + (1 : Int32)) x11 (v4 + (1 : Int32))
  · refine T_ldc2 (pc := 126) hw562 dX5_cutUp_126 ?_
    refine T_goto (pc := 129) 154 dX5_cutUp_129 (by decide) ?_
    refine T_last (pc := 154) rfl dX5_cutUp_154 ?_
    refine T_letS (fun s12 => ?_)
    refine T_aload_n (pc := 155) 0 dX5_cutUp_155 rfl rfl ?_
    refine T_getA (pc := 156) fd_4_1 hw238 dX5_cutUp_156 ?_
    refine T_iload_n (pc := 159) 2 dX5_cutUp_159 rfl rfl ?_
    refine T_iload (pc := 160) 4 dX5_cutUp_160 rfl ?_
    refine T_iast (pc := 162) rfl dX5_cutUp_162 ?_
    refine T_letS (fun s13 => ?_)
    refine T_iinc (pc := 163) (y := 1) (lv' := [(0, .ref 4), (1, .ref 1), (2, .int (v2 + (1 : Int32))), (3, .int v3), (4, .int v4), (5, .int v5), (6, .int v6), (7, .int t0)]) 2 dX5_cutUp_163 (by decide) rfl (Nat.le_of_ble_eq_true rfl) rfl ?_
    refine T_iload (pc := 166) 6 dX5_cutUp_166 rfl ?_
    refine T_if_eq (pc := 168) 177 dX5_cutUp_168 (by decide) (fun _ => ?_) (fun _ => ?_)
    · refine T_iconst (pc := 177) (v := 0) dX5_cutUp_177 (by decide) ?_
      refine T_istore_n (pc := 178) (lv' := [(0, .ref 4), (1, .ref 1), (2, .int (v2 + (1 : Int32))), (3, .int (0 : Int32)), (4, .int v4), (5, .int v5), (6, .int v6), (7, .int t0)]) dX5_cutUp_178 rfl (Nat.le_of_ble_eq_true rfl) rfl ?_
      refine T_iinc (pc := 179) (y := 1) (lv' := [(0, .ref 4), (1, .ref 1), (2, .int (v2 + (1 : Int32))), (3, .int (0 : Int32)), (4, .int (v4 + (1 : Int32))), (5, .int v5), (6, .int v6), (7, .int t0)]) 4 dX5_cutUp_179 (by decide) rfl (Nat.le_of_ble_eq_true rfl) rfl ?_
      refine T_goto (pc := 182) 7 dX5_cutUp_182 (by decide) ?_
      refine T_pick (lv' := [(0, .ref 4), (1, .ref 1), (2, .int (v2 + (1 : Int32))), (3, .int (0 : Int32)), (4, .int (v4 + (1 : Int32)))]) [0, 1, 2, 3, 4] rfl ?_
      exact hkb s13 (v2 + (1 : Int32)) (0 : Int32) (v4 + (1 : Int32))
    · refine T_iload_n (pc := 171) 3 dX5_cutUp_171 rfl rfl ?_
      refine T_iconst (pc := 172) (v := 1) dX5_cutUp_172 (by decide) ?_
      refine T_iadd (pc := 173) dX5_cutUp_173 ?_
      refine T_goto (pc := 174) 178 dX5_cutUp_174 (by decide) ?_
      refine T_letI (fun x14 => ?_)
      refine T_istore_n (pc := 178) (lv' := [(0, .ref 4), (1, .ref 1), (2, .int (v2 + (1 : Int32))), (3, .int x14), (4, .int v4), (5, .int v5), (6, .int v6), (7, .int t0)]) dX5_cutUp_178 rfl (Nat.le_of_ble_eq_true rfl) rfl ?_
      refine T_iinc (pc := 179) (y := 1) (lv' := [(0, .ref 4), (1, .ref 1), (2, .int (v2 + (1 : Int32))), (3, .int x14), (4, .int (v4 + (1 : Int32))), (5, .int v5), (6, .int v6), (7, .int t0)]) 4 dX5_cutUp_179 (by decide) rfl (Nat.le_of_ble_eq_true rfl) rfl ?_
      refine T_goto (pc := 182) 7 dX5_cutUp_182 (by decide) ?_
      refine T_pick (lv' := [(0, .ref 4), (1, .ref 1), (2, .int (v2 + (1 : Int32))), (3, .int x14), (4, .int (v4 + (1 : Int32)))]) [0, 1, 2, 3, 4] rfl ?_
      exact hkb s13 (v2 + (1 : Int32)) x14 (v4 + (1 : Int32))
set_option maxRecDepth 100000 in
set_option maxHeartbeats 4000000 in
theorem fX5_cutUp_h_J93_T (σ : St) (v2 : Int32) (v3 : Int32) (v4 : Int32) (v5 : Int32) (v6 : Int32) {kb : St → Int32 → Int32 → Int32 → Option St} (hkb : ∀ (σ' : St) (w2 : Int32) (w3 : Int32) (w4 : Int32), T kX5_cutUp_h cSv σ' 7 [(0, .ref 4), (1, .ref 1), (2, .int w2), (3, .int w3), (4, .int w4)] [] (kb σ' w2 w3 w4)) : T kX5_cutUp_h cSv σ 93 [(0, .ref 4), (1, .ref 1), (2, .int v2), (3, .int v3), (4, .int v4), (5, .int v5), (6, .int v6)] [] (fX5_cutUp_h_J93 kb σ v2 v3 v4 v5 v6) := by
  unfold fX5_cutUp_h_J93
  refine T_iload (pc := 93) 5 dX5_cutUp_93 rfl ?_
  refine T_bipush (pc := 95) (v := 32) dX5_cutUp_95 (by decide) ?_
  refine T_icmp_eq (pc := 97) 166 dX5_cutUp_97 (by decide) (fun _ => ?_) (fun _ => ?_)
  · refine T_iload (pc := 166) 6 dX5_cutUp_166 rfl ?_
    refine T_if_eq (pc := 168) 177 dX5_cutUp_168 (by decide) (fun _ => ?_) (fun _ => ?_)
    · refine T_iconst (pc := 177) (v := 0) dX5_cutUp_177 (by decide) ?_
      refine T_istore_n (pc := 178) (lv' := [(0, .ref 4), (1, .ref 1), (2, .int v2), (3, .int (0 : Int32)), (4, .int v4), (5, .int v5), (6, .int v6)]) dX5_cutUp_178 rfl (Nat.le_of_ble_eq_true rfl) rfl ?_
      refine T_iinc (pc := 179) (y := 1) (lv' := [(0, .ref 4), (1, .ref 1), (2, .int v2), (3, .int (0 : Int32)), (4, .int (v4 + (1 : Int32))), (5, .int v5), (6, .int v6)]) 4 dX5_cutUp_179 (by decide) rfl (Nat.le_of_ble_eq_true rfl) rfl ?_
      refine T_goto (pc := 182) 7 dX5_cutUp_182 (by decide) ?_
      refine T_pick (lv' := [(0, .ref 4), (1, .ref 1), (2, .int v2), (3, .int (0 : Int32)), (4, .int (v4 + (1 : Int32)))]) [0, 1, 2, 3, 4] rfl ?_
      exact hkb σ v2 (0 : Int32) (v4 + (1 : Int32))
    · refine T_iload_n (pc := 171) 3 dX5_cutUp_171 rfl rfl ?_
      refine T_iconst (pc := 172) (v := 1) dX5_cutUp_172 (by decide) ?_
      refine T_iadd (pc := 173) dX5_cutUp_173 ?_
      refine T_goto (pc := 174) 178 dX5_cutUp_174 (by decide) ?_
      refine T_letI (fun x4 => ?_)
      refine T_istore_n (pc := 178) (lv' := [(0, .ref 4), (1, .ref 1), (2, .int v2), (3, .int x4), (4, .int v4), (5, .int v5), (6, .int v6)]) dX5_cutUp_178 rfl (Nat.le_of_ble_eq_true rfl) rfl ?_
      refine T_iinc (pc := 179) (y := 1) (lv' := [(0, .ref 4), (1, .ref 1), (2, .int v2), (3, .int x4), (4, .int (v4 + (1 : Int32))), (5, .int v5), (6, .int v6)]) 4 dX5_cutUp_179 (by decide) rfl (Nat.le_of_ble_eq_true rfl) rfl ?_
      refine T_goto (pc := 182) 7 dX5_cutUp_182 (by decide) ?_
      refine T_pick (lv' := [(0, .ref 4), (1, .ref 1), (2, .int v2), (3, .int x4), (4, .int (v4 + (1 : Int32)))]) [0, 1, 2, 3, 4] rfl ?_
      exact hkb σ v2 x4 (v4 + (1 : Int32))
  · refine T_iload (pc := 100) 6 dX5_cutUp_100 rfl ?_
    refine T_if_eq (pc := 102) 113 dX5_cutUp_102 (by decide) (fun _ => ?_) (fun _ => ?_)
    · refine T_iconst (pc := 113) (v := 0) dX5_cutUp_113 (by decide) ?_
      exact fX5_cutUp_h_J114_T (hkb := hkb) σ v2 v3 v4 v5 v6 (0 : Int32)
    · refine T_iload_n (pc := 105) 3 dX5_cutUp_105 rfl rfl ?_
      refine T_if_le (pc := 106) 113 dX5_cutUp_106 (by decide) (fun _ => ?_) (fun _ => ?_)
      · refine T_iconst (pc := 113) (v := 0) dX5_cutUp_113 (by decide) ?_
        exact fX5_cutUp_h_J114_T (hkb := hkb) σ v2 v3 v4 v5 v6 (0 : Int32)
      · refine T_iconst (pc := 109) (v := 1) dX5_cutUp_109 (by decide) ?_
        refine T_goto (pc := 110) 114 dX5_cutUp_110 (by decide) ?_
        exact fX5_cutUp_h_J114_T (hkb := hkb) σ v2 v3 v4 v5 v6 (1 : Int32)
set_option maxRecDepth 100000 in
set_option maxHeartbeats 4000000 in
theorem fX5_cutUp_h_L7_T (σ : St) {k1 : St → Int32 → Option St} {kb : St → Int32 → Int32 → Int32 → Option St} (hk1 : ∀ (σ' : St) (w2 : Int32), T kX5_cutUp_h cSv σ' 185 [(0, .ref 4), (1, .ref 1), (2, .int w2)] [] (k1 σ' w2)) (hkb : ∀ (σ' : St) (w2 : Int32) (w3 : Int32) (w4 : Int32), T kX5_cutUp_h cSv σ' 7 [(0, .ref 4), (1, .ref 1), (2, .int w2), (3, .int w3), (4, .int w4)] [] (kb σ' w2 w3 w4)) (v2 : Int32) (v3 : Int32) (v4 : Int32) : T kX5_cutUp_h cSv σ 7 [(0, .ref 4), (1, .ref 1), (2, .int v2), (3, .int v3), (4, .int v4)] [] (fX5_cutUp_h_L7 k1 kb σ v2 v3 v4) := by
  unfold fX5_cutUp_h_L7
  refine T_iload (pc := 7) 4 dX5_cutUp_7 rfl ?_
  refine T_aload_n (pc := 9) 1 dX5_cutUp_9 rfl rfl ?_
  refine T_callPi (pc := 10) (rest := [.int v4]) (Rn_V (pc := 10) (as := []) (rest := [.int v4]) (ctX9_size σ) rfl rfl mv_X9_size hw515 rfl ⟨Nat.le_of_ble_eq_true rfl, Nat.le_of_ble_eq_true rfl⟩ (Nat.le_of_ble_eq_true rfl) dX5_cutUp_10 rfl) rfl (fun x1 => ?_)
  refine T_icmp_ge (pc := 13) 185 dX5_cutUp_13 (by decide) (fun _ => ?_) (fun _ => ?_)
  · refine T_pick (lv' := [(0, .ref 4), (1, .ref 1), (2, .int v2)]) [0, 1, 2] rfl ?_
    exact hk1 σ v2
  · refine T_iload_n (pc := 16) 2 dX5_cutUp_16 rfl rfl ?_
    refine T_sipush (pc := 17) (v := 200) dX5_cutUp_17 (by decide) ?_
    refine T_icmp_ge (pc := 20) 185 dX5_cutUp_20 (by decide) (fun _ => ?_) (fun _ => ?_)
    · refine T_pick (lv' := [(0, .ref 4), (1, .ref 1), (2, .int v2)]) [0, 1, 2] rfl ?_
      exact hk1 σ v2
    · refine T_aload_n (pc := 23) 1 dX5_cutUp_23 rfl rfl ?_
      refine T_iload (pc := 24) 4 dX5_cutUp_24 rfl ?_
      refine T_callPi (pc := 26) (rest := []) (Rn_V (pc := 26) (as := [.int v4]) (rest := []) (ctX9_at σ v4) rfl rfl mv_X9_at hw516 rfl ⟨Nat.le_of_ble_eq_true rfl, Nat.le_of_ble_eq_true rfl⟩ (Nat.le_of_ble_eq_true rfl) dX5_cutUp_26 rfl) rfl (fun x2 => ?_)
      refine T_istore (pc := 29) (lv' := [(0, .ref 4), (1, .ref 1), (2, .int v2), (3, .int v3), (4, .int v4), (5, .int x2)]) dX5_cutUp_29 (Nat.le_of_ble_eq_true rfl) rfl ?_
      refine T_aload_n (pc := 31) 0 dX5_cutUp_31 rfl rfl ?_
      refine T_iload (pc := 32) 5 dX5_cutUp_32 rfl ?_
      refine T_callPz (pc := 34) (rest := []) (Rn_A (pc := 34) (x := ⟨"CueRolls$Reader", "joins", "(I)Z"⟩) (as := [.int x2]) (rest := []) (ctX1_joins σ x2) rfl rfl mu_X1_Reader_X1_joins hw520 (by decide) rfl ⟨Nat.le_of_ble_eq_true rfl, Nat.le_of_ble_eq_true rfl⟩ (Nat.le_of_ble_eq_true rfl) dX5_cutUp_34 rfl) rfl (fun x3 => ?_)
      refine T_istore (pc := 37) (lv' := [(0, .ref 4), (1, .ref 1), (2, .int v2), (3, .int v3), (4, .int v4), (5, .int x2), (6, .int (bi x3))]) dX5_cutUp_37 (Nat.le_of_ble_eq_true rfl) rfl ?_
      refine T_iload (pc := 39) 6 dX5_cutUp_39 rfl ?_
      refine T_if_eq (pc := 41) 93 dX5_cutUp_41 (by decide) (fun _ => ?_) (fun _ => ?_)
      · exact fX5_cutUp_h_J93_T (hkb := hkb) σ v2 v3 v4 x2 (bi x3)
      · refine T_iload_n (pc := 44) 3 dX5_cutUp_44 rfl rfl ?_
        refine T_if_le (pc := 45) 93 dX5_cutUp_45 (by decide) (fun _ => ?_) (fun _ => ?_)
        · exact fX5_cutUp_h_J93_T (hkb := hkb) σ v2 v3 v4 x2 (bi x3)
        · refine T_iload_n (pc := 48) 3 dX5_cutUp_48 rfl rfl ?_
          refine T_aload_n (pc := 49) 0 dX5_cutUp_49 rfl rfl ?_
          refine T_callPi (pc := 50) (rest := [.int v3]) (Rn_A (pc := 50) (x := ⟨"CueRolls$Reader", "mostJoined", "()I"⟩) (as := []) (rest := [.int v3]) (ctX1_mostJoined σ) rfl rfl mu_X1_Reader_X1_mostJoined hw532 (by decide) rfl ⟨Nat.le_of_ble_eq_true rfl, Nat.le_of_ble_eq_true rfl⟩ (Nat.le_of_ble_eq_true rfl) dX5_cutUp_50 rfl) rfl (fun x15 => ?_)
          refine T_icmp_ge (pc := 53) 93 dX5_cutUp_53 (by decide) (fun _ => ?_) (fun _ => ?_)
          · exact fX5_cutUp_h_J93_T (hkb := hkb) σ v2 v3 v4 x2 (bi x3)
          · refine T_iload_n (pc := 56) 2 dX5_cutUp_56 rfl rfl ?_
            refine T_if_le (pc := 57) 93 dX5_cutUp_57 (by decide) (fun _ => ?_) (fun _ => ?_)
            · exact fX5_cutUp_h_J93_T (hkb := hkb) σ v2 v3 v4 x2 (bi x3)
            · refine T_aload_n (pc := 60) 0 dX5_cutUp_60 rfl rfl ?_
              refine T_getA (pc := 61) fd_4_0 hw237 dX5_cutUp_61 ?_
              refine T_iload_n (pc := 64) 2 dX5_cutUp_64 rfl rfl ?_
              refine T_iconst (pc := 65) (v := 1) dX5_cutUp_65 (by decide) ?_
              refine T_isub (pc := 66) dX5_cutUp_66 ?_
              refine T_ldc2 (pc := 67) hw544 dX5_cutUp_67 ?_
              refine T_aload_n (pc := 70) 0 dX5_cutUp_70 rfl rfl ?_
              refine T_aload_n (pc := 71) 0 dX5_cutUp_71 rfl rfl ?_
              refine T_getA (pc := 72) fd_4_0 hw237 dX5_cutUp_72 ?_
              refine T_iload_n (pc := 75) 2 dX5_cutUp_75 rfl rfl ?_
              refine T_iconst (pc := 76) (v := 1) dX5_cutUp_76 (by decide) ?_
              refine T_isub (pc := 77) dX5_cutUp_77 ?_
              refine T_lald (pc := 78) rfl dX5_cutUp_78 (fun x16 => ?_)
              refine T_ldc2 (pc := 79) hw544 dX5_cutUp_79 ?_
              refine T_lsub (pc := 82) dX5_cutUp_82 ?_
              refine T_iload (pc := 83) 5 dX5_cutUp_83 rfl ?_
              refine T_callPl (pc := 85) (rest := [.long (1000 : Int64), .int (v2 - (1 : Int32)), .ref 21]) (Rn_A (pc := 85) (x := ⟨"CueRolls$Reader", "grown", "(JI)J"⟩) (as := [.long (x16 - (1000 : Int64)), .int x2]) (rest := [.long (1000 : Int64), .int (v2 - (1 : Int32)), .ref 21]) (ctX1_grown σ (x16 - (1000 : Int64)) x2) rfl rfl mu_X1_Reader_X1_grown hw545 (by decide) rfl ⟨Nat.le_of_ble_eq_true rfl, Nat.le_of_ble_eq_true rfl⟩ (Nat.le_of_ble_eq_true rfl) dX5_cutUp_85 rfl) rfl (fun x17 => ?_)
              refine T_ladd (pc := 88) dX5_cutUp_88 ?_
              refine T_last (pc := 89) rfl dX5_cutUp_89 ?_
              refine T_letS (fun s18 => ?_)
              refine T_goto (pc := 90) 166 dX5_cutUp_90 (by decide) ?_
              refine T_iload (pc := 166) 6 dX5_cutUp_166 rfl ?_
              refine T_if_eq (pc := 168) 177 dX5_cutUp_168 (by decide) (fun _ => ?_) (fun _ => ?_)
              · refine T_iconst (pc := 177) (v := 0) dX5_cutUp_177 (by decide) ?_
                refine T_istore_n (pc := 178) (lv' := [(0, .ref 4), (1, .ref 1), (2, .int v2), (3, .int (0 : Int32)), (4, .int v4), (5, .int x2), (6, .int (bi x3))]) dX5_cutUp_178 rfl (Nat.le_of_ble_eq_true rfl) rfl ?_
                refine T_iinc (pc := 179) (y := 1) (lv' := [(0, .ref 4), (1, .ref 1), (2, .int v2), (3, .int (0 : Int32)), (4, .int (v4 + (1 : Int32))), (5, .int x2), (6, .int (bi x3))]) 4 dX5_cutUp_179 (by decide) rfl (Nat.le_of_ble_eq_true rfl) rfl ?_
                refine T_goto (pc := 182) 7 dX5_cutUp_182 (by decide) ?_
                refine T_pick (lv' := [(0, .ref 4), (1, .ref 1), (2, .int v2), (3, .int (0 : Int32)), (4, .int (v4 + (1 : Int32)))]) [0, 1, 2, 3, 4] rfl ?_
                exact hkb s18 v2 (0 : Int32) (v4 + (1 : Int32))
              · refine T_iload_n (pc := 171) 3 dX5_cutUp_171 rfl rfl ?_
                refine T_iconst (pc := 172) (v := 1) dX5_cutUp_172 (by decide) ?_
                refine T_iadd (pc := 173) dX5_cutUp_173 ?_
                refine T_goto (pc := 174) 178 dX5_cutUp_174 (by decide) ?_
                refine T_letI (fun x19 => ?_)
                refine T_istore_n (pc := 178) (lv' := [(0, .ref 4), (1, .ref 1), (2, .int v2), (3, .int x19), (4, .int v4), (5, .int x2), (6, .int (bi x3))]) dX5_cutUp_178 rfl (Nat.le_of_ble_eq_true rfl) rfl ?_
                refine T_iinc (pc := 179) (y := 1) (lv' := [(0, .ref 4), (1, .ref 1), (2, .int v2), (3, .int x19), (4, .int (v4 + (1 : Int32))), (5, .int x2), (6, .int (bi x3))]) 4 dX5_cutUp_179 (by decide) rfl (Nat.le_of_ble_eq_true rfl) rfl ?_
                refine T_goto (pc := 182) 7 dX5_cutUp_182 (by decide) ?_
                refine T_pick (lv' := [(0, .ref 4), (1, .ref 1), (2, .int v2), (3, .int x19), (4, .int (v4 + (1 : Int32)))]) [0, 1, 2, 3, 4] rfl ?_
                exact hkb s18 v2 x19 (v4 + (1 : Int32))
set_option maxRecDepth 100000 in
set_option maxHeartbeats 4000000 in
theorem fX5_cutUp_h_P7_T (σ : St) {k1 : St → Int32 → Option St} (hk1 : ∀ (σ' : St) (w2 : Int32), T kX5_cutUp_h cSv σ' 185 [(0, .ref 4), (1, .ref 1), (2, .int w2)] [] (k1 σ' w2)) (v2 : Int32) (v3 : Int32) (v4 : Int32) : T kX5_cutUp_h cSv σ 7 [(0, .ref 4), (1, .ref 1), (2, .int v2), (3, .int v3), (4, .int v4)] [] (fX5_cutUp_h_P7 k1 σ v2 v3 v4) :=
  it_T (S := (fun t : St × Int32 × Int32 × Int32 => t.1)) (lv := fun t : St × Int32 × Int32 × Int32 => [(0, .ref 4), (1, .ref 1), (2, .int t.2.1), (3, .int t.2.2.1), (4, .int t.2.2.2)]) (st := fun _ => []) (fun kb hkb t => fX5_cutUp_h_L7_T (hk1 := hk1) (hkb := fun σ v2 v3 v4 => hkb (σ, v2, v3, v4)) t.1 t.2.1 t.2.2.1 t.2.2.2) FU (σ, v2, v3, v4)
set_option maxRecDepth 100000 in
set_option maxHeartbeats 4000000 in
theorem ctX5_cutUp_h (σ : St) : Ct yX5_cutUp kX5_cutUp_h [.ref 4, .ref 1] σ cSv (fX5_cutUp_h σ) := by
  refine Ct.of (by decide +kernel) rfl rfl (Nat.le_of_ble_eq_true rfl) ?_
  unfold fX5_cutUp_h
  show T _ _ _ 0 [(0, .ref 4), (1, .ref 1)] [] _
  refine T_iconst (pc := 0) (v := 0) dX5_cutUp_0 (by decide) ?_
  refine T_istore_n (pc := 1) (lv' := [(0, .ref 4), (1, .ref 1), (2, .int (0 : Int32))]) dX5_cutUp_1 rfl (Nat.le_of_ble_eq_true rfl) rfl ?_
  refine T_iconst (pc := 2) (v := 0) dX5_cutUp_2 (by decide) ?_
  refine T_istore_n (pc := 3) (lv' := [(0, .ref 4), (1, .ref 1), (2, .int (0 : Int32)), (3, .int (0 : Int32))]) dX5_cutUp_3 rfl (Nat.le_of_ble_eq_true rfl) rfl ?_
  refine T_iconst (pc := 4) (v := 0) dX5_cutUp_4 (by decide) ?_
  refine T_istore (pc := 5) (lv' := [(0, .ref 4), (1, .ref 1), (2, .int (0 : Int32)), (3, .int (0 : Int32)), (4, .int (0 : Int32))]) dX5_cutUp_5 (Nat.le_of_ble_eq_true rfl) rfl ?_
  refine fX5_cutUp_h_P7_T (hk1 := fun s20 x21 => ?_) σ (0 : Int32) (0 : Int32) (0 : Int32)
  · refine T_aload_n (pc := 185) 0 dX5_cutUp_185 rfl rfl ?_
    refine T_getA (pc := 186) fd_4_0 hw237 dX5_cutUp_186 ?_
    refine T_iload_n (pc := 189) 2 dX5_cutUp_189 rfl rfl ?_
    refine T_ldc2 (pc := 190) hw563 dX5_cutUp_190 ?_
    refine T_last (pc := 193) rfl dX5_cutUp_193 ?_
    refine T_letS (fun s22 => ?_)
    refine T_aload_n (pc := 194) 0 dX5_cutUp_194 rfl rfl ?_
    refine T_getA (pc := 195) fd_4_1 hw238 dX5_cutUp_195 ?_
    refine T_iload_n (pc := 198) 2 dX5_cutUp_198 rfl rfl ?_
    refine T_aload_n (pc := 199) 1 dX5_cutUp_199 rfl rfl ?_
    refine T_callPi (pc := 200) (rest := [.int x21, .ref 22]) (Rn_V (pc := 200) (as := []) (rest := [.int x21, .ref 22]) (ctX9_size s22) rfl rfl mv_X9_size hw515 rfl ⟨Nat.le_of_ble_eq_true rfl, Nat.le_of_ble_eq_true rfl⟩ (Nat.le_of_ble_eq_true rfl) dX5_cutUp_200 rfl) rfl (fun x23 => ?_)
    refine T_iast (pc := 203) rfl dX5_cutUp_203 ?_
    refine T_letS (fun s24 => ?_)
    exact T_return (pc := 204) rfl dX5_cutUp_204 rfl
set_option maxRecDepth 100000 in
set_option maxHeartbeats 4000000 in
theorem ctX5_begin_h_21 (σ : St) : Ct yX5_begin kX5_begin_h_21 [.ref 4, .ref 21] σ cSv (fX5_begin_h_21 σ) := by
  refine Ct.of (by decide +kernel) rfl rfl (Nat.le_of_ble_eq_true rfl) ?_
  unfold fX5_begin_h_21
  show T _ _ _ 0 [(0, .ref 4), (1, .ref 21)] [] _
  refine T_aload_n (pc := 0) 0 dX5_begin_0 rfl rfl ?_
  refine T_aload_n (pc := 1) 1 dX5_begin_1 rfl rfl ?_
  refine T_putR (pc := 2) fd_4_2 hw239 dX5_begin_2 rfl ?_
  refine T_letS (fun s1 => ?_)
  refine T_aload_n (pc := 5) 0 dX5_begin_5 rfl rfl ?_
  refine T_iconst (pc := 6) (v := 0) dX5_begin_6 (by decide) ?_
  refine T_putI (pc := 7) fd_4_3 hw240 dX5_begin_7 ?_
  refine T_letS (fun s2 => ?_)
  refine T_aload_n (pc := 10) 0 dX5_begin_10 rfl rfl ?_
  refine T_iconst (pc := 11) (v := -1) dX5_begin_11 (by decide) ?_
  refine T_putI (pc := 12) fd_4_4 hw241 dX5_begin_12 ?_
  refine T_letS (fun s3 => ?_)
  exact T_return (pc := 15) rfl dX5_begin_15 rfl
set_option maxRecDepth 100000 in
set_option maxHeartbeats 4000000 in
theorem ctX5_sign_h (σ : St) : Ct yX5_sign kX5_sign_h [.ref 4] σ (cPi σ) (fX5_sign_h σ) := by
  refine Ct.of (by decide +kernel) rfl rfl (Nat.le_of_ble_eq_true rfl) ?_
  unfold fX5_sign_h
  show T _ _ _ 0 [(0, .ref 4)] [] _
  refine T_aload_n (pc := 0) 0 dX5_sign_0 rfl rfl ?_
  refine T_getI (pc := 1) fd_4_4 hw241 dX5_sign_1 ?_
  refine T_iconst (pc := 4) (v := -1) dX5_sign_4 (by decide) ?_
  refine T_icmp_ne (pc := 5) 34 dX5_sign_5 (by decide) (fun _ => ?_) (fun _ => ?_)
  · refine T_sipush (pc := 34) (v := 257) dX5_sign_34 (by decide) ?_
    exact T_ireturn (pc := 37) rfl dX5_sign_37 rfl
  · refine T_aload_n (pc := 8) 0 dX5_sign_8 rfl rfl ?_
    refine T_getR (pc := 9) fd_4_2 hw239 dX5_sign_9 ?_
    refine T_ifnull_r (pc := 12) dX5_sign_12 ?_
    refine T_aload_n (pc := 15) 0 dX5_sign_15 rfl rfl ?_
    refine T_getI (pc := 16) fd_4_3 hw240 dX5_sign_16 ?_
    refine T_if_lt (pc := 19) 34 dX5_sign_19 (by decide) (fun _ => ?_) (fun _ => ?_)
    · refine T_sipush (pc := 34) (v := 257) dX5_sign_34 (by decide) ?_
      exact T_ireturn (pc := 37) rfl dX5_sign_37 rfl
    · refine T_aload_n (pc := 22) 0 dX5_sign_22 rfl rfl ?_
      refine T_getI (pc := 23) fd_4_3 hw240 dX5_sign_23 ?_
      refine T_aload_n (pc := 26) 0 dX5_sign_26 rfl rfl ?_
      refine T_getR (pc := 27) fd_4_2 hw239 dX5_sign_27 ?_
      refine T_alenX (pc := 30) dX5_sign_30 ?_
      refine T_icmp_lt (pc := 31) 38 dX5_sign_31 (by decide) (fun _ => ?_) (fun _ => ?_)
      · refine T_aload_n (pc := 38) 0 dX5_sign_38 rfl rfl ?_
        refine T_getR (pc := 39) fd_4_2 hw239 dX5_sign_39 ?_
        refine T_aload_n (pc := 42) 0 dX5_sign_42 rfl rfl ?_
        refine T_getI (pc := 43) fd_4_3 hw240 dX5_sign_43 ?_
        refine T_laldX (pc := 46) dX5_sign_46 (fun x1 => ?_)
        refine T_ldc2 (pc := 47) hw544 dX5_sign_47 ?_
        refine T_lcmp (pc := 50) dX5_sign_50 ?_
        refine T_if_lt (pc := 51) 60 dX5_sign_51 (by decide) (fun _ => ?_) (fun _ => ?_)
        · refine T_aload_n (pc := 60) 0 dX5_sign_60 rfl rfl ?_
          refine T_getR (pc := 61) fd_4_2 hw239 dX5_sign_61 ?_
          refine T_aload_n (pc := 64) 0 dX5_sign_64 rfl rfl ?_
          refine T_getI (pc := 65) fd_4_3 hw240 dX5_sign_65 ?_
          refine T_laldX (pc := 68) dX5_sign_68 (fun x2 => ?_)
          refine T_l2i (pc := 69) dX5_sign_69 ?_
          exact T_ireturn (pc := 70) rfl dX5_sign_70 rfl
        · refine T_sipush (pc := 54) (v := 1000) dX5_sign_54 (by decide) ?_
          refine T_goto (pc := 57) 70 dX5_sign_57 (by decide) ?_
          exact T_ireturn (pc := 70) rfl dX5_sign_70 rfl
      · refine T_sipush (pc := 34) (v := 257) dX5_sign_34 (by decide) ?_
        exact T_ireturn (pc := 37) rfl dX5_sign_37 rfl
set_option maxRecDepth 100000 in
set_option maxHeartbeats 4000000 in
theorem ctX5_spoil_h (σ : St) : Ct yX5_spoil kX5_spoil_h [.ref 4] σ cSv (fX5_spoil_h σ) := by
  refine Ct.of (by decide +kernel) rfl rfl (Nat.le_of_ble_eq_true rfl) ?_
  unfold fX5_spoil_h
  show T _ _ _ 0 [(0, .ref 4)] [] _
  refine T_aload_n (pc := 0) 0 dX5_spoil_0 rfl rfl ?_
  refine T_getI (pc := 1) fd_4_4 hw241 dX5_spoil_1 ?_
  refine T_iconst (pc := 4) (v := -1) dX5_spoil_4 (by decide) ?_
  refine T_icmp_ne (pc := 5) 40 dX5_spoil_5 (by decide) (fun _ => ?_) (fun _ => ?_)
  · exact T_return (pc := 40) rfl dX5_spoil_40 rfl
  · refine T_aload_n (pc := 8) 0 dX5_spoil_8 rfl rfl ?_
    refine T_getI (pc := 9) fd_4_3 hw240 dX5_spoil_9 ?_
    refine T_if_lt (pc := 12) 40 dX5_spoil_12 (by decide) (fun _ => ?_) (fun _ => ?_)
    · exact T_return (pc := 40) rfl dX5_spoil_40 rfl
    · refine T_aload_n (pc := 15) 0 dX5_spoil_15 rfl rfl ?_
      refine T_getI (pc := 16) fd_4_3 hw240 dX5_spoil_16 ?_
      refine T_aload_n (pc := 19) 0 dX5_spoil_19 rfl rfl ?_
      refine T_getA (pc := 20) fd_4_1 hw238 dX5_spoil_20 ?_
      refine T_alen (pc := 23) (v := 201) rfl (by decide) dX5_spoil_23 ?_
      refine T_icmp_ge (pc := 24) 40 dX5_spoil_24 (by decide) (fun _ => ?_) (fun _ => ?_)
      · exact T_return (pc := 40) rfl dX5_spoil_40 rfl
      · refine T_aload_n (pc := 27) 0 dX5_spoil_27 rfl rfl ?_
        refine T_aload_n (pc := 28) 0 dX5_spoil_28 rfl rfl ?_
        refine T_getA (pc := 29) fd_4_1 hw238 dX5_spoil_29 ?_
        refine T_aload_n (pc := 32) 0 dX5_spoil_32 rfl rfl ?_
        refine T_getI (pc := 33) fd_4_3 hw240 dX5_spoil_33 ?_
        refine T_iald (pc := 36) rfl dX5_spoil_36 (fun x1 => ?_)
        refine T_putI (pc := 37) fd_4_4 hw241 dX5_spoil_37 ?_
        refine T_letS (fun s2 => ?_)
        exact T_return (pc := 40) rfl dX5_spoil_40 rfl
set_option maxRecDepth 100000 in
set_option maxHeartbeats 4000000 in
theorem ctX5_needs_h (σ : St) (p0 : Int32) : Ct yX5_needs kX5_needs_h [.ref 4, .int p0] σ cSv (fX5_needs_h σ p0) := by
  refine Ct.of (by decide +kernel) rfl rfl (Nat.le_of_ble_eq_true rfl) ?_
  unfold fX5_needs_h
  show T _ _ _ 0 [(0, .ref 4), (1, .int p0)] [] _
  refine T_aload_n (pc := 0) 0 dX5_needs_0 rfl rfl ?_
  refine T_callPi (pc := 1) (rest := []) (Rn_U (pc := 1) (x := ⟨"CueRolls$Reader", "sign", "()I"⟩) (as := []) (rest := []) (ctX5_sign_h σ) rfl rfl mu_X1_Reader_X5_sign hw583 rfl rfl ⟨Nat.le_of_ble_eq_true rfl, Nat.le_of_ble_eq_true rfl⟩ (Nat.le_of_ble_eq_true rfl) dX5_needs_1 rfl) rfl (fun x1 => ?_)
  refine T_iload_n (pc := 4) 1 dX5_needs_4 rfl rfl ?_
  refine T_icmp_ne (pc := 5) 21 dX5_needs_5 (by decide) (fun _ => ?_) (fun _ => ?_)
  · refine T_aload_n (pc := 21) 0 dX5_needs_21 rfl rfl ?_
    refine T_callSv (pc := 22) (rest := []) (Rn_U (pc := 22) (x := ⟨"CueRolls$Reader", "spoil", "()V"⟩) (as := []) (rest := []) (ctX5_spoil_h σ) rfl rfl mu_X1_Reader_X5_spoil hw590 rfl rfl ⟨Nat.le_of_ble_eq_true rfl, Nat.le_of_ble_eq_true rfl⟩ (Nat.le_of_ble_eq_true rfl) dX5_needs_22 rfl) rfl (fun s2 => ?_)
    exact T_return (pc := 25) rfl dX5_needs_25 rfl
  · refine T_aload_n (pc := 8) 0 dX5_needs_8 rfl rfl ?_
    refine T_dup_a (pc := 9) dX5_needs_9 ?_
    refine T_getI (pc := 10) fd_4_3 hw240 dX5_needs_10 ?_
    refine T_iconst (pc := 13) (v := 1) dX5_needs_13 (by decide) ?_
    refine T_iadd (pc := 14) dX5_needs_14 ?_
    refine T_putI (pc := 15) fd_4_3 hw240 dX5_needs_15 ?_
    refine T_letS (fun s3 => ?_)
    refine T_goto (pc := 18) 25 dX5_needs_18 (by decide) ?_
    exact T_return (pc := 25) rfl dX5_needs_25 rfl
set_option maxRecDepth 100000 in
set_option maxHeartbeats 4000000 in
theorem ctX1_letterValue (σ : St) (p0 : Int32) : Ct yX1_letterValue kX1_letterValue [.ref 4, .int p0] σ (cPi σ) (fX1_letterValue σ p0) := by
  refine Ct.of (by decide +kernel) rfl rfl (Nat.le_of_ble_eq_true rfl) ?_
  unfold fX1_letterValue
  show T _ _ _ 0 [(0, .ref 4), (1, .int p0)] [] _
  refine T_iload_n (pc := 0) 1 dX1_letterValue_0 rfl rfl ?_
  refine T_ite (fun h102 => ?_) (fun h102 => ?_)
  · refine T_look (pc := 1) (off := 61) 62 dX1_letterValue_1 (by decide) (by rw [h102]; rfl) (by decide) ?_
    refine T_aload_n (pc := 62) 0 dX1_letterValue_62 rfl rfl ?_
    refine T_getI (pc := 63) fd_4_10 hw294 dX1_letterValue_63 ?_
    exact T_ireturn (pc := 66) rfl dX1_letterValue_66 rfl
  · refine T_ite (fun h108 => ?_) (fun h108 => ?_)
    · refine T_look (pc := 1) (off := 66) 67 dX1_letterValue_1 (by decide) (by rw [h108]; rfl) (by decide) ?_
      refine T_aload_n (pc := 67) 0 dX1_letterValue_67 rfl rfl ?_
      refine T_getJ (pc := 68) fd_4_7 hw291 dX1_letterValue_68 ?_
      refine T_iconst (pc := 71) (v := 0) dX1_letterValue_71 (by decide) ?_
      refine T_callPi (pc := 72) (rest := []) (Rn_S (pc := 72) (as := [.long (zJ σ 0), .int (0 : Int32)]) (rest := []) (ctX10_letter σ (zJ σ 0) (0 : Int32)) ms_X10_letter hw629 rfl ⟨Nat.le_of_ble_eq_true rfl, Nat.le_of_ble_eq_true rfl⟩ (Nat.le_of_ble_eq_true rfl) dX1_letterValue_72 rfl) rfl (fun x1 => ?_)
      exact T_ireturn (pc := 75) rfl dX1_letterValue_75 rfl
    · refine T_ite (fun h110 => ?_) (fun h110 => ?_)
      · refine T_look (pc := 1) (off := 51) 52 dX1_letterValue_1 (by decide) (by rw [h110]; rfl) (by decide) ?_
        refine T_aload_n (pc := 52) 0 dX1_letterValue_52 rfl rfl ?_
        refine T_getI (pc := 53) fd_4_8 hw292 dX1_letterValue_53 ?_
        exact T_ireturn (pc := 56) rfl dX1_letterValue_56 rfl
      · refine T_ite (fun h118 => ?_) (fun h118 => ?_)
        · refine T_look (pc := 1) (off := 56) 57 dX1_letterValue_1 (by decide) (by rw [h118]; rfl) (by decide) ?_
          refine T_aload_n (pc := 57) 0 dX1_letterValue_57 rfl rfl ?_
          refine T_getI (pc := 58) fd_4_9 hw293 dX1_letterValue_58 ?_
          exact T_ireturn (pc := 61) rfl dX1_letterValue_61 rfl
        · refine T_ite (fun h119 => ?_) (fun h119 => ?_)
          · refine T_look (pc := 1) (off := 75) 76 dX1_letterValue_1 (by decide) (by rw [h119]; rfl) (by decide) ?_
            refine T_aload_n (pc := 76) 0 dX1_letterValue_76 rfl rfl ?_
            refine T_getI (pc := 77) fd_4_11 hw295 dX1_letterValue_77 ?_
            exact T_ireturn (pc := 80) rfl dX1_letterValue_80 rfl
          · refine T_look (pc := 1) (off := 80) 81 dX1_letterValue_1 (by decide) (by show Op.lookupswitch.offset [(102, 61), (108, 66), (110, 51), (118, 56), (119, 75)] _ _ = _; rw [lv_osw (a := 102) (k := 102) h102 (by decide), lv_osw (a := 108) (k := 108) h108 (by decide), lv_osw (a := 110) (k := 110) h110 (by decide), lv_osw (a := 118) (k := 118) h118 (by decide), lv_osw (a := 119) (k := 119) h119 (by decide)]; rfl) (by decide) ?_
            refine T_iconst (pc := 81) (v := -1) dX1_letterValue_81 (by decide) ?_
            exact T_ireturn (pc := 82) rfl dX1_letterValue_82 rfl
set_option maxRecDepth 100000 in
set_option maxHeartbeats 4000000 in
theorem ctX5_step_h (σ : St) : Ct yX5_step kX5_step_h [.ref 4] σ cSv (fX5_step_h σ) := by
  refine Ct.of (by decide +kernel) rfl rfl (Nat.le_of_ble_eq_true rfl) ?_
  unfold fX5_step_h
  show T _ _ _ 0 [(0, .ref 4)] [] _
  refine T_aload_n (pc := 0) 0 dX5_step_0 rfl rfl ?_
  refine T_dup_a (pc := 1) dX5_step_1 ?_
  refine T_getI (pc := 2) fd_4_3 hw240 dX5_step_2 ?_
  refine T_iconst (pc := 5) (v := 1) dX5_step_5 (by decide) ?_
  refine T_iadd (pc := 6) dX5_step_6 ?_
  refine T_putI (pc := 7) fd_4_3 hw240 dX5_step_7 ?_
  refine T_letS (fun s1 => ?_)
  exact T_return (pc := 10) rfl dX5_step_10 rfl
set_option maxRecDepth 100000 in
set_option maxHeartbeats 4000000 in
theorem ctX5_value_h (σ : St) : Ct yX5_value kX5_value_h [.ref 4] σ (cPl σ) (fX5_value_h σ) := by
  refine Ct.of (by decide +kernel) rfl rfl (Nat.le_of_ble_eq_true rfl) ?_
  unfold fX5_value_h
  show T _ _ _ 0 [(0, .ref 4)] [] _
  refine T_aload_n (pc := 0) 0 dX5_value_0 rfl rfl ?_
  refine T_getR (pc := 1) fd_4_2 hw239 dX5_value_1 ?_
  refine T_ifnull_r (pc := 4) dX5_value_4 ?_
  refine T_aload_n (pc := 7) 0 dX5_value_7 rfl rfl ?_
  refine T_getI (pc := 8) fd_4_3 hw240 dX5_value_8 ?_
  refine T_if_lt (pc := 11) 42 dX5_value_11 (by decide) (fun _ => ?_) (fun _ => ?_)
  · refine T_lconst (pc := 42) (v := 0) dX5_value_42 (by decide) ?_
    exact T_lreturn (pc := 43) rfl dX5_value_43 rfl
  · refine T_aload_n (pc := 14) 0 dX5_value_14 rfl rfl ?_
    refine T_getI (pc := 15) fd_4_3 hw240 dX5_value_15 ?_
    refine T_aload_n (pc := 18) 0 dX5_value_18 rfl rfl ?_
    refine T_getR (pc := 19) fd_4_2 hw239 dX5_value_19 ?_
    refine T_alenX (pc := 22) dX5_value_22 ?_
    refine T_icmp_ge (pc := 23) 42 dX5_value_23 (by decide) (fun _ => ?_) (fun _ => ?_)
    · refine T_lconst (pc := 42) (v := 0) dX5_value_42 (by decide) ?_
      exact T_lreturn (pc := 43) rfl dX5_value_43 rfl
    · refine T_aload_n (pc := 26) 0 dX5_value_26 rfl rfl ?_
      refine T_getR (pc := 27) fd_4_2 hw239 dX5_value_27 ?_
      refine T_aload_n (pc := 30) 0 dX5_value_30 rfl rfl ?_
      refine T_getI (pc := 31) fd_4_3 hw240 dX5_value_31 ?_
      refine T_laldX (pc := 34) dX5_value_34 (fun x1 => ?_)
      refine T_ldc2 (pc := 35) hw544 dX5_value_35 ?_
      refine T_lsub (pc := 38) dX5_value_38 ?_
      refine T_goto (pc := 39) 43 dX5_value_39 (by decide) ?_
      exact T_lreturn (pc := 43) rfl dX5_value_43 rfl
set_option maxRecDepth 100000 in
set_option maxHeartbeats 4000000 in
theorem ctJ9_min_f86c9 (σ : St) (p0 : Int64) (p1 : Int64) : Ct yJ9_min_f86c9 kJ9_min_f86c9 [.long p0, .long p1] σ (cPl σ) (fJ9_min_f86c9 p0 p1) := by
  refine Ct.ofJ (by decide +kernel) rfl rfl (Nat.le_of_ble_eq_true rfl) ?_
  unfold fJ9_min_f86c9
  show T _ _ _ 0 [(0, .long p0), (2, .long p1)] [] _
  refine T_lload_n (pc := 0) 0 dJ9_min_f86c9_0 rfl rfl ?_
  refine T_lload_n (pc := 1) 1 dJ9_min_f86c9_1 rfl rfl ?_
  refine T_lcmp (pc := 2) dJ9_min_f86c9_2 ?_
  refine T_if_gt (pc := 3) 10 dJ9_min_f86c9_3 (by decide) (fun _ => ?_) (fun _ => ?_)
  · refine T_lload_n (pc := 10) 1 dJ9_min_f86c9_10 rfl rfl ?_
    exact T_lreturn (pc := 11) rfl dJ9_min_f86c9_11 rfl
  · refine T_lload_n (pc := 6) 0 dJ9_min_f86c9_6 rfl rfl ?_
    refine T_goto (pc := 7) 11 dJ9_min_f86c9_7 (by decide) ?_
    exact T_lreturn (pc := 11) rfl dJ9_min_f86c9_11 rfl
set_option maxRecDepth 100000 in
set_option maxHeartbeats 4000000 in
theorem ctJ9_max_f86c9 (σ : St) (p0 : Int64) (p1 : Int64) : Ct yJ9_max_f86c9 kJ9_max_f86c9 [.long p0, .long p1] σ (cPl σ) (fJ9_max_f86c9 p0 p1) := by
  refine Ct.ofJ (by decide +kernel) rfl rfl (Nat.le_of_ble_eq_true rfl) ?_
  unfold fJ9_max_f86c9
  show T _ _ _ 0 [(0, .long p0), (2, .long p1)] [] _
  refine T_lload_n (pc := 0) 0 dJ9_max_f86c9_0 rfl rfl ?_
  refine T_lload_n (pc := 1) 1 dJ9_max_f86c9_1 rfl rfl ?_
  refine T_lcmp (pc := 2) dJ9_max_f86c9_2 ?_
  refine T_if_lt (pc := 3) 10 dJ9_max_f86c9_3 (by decide) (fun _ => ?_) (fun _ => ?_)
  · refine T_lload_n (pc := 10) 1 dJ9_max_f86c9_10 rfl rfl ?_
    exact T_lreturn (pc := 11) rfl dJ9_max_f86c9_11 rfl
  · refine T_lload_n (pc := 6) 0 dJ9_max_f86c9_6 rfl rfl ?_
    refine T_goto (pc := 7) 11 dJ9_max_f86c9_7 (by decide) ?_
    exact T_lreturn (pc := 11) rfl dJ9_max_f86c9_11 rfl
set_option maxRecDepth 100000 in
set_option maxHeartbeats 4000000 in
theorem ctX1_bounded (σ : St) (p0 : Int64) : Ct yX1_bounded kX1_bounded [.long p0] σ (cPi σ) (fX1_bounded p0) := by
  refine Ct.of (by decide +kernel) rfl rfl (Nat.le_of_ble_eq_true rfl) ?_
  unfold fX1_bounded
  show T _ _ _ 0 [(0, .long p0)] [] _
  refine T_ldc2 (pc := 0) hw639 dX1_bounded_0 ?_
  refine T_ldc2 (pc := 3) hw640 dX1_bounded_3 ?_
  refine T_lload_n (pc := 6) 0 dX1_bounded_6 rfl rfl ?_
  refine T_callPl (pc := 7) (rest := [.long (-1000000 : Int64)]) (Rn_S (pc := 7) (as := [.long (1000000 : Int64), .long p0]) (rest := [.long (-1000000 : Int64)]) (ctJ9_min_f86c9 σ (1000000 : Int64) p0) ms_J9_min_f86c9 hw641 rfl ⟨Nat.le_of_ble_eq_true rfl, Nat.le_of_ble_eq_true rfl⟩ (Nat.le_of_ble_eq_true rfl) dX1_bounded_7 rfl) rfl (fun x1 => ?_)
  refine T_callPl (pc := 10) (rest := []) (Rn_S (pc := 10) (as := [.long (-1000000 : Int64), .long x1]) (rest := []) (ctJ9_max_f86c9 σ (-1000000 : Int64) x1) ms_J9_max_f86c9 hw644 rfl ⟨Nat.le_of_ble_eq_true rfl, Nat.le_of_ble_eq_true rfl⟩ (Nat.le_of_ble_eq_true rfl) dX1_bounded_10 rfl) rfl (fun x2 => ?_)
  refine T_l2i (pc := 13) dX1_bounded_13 ?_
  exact T_ireturn (pc := 14) rfl dX1_bounded_14 rfl
set_option maxRecDepth 100000 in
set_option maxHeartbeats 4000000 in
theorem fX1_term_J34_T (d : Nat) (rec : St → Int32 → Option (Int32 × St)) (hrec : ∀ (σ : St) (p0 : Int32), Ct yX1_atom (kX1_atom d) [.ref 4, .int p0] σ cSi (rec σ p0)) (σ : St) (v1 : Int32) (v2 : Int32) (v3 : Int32) (v4 : Int32) {kb : St → Int32 → Int32 → Int32 → Option (Int32 × St)} (hkb : ∀ (σ' : St) (w2 : Int32) (w3 : Int32) (w4 : Int32), T (kX1_term d) cSi σ' 14 [(0, .ref 4), (1, .int v1), (2, .int w2), (3, .int w3), (4, .int w4)] [] (kb σ' w2 w3 w4)) : T (kX1_term d) cSi σ 34 [(0, .ref 4), (1, .int v1), (2, .int v2), (3, .int v3), (4, .int v4)] [] (fX1_term_J34 rec kb σ v1 v2 v3 v4) := by
  unfold fX1_term_J34
  refine T_aload_n (pc := 34) 0 dX1_term_34 rfl rfl ?_
  refine T_callSv (pc := 35) (rest := []) (Rn_U (pc := 35) (x := ⟨"CueRolls$Habits", "step", "()V"⟩) (as := []) (rest := []) (ctX5_step_h σ) rfl rfl mu_X1_X1_X5_step hw613 rfl rfl ⟨by simp only [kX5_step_h, kX1_term]; omega, by simp only [kX5_step_h, kX1_term]; omega⟩ (Nat.le_of_ble_eq_true rfl) dX1_term_35 rfl) rfl (fun s3 => ?_)
  refine T_aload_n (pc := 38) 0 dX1_term_38 rfl rfl ?_
  refine T_iload_n (pc := 39) 1 dX1_term_39 rfl rfl ?_
  refine T_callSi (pc := 40) (rest := []) (Rn_V (pc := 40) (as := [.int v1]) (rest := []) (hrec s3 v1) rfl rfl mv_X1_atom hw609 rfl ⟨by simp only [kX1_atom, kX1_term]; omega, by simp only [kX1_atom, kX1_term]; omega⟩ (Nat.le_of_ble_eq_true rfl) dX1_term_40 rfl) rfl (fun r4 => ?_)
  refine T_istore (pc := 43) (lv' := [(0, .ref 4), (1, .int v1), (2, .int v2), (3, .int v3), (4, .int v4), (5, .int r4.1)]) dX1_term_43 (Nat.le_of_ble_eq_true rfl) rfl ?_
  refine T_iload_n (pc := 45) 3 dX1_term_45 rfl rfl ?_
  refine T_bipush (pc := 46) (v := 42) dX1_term_46 (by decide) ?_
  refine T_icmp_ne (pc := 48) 64 dX1_term_48 (by decide) (fun _ => ?_) (fun _ => ?_)
  · refine T_iload (pc := 64) 5 dX1_term_64 rfl ?_
    refine T_if_ne (pc := 66) 73 dX1_term_66 (by decide) (fun _ => ?_) (fun _ => ?_)
    · refine T_iload_n (pc := 73) 2 dX1_term_73 rfl rfl ?_
      refine T_iload (pc := 74) 5 dX1_term_74 rfl ?_
      refine T_idiv (pc := 76) dX1_term_76 ?_
      refine T_i2l (pc := 77) dX1_term_77 ?_
      refine T_callPi (pc := 78) (rest := []) (Rn_S (pc := 78) (as := [.long (Int32.toInt64 (v2 / r4.1))]) (rest := []) (ctX1_bounded r4.2 (Int32.toInt64 (v2 / r4.1))) ms_X1_bounded hw636 rfl ⟨by simp only [kX1_bounded, kX1_term]; omega, by simp only [kX1_bounded, kX1_term]; omega⟩ (Nat.le_of_ble_eq_true rfl) dX1_term_78 rfl) rfl (fun x5 => ?_)
      refine T_istore_n (pc := 81) (lv' := [(0, .ref 4), (1, .int v1), (2, .int x5), (3, .int v3), (4, .int v4), (5, .int r4.1)]) dX1_term_81 rfl (Nat.le_of_ble_eq_true rfl) rfl ?_
      refine T_aload_n (pc := 82) 0 dX1_term_82 rfl rfl ?_
      refine T_callPi (pc := 83) (rest := []) (Rn_U (pc := 83) (x := ⟨"CueRolls$Habits", "sign", "()I"⟩) (as := []) (rest := []) (ctX5_sign_h r4.2) rfl rfl mu_X1_X1_X5_sign hw597 rfl rfl ⟨by simp only [kX5_sign_h, kX1_term]; omega, by simp only [kX5_sign_h, kX1_term]; omega⟩ (Nat.le_of_ble_eq_true rfl) dX1_term_83 rfl) rfl (fun x6 => ?_)
      refine T_istore_n (pc := 86) (lv' := [(0, .ref 4), (1, .int v1), (2, .int x5), (3, .int x6), (4, .int v4), (5, .int r4.1)]) dX1_term_86 rfl (Nat.le_of_ble_eq_true rfl) rfl ?_
      refine T_iinc (pc := 87) (y := 1) (lv' := [(0, .ref 4), (1, .int v1), (2, .int x5), (3, .int x6), (4, .int (v4 + (1 : Int32))), (5, .int r4.1)]) 4 dX1_term_87 (by decide) rfl (Nat.le_of_ble_eq_true rfl) rfl ?_
      refine T_goto (pc := 90) 14 dX1_term_90 (by decide) ?_
      refine T_pick (lv' := [(0, .ref 4), (1, .int v1), (2, .int x5), (3, .int x6), (4, .int (v4 + (1 : Int32)))]) [0, 1, 2, 3, 4] rfl ?_
      exact hkb r4.2 x5 x6 (v4 + (1 : Int32))
    · refine T_iconst (pc := 69) (v := 0) dX1_term_69 (by decide) ?_
      refine T_goto (pc := 70) 81 dX1_term_70 (by decide) ?_
      refine T_istore_n (pc := 81) (lv' := [(0, .ref 4), (1, .int v1), (2, .int (0 : Int32)), (3, .int v3), (4, .int v4), (5, .int r4.1)]) dX1_term_81 rfl (Nat.le_of_ble_eq_true rfl) rfl ?_
      refine T_aload_n (pc := 82) 0 dX1_term_82 rfl rfl ?_
      refine T_callPi (pc := 83) (rest := []) (Rn_U (pc := 83) (x := ⟨"CueRolls$Habits", "sign", "()I"⟩) (as := []) (rest := []) (ctX5_sign_h r4.2) rfl rfl mu_X1_X1_X5_sign hw597 rfl rfl ⟨by simp only [kX5_sign_h, kX1_term]; omega, by simp only [kX5_sign_h, kX1_term]; omega⟩ (Nat.le_of_ble_eq_true rfl) dX1_term_83 rfl) rfl (fun x7 => ?_)
      refine T_istore_n (pc := 86) (lv' := [(0, .ref 4), (1, .int v1), (2, .int (0 : Int32)), (3, .int x7), (4, .int v4), (5, .int r4.1)]) dX1_term_86 rfl (Nat.le_of_ble_eq_true rfl) rfl ?_
      refine T_iinc (pc := 87) (y := 1) (lv' := [(0, .ref 4), (1, .int v1), (2, .int (0 : Int32)), (3, .int x7), (4, .int (v4 + (1 : Int32))), (5, .int r4.1)]) 4 dX1_term_87 (by decide) rfl (Nat.le_of_ble_eq_true rfl) rfl ?_
      refine T_goto (pc := 90) 14 dX1_term_90 (by decide) ?_
      refine T_pick (lv' := [(0, .ref 4), (1, .int v1), (2, .int (0 : Int32)), (3, .int x7), (4, .int (v4 + (1 : Int32)))]) [0, 1, 2, 3, 4] rfl ?_
      exact hkb r4.2 (0 : Int32) x7 (v4 + (1 : Int32))
  · refine T_iload_n (pc := 51) 2 dX1_term_51 rfl rfl ?_
    refine T_i2l (pc := 52) dX1_term_52 ?_
    refine T_iload (pc := 53) 5 dX1_term_53 rfl ?_
    refine T_i2l (pc := 55) dX1_term_55 ?_
    refine T_lmul (pc := 56) dX1_term_56 ?_
    refine T_callPi (pc := 57) (rest := []) (Rn_S (pc := 57) (as := [.long ((Int32.toInt64 v2) * (Int32.toInt64 r4.1))]) (rest := []) (ctX1_bounded r4.2 ((Int32.toInt64 v2) * (Int32.toInt64 r4.1))) ms_X1_bounded hw636 rfl ⟨by simp only [kX1_bounded, kX1_term]; omega, by simp only [kX1_bounded, kX1_term]; omega⟩ (Nat.le_of_ble_eq_true rfl) dX1_term_57 rfl) rfl (fun x8 => ?_)
    refine T_istore_n (pc := 60) (lv' := [(0, .ref 4), (1, .int v1), (2, .int x8), (3, .int v3), (4, .int v4), (5, .int r4.1)]) dX1_term_60 rfl (Nat.le_of_ble_eq_true rfl) rfl ?_
    refine T_goto (pc := 61) 82 dX1_term_61 (by decide) ?_
    refine T_aload_n (pc := 82) 0 dX1_term_82 rfl rfl ?_
    refine T_callPi (pc := 83) (rest := []) (Rn_U (pc := 83) (x := ⟨"CueRolls$Habits", "sign", "()I"⟩) (as := []) (rest := []) (ctX5_sign_h r4.2) rfl rfl mu_X1_X1_X5_sign hw597 rfl rfl ⟨by simp only [kX5_sign_h, kX1_term]; omega, by simp only [kX5_sign_h, kX1_term]; omega⟩ (Nat.le_of_ble_eq_true rfl) dX1_term_83 rfl) rfl (fun x9 => ?_)
    refine T_istore_n (pc := 86) (lv' := [(0, .ref 4), (1, .int v1), (2, .int x8), (3, .int x9), (4, .int v4), (5, .int r4.1)]) dX1_term_86 rfl (Nat.le_of_ble_eq_true rfl) rfl ?_
    refine T_iinc (pc := 87) (y := 1) (lv' := [(0, .ref 4), (1, .int v1), (2, .int x8), (3, .int x9), (4, .int (v4 + (1 : Int32))), (5, .int r4.1)]) 4 dX1_term_87 (by decide) rfl (Nat.le_of_ble_eq_true rfl) rfl ?_
    refine T_goto (pc := 90) 14 dX1_term_90 (by decide) ?_
    refine T_pick (lv' := [(0, .ref 4), (1, .int v1), (2, .int x8), (3, .int x9), (4, .int (v4 + (1 : Int32)))]) [0, 1, 2, 3, 4] rfl ?_
    exact hkb r4.2 x8 x9 (v4 + (1 : Int32))
set_option maxRecDepth 100000 in
set_option maxHeartbeats 4000000 in
theorem fX1_term_L14_T (d : Nat) (rec : St → Int32 → Option (Int32 × St)) (hrec : ∀ (σ : St) (p0 : Int32), Ct yX1_atom (kX1_atom d) [.ref 4, .int p0] σ cSi (rec σ p0)) (v1 : Int32) (σ : St) {kb : St → Int32 → Int32 → Int32 → Option (Int32 × St)} (hkb : ∀ (σ' : St) (w2 : Int32) (w3 : Int32) (w4 : Int32), T (kX1_term d) cSi σ' 14 [(0, .ref 4), (1, .int v1), (2, .int w2), (3, .int w3), (4, .int w4)] [] (kb σ' w2 w3 w4)) (v2 : Int32) (v3 : Int32) (v4 : Int32) : T (kX1_term d) cSi σ 14 [(0, .ref 4), (1, .int v1), (2, .int v2), (3, .int v3), (4, .int v4)] [] (fX1_term_L14 rec v1 kb σ v2 v3 v4) := by
  unfold fX1_term_L14
  refine T_iload (pc := 14) 4 dX1_term_14 rfl ?_
  refine T_sipush (pc := 16) (v := 200) dX1_term_16 (by decide) ?_
  refine T_icmp_ge (pc := 19) 93 dX1_term_19 (by decide) (fun _ => ?_) (fun _ => ?_)
  · refine T_iload_n (pc := 93) 2 dX1_term_93 rfl rfl ?_
    exact T_ireturn (pc := 94) rfl dX1_term_94 rfl
  · refine T_iload_n (pc := 22) 3 dX1_term_22 rfl rfl ?_
    refine T_bipush (pc := 23) (v := 42) dX1_term_23 (by decide) ?_
    refine T_icmp_eq (pc := 25) 34 dX1_term_25 (by decide) (fun _ => ?_) (fun _ => ?_)
    · exact fX1_term_J34_T d rec hrec (hkb := hkb) σ v1 v2 v3 v4
    · refine T_iload_n (pc := 28) 3 dX1_term_28 rfl rfl ?_
      refine T_bipush (pc := 29) (v := 47) dX1_term_29 (by decide) ?_
      refine T_icmp_ne (pc := 31) 93 dX1_term_31 (by decide) (fun _ => ?_) (fun _ => ?_)
      · refine T_iload_n (pc := 93) 2 dX1_term_93 rfl rfl ?_
        exact T_ireturn (pc := 94) rfl dX1_term_94 rfl
      · exact fX1_term_J34_T d rec hrec (hkb := hkb) σ v1 v2 v3 v4
set_option maxRecDepth 100000 in
set_option maxHeartbeats 4000000 in
theorem fX1_term_P14_T (d : Nat) (rec : St → Int32 → Option (Int32 × St)) (hrec : ∀ (σ : St) (p0 : Int32), Ct yX1_atom (kX1_atom d) [.ref 4, .int p0] σ cSi (rec σ p0)) (v1 : Int32) (σ : St) (v2 : Int32) (v3 : Int32) (v4 : Int32) : T (kX1_term d) cSi σ 14 [(0, .ref 4), (1, .int v1), (2, .int v2), (3, .int v3), (4, .int v4)] [] (fX1_term_P14 rec v1 σ v2 v3 v4) :=
  it_T (S := (fun t : St × Int32 × Int32 × Int32 => t.1)) (lv := fun t : St × Int32 × Int32 × Int32 => [(0, .ref 4), (1, .int v1), (2, .int t.2.1), (3, .int t.2.2.1), (4, .int t.2.2.2)]) (st := fun _ => []) (fun kb hkb t => fX1_term_L14_T d rec hrec v1 (hkb := fun σ v2 v3 v4 => hkb (σ, v2, v3, v4)) t.1 t.2.1 t.2.2.1 t.2.2.2) FU (σ, v2, v3, v4)
set_option maxRecDepth 100000 in
set_option maxHeartbeats 4000000 in
theorem ctX1_term_B (d : Nat) (rec : St → Int32 → Option (Int32 × St)) (hrec : ∀ (σ : St) (p0 : Int32), Ct yX1_atom (kX1_atom d) [.ref 4, .int p0] σ cSi (rec σ p0)) (σ : St) (p0 : Int32) : Ct yX1_term (kX1_term d) [.ref 4, .int p0] σ cSi (fX1_term_B rec σ p0) := by
  refine Ct.of (by decide +kernel) rfl rfl (Nat.le_of_ble_eq_true rfl) ?_
  unfold fX1_term_B
  show T _ _ _ 0 [(0, .ref 4), (1, .int p0)] [] _
  refine T_aload_n (pc := 0) 0 dX1_term_0 rfl rfl ?_
  refine T_iload_n (pc := 1) 1 dX1_term_1 rfl rfl ?_
  refine T_callSi (pc := 2) (rest := []) (Rn_V (pc := 2) (as := [.int p0]) (rest := []) (hrec σ p0) rfl rfl mv_X1_atom hw609 rfl ⟨by simp only [kX1_atom, kX1_term]; omega, by simp only [kX1_atom, kX1_term]; omega⟩ (Nat.le_of_ble_eq_true rfl) dX1_term_2 rfl) rfl (fun r1 => ?_)
  refine T_istore_n (pc := 5) (lv' := [(0, .ref 4), (1, .int p0), (2, .int r1.1)]) dX1_term_5 rfl (Nat.le_of_ble_eq_true rfl) rfl ?_
  refine T_aload_n (pc := 6) 0 dX1_term_6 rfl rfl ?_
  refine T_callPi (pc := 7) (rest := []) (Rn_U (pc := 7) (x := ⟨"CueRolls$Habits", "sign", "()I"⟩) (as := []) (rest := []) (ctX5_sign_h r1.2) rfl rfl mu_X1_X1_X5_sign hw597 rfl rfl ⟨by simp only [kX5_sign_h, kX1_term]; omega, by simp only [kX5_sign_h, kX1_term]; omega⟩ (Nat.le_of_ble_eq_true rfl) dX1_term_7 rfl) rfl (fun x2 => ?_)
  refine T_istore_n (pc := 10) (lv' := [(0, .ref 4), (1, .int p0), (2, .int r1.1), (3, .int x2)]) dX1_term_10 rfl (Nat.le_of_ble_eq_true rfl) rfl ?_
  refine T_iconst (pc := 11) (v := 0) dX1_term_11 (by decide) ?_
  refine T_istore (pc := 12) (lv' := [(0, .ref 4), (1, .int p0), (2, .int r1.1), (3, .int x2), (4, .int (0 : Int32))]) dX1_term_12 (Nat.le_of_ble_eq_true rfl) rfl ?_
  exact fX1_term_P14_T d rec hrec p0 r1.2 r1.1 x2 (0 : Int32)
set_option maxRecDepth 100000 in
set_option maxHeartbeats 4000000 in
theorem fX1_sum_L14_T (d : Nat) (rec : St → Int32 → Option (Int32 × St)) (hrec : ∀ (σ : St) (p0 : Int32), Ct yX1_atom (kX1_atom d) [.ref 4, .int p0] σ cSi (rec σ p0)) (v1 : Int32) (σ : St) {kb : St → Int32 → Int32 → Int32 → Option (Int32 × St)} (hkb : ∀ (σ' : St) (w2 : Int32) (w3 : Int32) (w4 : Int32), T (kX1_sum d) cSi σ' 14 [(0, .ref 4), (1, .int v1), (2, .int w2), (3, .int w3), (4, .int w4)] [] (kb σ' w2 w3 w4)) (v2 : Int32) (v3 : Int32) (v4 : Int32) : T (kX1_sum d) cSi σ 14 [(0, .ref 4), (1, .int v1), (2, .int v2), (3, .int v3), (4, .int v4)] [] (fX1_sum_L14 rec v1 kb σ v2 v3 v4) := by
  unfold fX1_sum_L14
  refine T_iload (pc := 14) 4 dX1_sum_14 rfl ?_
  refine T_sipush (pc := 16) (v := 200) dX1_sum_16 (by decide) ?_
  refine T_icmp_ge (pc := 19) 79 dX1_sum_19 (by decide) (fun _ => ?_) (fun _ => ?_)
  · refine T_iload_n (pc := 79) 2 dX1_sum_79 rfl rfl ?_
    exact T_ireturn (pc := 80) rfl dX1_sum_80 rfl
  · refine T_iload_n (pc := 22) 3 dX1_sum_22 rfl rfl ?_
    refine T_bipush (pc := 23) (v := 43) dX1_sum_23 (by decide) ?_
    refine T_icmp_eq (pc := 25) 34 dX1_sum_25 (by decide) (fun _ => ?_) (fun _ => ?_)
    · refine T_aload_n (pc := 34) 0 dX1_sum_34 rfl rfl ?_
      refine T_callSv (pc := 35) (rest := []) (Rn_U (pc := 35) (x := ⟨"CueRolls$Habits", "step", "()V"⟩) (as := []) (rest := []) (ctX5_step_h σ) rfl rfl mu_X1_X1_X5_step hw613 rfl rfl ⟨by simp only [kX5_step_h, kX1_sum]; omega, by simp only [kX5_step_h, kX1_sum]; omega⟩ (Nat.le_of_ble_eq_true rfl) dX1_sum_35 rfl) rfl (fun s3 => ?_)
      refine T_aload_n (pc := 38) 0 dX1_sum_38 rfl rfl ?_
      refine T_iload_n (pc := 39) 1 dX1_sum_39 rfl rfl ?_
      refine T_callSi (pc := 40) (rest := []) (Rn_V (pc := 40) (as := [.int v1]) (rest := []) (ctX1_term_B d rec hrec s3 v1) rfl rfl mv_X1_term hw605 rfl ⟨by simp only [kX1_term, kX1_sum]; omega, by simp only [kX1_term, kX1_sum]; omega⟩ (Nat.le_of_ble_eq_true rfl) dX1_sum_40 rfl) rfl (fun r4 => ?_)
      refine T_istore (pc := 43) (lv' := [(0, .ref 4), (1, .int v1), (2, .int v2), (3, .int v3), (4, .int v4), (5, .int r4.1)]) dX1_sum_43 (Nat.le_of_ble_eq_true rfl) rfl ?_
      refine T_iload_n (pc := 45) 3 dX1_sum_45 rfl rfl ?_
      refine T_bipush (pc := 46) (v := 43) dX1_sum_46 (by decide) ?_
      refine T_icmp_ne (pc := 48) 59 dX1_sum_48 (by decide) (fun _ => ?_) (fun _ => ?_)
      · refine T_iload_n (pc := 59) 2 dX1_sum_59 rfl rfl ?_
        refine T_iload (pc := 60) 5 dX1_sum_60 rfl ?_
        refine T_isub (pc := 62) dX1_sum_62 ?_
        refine T_i2l (pc := 63) dX1_sum_63 ?_
        refine T_callPi (pc := 64) (rest := []) (Rn_S (pc := 64) (as := [.long (Int32.toInt64 (v2 - r4.1))]) (rest := []) (ctX1_bounded r4.2 (Int32.toInt64 (v2 - r4.1))) ms_X1_bounded hw636 rfl ⟨by simp only [kX1_bounded, kX1_sum]; omega, by simp only [kX1_bounded, kX1_sum]; omega⟩ (Nat.le_of_ble_eq_true rfl) dX1_sum_64 rfl) rfl (fun x5 => ?_)
        refine T_istore_n (pc := 67) (lv' := [(0, .ref 4), (1, .int v1), (2, .int x5), (3, .int v3), (4, .int v4), (5, .int r4.1)]) dX1_sum_67 rfl (Nat.le_of_ble_eq_true rfl) rfl ?_
        refine T_aload_n (pc := 68) 0 dX1_sum_68 rfl rfl ?_
        refine T_callPi (pc := 69) (rest := []) (Rn_U (pc := 69) (x := ⟨"CueRolls$Habits", "sign", "()I"⟩) (as := []) (rest := []) (ctX5_sign_h r4.2) rfl rfl mu_X1_X1_X5_sign hw597 rfl rfl ⟨by simp only [kX5_sign_h, kX1_sum]; omega, by simp only [kX5_sign_h, kX1_sum]; omega⟩ (Nat.le_of_ble_eq_true rfl) dX1_sum_69 rfl) rfl (fun x6 => ?_)
        refine T_istore_n (pc := 72) (lv' := [(0, .ref 4), (1, .int v1), (2, .int x5), (3, .int x6), (4, .int v4), (5, .int r4.1)]) dX1_sum_72 rfl (Nat.le_of_ble_eq_true rfl) rfl ?_
        refine T_iinc (pc := 73) (y := 1) (lv' := [(0, .ref 4), (1, .int v1), (2, .int x5), (3, .int x6), (4, .int (v4 + (1 : Int32))), (5, .int r4.1)]) 4 dX1_sum_73 (by decide) rfl (Nat.le_of_ble_eq_true rfl) rfl ?_
        refine T_goto (pc := 76) 14 dX1_sum_76 (by decide) ?_
        refine T_pick (lv' := [(0, .ref 4), (1, .int v1), (2, .int x5), (3, .int x6), (4, .int (v4 + (1 : Int32)))]) [0, 1, 2, 3, 4] rfl ?_
        exact hkb r4.2 x5 x6 (v4 + (1 : Int32))
      · refine T_iload_n (pc := 51) 2 dX1_sum_51 rfl rfl ?_
        refine T_iload (pc := 52) 5 dX1_sum_52 rfl ?_
        refine T_iadd (pc := 54) dX1_sum_54 ?_
        refine T_i2l (pc := 55) dX1_sum_55 ?_
        refine T_goto (pc := 56) 64 dX1_sum_56 (by decide) ?_
        refine T_callPi (pc := 64) (rest := []) (Rn_S (pc := 64) (as := [.long (Int32.toInt64 (v2 + r4.1))]) (rest := []) (ctX1_bounded r4.2 (Int32.toInt64 (v2 + r4.1))) ms_X1_bounded hw636 rfl ⟨by simp only [kX1_bounded, kX1_sum]; omega, by simp only [kX1_bounded, kX1_sum]; omega⟩ (Nat.le_of_ble_eq_true rfl) dX1_sum_64 rfl) rfl (fun x7 => ?_)
        refine T_istore_n (pc := 67) (lv' := [(0, .ref 4), (1, .int v1), (2, .int x7), (3, .int v3), (4, .int v4), (5, .int r4.1)]) dX1_sum_67 rfl (Nat.le_of_ble_eq_true rfl) rfl ?_
        refine T_aload_n (pc := 68) 0 dX1_sum_68 rfl rfl ?_
        refine T_callPi (pc := 69) (rest := []) (Rn_U (pc := 69) (x := ⟨"CueRolls$Habits", "sign", "()I"⟩) (as := []) (rest := []) (ctX5_sign_h r4.2) rfl rfl mu_X1_X1_X5_sign hw597 rfl rfl ⟨by simp only [kX5_sign_h, kX1_sum]; omega, by simp only [kX5_sign_h, kX1_sum]; omega⟩ (Nat.le_of_ble_eq_true rfl) dX1_sum_69 rfl) rfl (fun x8 => ?_)
        refine T_istore_n (pc := 72) (lv' := [(0, .ref 4), (1, .int v1), (2, .int x7), (3, .int x8), (4, .int v4), (5, .int r4.1)]) dX1_sum_72 rfl (Nat.le_of_ble_eq_true rfl) rfl ?_
        refine T_iinc (pc := 73) (y := 1) (lv' := [(0, .ref 4), (1, .int v1), (2, .int x7), (3, .int x8), (4, .int (v4 + (1 : Int32))), (5, .int r4.1)]) 4 dX1_sum_73 (by decide) rfl (Nat.le_of_ble_eq_true rfl) rfl ?_
        refine T_goto (pc := 76) 14 dX1_sum_76 (by decide) ?_
        refine T_pick (lv' := [(0, .ref 4), (1, .int v1), (2, .int x7), (3, .int x8), (4, .int (v4 + (1 : Int32)))]) [0, 1, 2, 3, 4] rfl ?_
        exact hkb r4.2 x7 x8 (v4 + (1 : Int32))
    · refine T_iload_n (pc := 28) 3 dX1_sum_28 rfl rfl ?_
      refine T_bipush (pc := 29) (v := 45) dX1_sum_29 (by decide) ?_
      refine T_icmp_ne (pc := 31) 79 dX1_sum_31 (by decide) (fun _ => ?_) (fun _ => ?_)
      · refine T_iload_n (pc := 79) 2 dX1_sum_79 rfl rfl ?_
        exact T_ireturn (pc := 80) rfl dX1_sum_80 rfl
      · refine T_aload_n (pc := 34) 0 dX1_sum_34 rfl rfl ?_
        refine T_callSv (pc := 35) (rest := []) (Rn_U (pc := 35) (x := ⟨"CueRolls$Habits", "step", "()V"⟩) (as := []) (rest := []) (ctX5_step_h σ) rfl rfl mu_X1_X1_X5_step hw613 rfl rfl ⟨by simp only [kX5_step_h, kX1_sum]; omega, by simp only [kX5_step_h, kX1_sum]; omega⟩ (Nat.le_of_ble_eq_true rfl) dX1_sum_35 rfl) rfl (fun s9 => ?_)
        refine T_aload_n (pc := 38) 0 dX1_sum_38 rfl rfl ?_
        refine T_iload_n (pc := 39) 1 dX1_sum_39 rfl rfl ?_
        refine T_callSi (pc := 40) (rest := []) (Rn_V (pc := 40) (as := [.int v1]) (rest := []) (ctX1_term_B d rec hrec s9 v1) rfl rfl mv_X1_term hw605 rfl ⟨by simp only [kX1_term, kX1_sum]; omega, by simp only [kX1_term, kX1_sum]; omega⟩ (Nat.le_of_ble_eq_true rfl) dX1_sum_40 rfl) rfl (fun r10 => ?_)
        refine T_istore (pc := 43) (lv' := [(0, .ref 4), (1, .int v1), (2, .int v2), (3, .int v3), (4, .int v4), (5, .int r10.1)]) dX1_sum_43 (Nat.le_of_ble_eq_true rfl) rfl ?_
        refine T_iload_n (pc := 45) 3 dX1_sum_45 rfl rfl ?_
        refine T_bipush (pc := 46) (v := 43) dX1_sum_46 (by decide) ?_
        refine T_icmp_ne (pc := 48) 59 dX1_sum_48 (by decide) (fun _ => ?_) (fun _ => ?_)
        · refine T_iload_n (pc := 59) 2 dX1_sum_59 rfl rfl ?_
          refine T_iload (pc := 60) 5 dX1_sum_60 rfl ?_
          refine T_isub (pc := 62) dX1_sum_62 ?_
          refine T_i2l (pc := 63) dX1_sum_63 ?_
          refine T_callPi (pc := 64) (rest := []) (Rn_S (pc := 64) (as := [.long (Int32.toInt64 (v2 - r10.1))]) (rest := []) (ctX1_bounded r10.2 (Int32.toInt64 (v2 - r10.1))) ms_X1_bounded hw636 rfl ⟨by simp only [kX1_bounded, kX1_sum]; omega, by simp only [kX1_bounded, kX1_sum]; omega⟩ (Nat.le_of_ble_eq_true rfl) dX1_sum_64 rfl) rfl (fun x11 => ?_)
          refine T_istore_n (pc := 67) (lv' := [(0, .ref 4), (1, .int v1), (2, .int x11), (3, .int v3), (4, .int v4), (5, .int r10.1)]) dX1_sum_67 rfl (Nat.le_of_ble_eq_true rfl) rfl ?_
          refine T_aload_n (pc := 68) 0 dX1_sum_68 rfl rfl ?_
          refine T_callPi (pc := 69) (rest := []) (Rn_U (pc := 69) (x := ⟨"CueRolls$Habits", "sign", "()I"⟩) (as := []) (rest := []) (ctX5_sign_h r10.2) rfl rfl mu_X1_X1_X5_sign hw597 rfl rfl ⟨by simp only [kX5_sign_h, kX1_sum]; omega, by simp only [kX5_sign_h, kX1_sum]; omega⟩ (Nat.le_of_ble_eq_true rfl) dX1_sum_69 rfl) rfl (fun x12 => ?_)
          refine T_istore_n (pc := 72) (lv' := [(0, .ref 4), (1, .int v1), (2, .int x11), (3, .int x12), (4, .int v4), (5, .int r10.1)]) dX1_sum_72 rfl (Nat.le_of_ble_eq_true rfl) rfl ?_
          refine T_iinc (pc := 73) (y := 1) (lv' := [(0, .ref 4), (1, .int v1), (2, .int x11), (3, .int x12), (4, .int (v4 + (1 : Int32))), (5, .int r10.1)]) 4 dX1_sum_73 (by decide) rfl (Nat.le_of_ble_eq_true rfl) rfl ?_
          refine T_goto (pc := 76) 14 dX1_sum_76 (by decide) ?_
          refine T_pick (lv' := [(0, .ref 4), (1, .int v1), (2, .int x11), (3, .int x12), (4, .int (v4 + (1 : Int32)))]) [0, 1, 2, 3, 4] rfl ?_
          exact hkb r10.2 x11 x12 (v4 + (1 : Int32))
        · refine T_iload_n (pc := 51) 2 dX1_sum_51 rfl rfl ?_
          refine T_iload (pc := 52) 5 dX1_sum_52 rfl ?_
          refine T_iadd (pc := 54) dX1_sum_54 ?_
          refine T_i2l (pc := 55) dX1_sum_55 ?_
          refine T_goto (pc := 56) 64 dX1_sum_56 (by decide) ?_
          refine T_callPi (pc := 64) (rest := []) (Rn_S (pc := 64) (as := [.long (Int32.toInt64 (v2 + r10.1))]) (rest := []) (ctX1_bounded r10.2 (Int32.toInt64 (v2 + r10.1))) ms_X1_bounded hw636 rfl ⟨by simp only [kX1_bounded, kX1_sum]; omega, by simp only [kX1_bounded, kX1_sum]; omega⟩ (Nat.le_of_ble_eq_true rfl) dX1_sum_64 rfl) rfl (fun x13 => ?_)
          refine T_istore_n (pc := 67) (lv' := [(0, .ref 4), (1, .int v1), (2, .int x13), (3, .int v3), (4, .int v4), (5, .int r10.1)]) dX1_sum_67 rfl (Nat.le_of_ble_eq_true rfl) rfl ?_
          refine T_aload_n (pc := 68) 0 dX1_sum_68 rfl rfl ?_
          refine T_callPi (pc := 69) (rest := []) (Rn_U (pc := 69) (x := ⟨"CueRolls$Habits", "sign", "()I"⟩) (as := []) (rest := []) (ctX5_sign_h r10.2) rfl rfl mu_X1_X1_X5_sign hw597 rfl rfl ⟨by simp only [kX5_sign_h, kX1_sum]; omega, by simp only [kX5_sign_h, kX1_sum]; omega⟩ (Nat.le_of_ble_eq_true rfl) dX1_sum_69 rfl) rfl (fun x14 => ?_)
          refine T_istore_n (pc := 72) (lv' := [(0, .ref 4), (1, .int v1), (2, .int x13), (3, .int x14), (4, .int v4), (5, .int r10.1)]) dX1_sum_72 rfl (Nat.le_of_ble_eq_true rfl) rfl ?_
          refine T_iinc (pc := 73) (y := 1) (lv' := [(0, .ref 4), (1, .int v1), (2, .int x13), (3, .int x14), (4, .int (v4 + (1 : Int32))), (5, .int r10.1)]) 4 dX1_sum_73 (by decide) rfl (Nat.le_of_ble_eq_true rfl) rfl ?_
          refine T_goto (pc := 76) 14 dX1_sum_76 (by decide) ?_
          refine T_pick (lv' := [(0, .ref 4), (1, .int v1), (2, .int x13), (3, .int x14), (4, .int (v4 + (1 : Int32)))]) [0, 1, 2, 3, 4] rfl ?_
          exact hkb r10.2 x13 x14 (v4 + (1 : Int32))
set_option maxRecDepth 100000 in
set_option maxHeartbeats 4000000 in
theorem fX1_sum_P14_T (d : Nat) (rec : St → Int32 → Option (Int32 × St)) (hrec : ∀ (σ : St) (p0 : Int32), Ct yX1_atom (kX1_atom d) [.ref 4, .int p0] σ cSi (rec σ p0)) (v1 : Int32) (σ : St) (v2 : Int32) (v3 : Int32) (v4 : Int32) : T (kX1_sum d) cSi σ 14 [(0, .ref 4), (1, .int v1), (2, .int v2), (3, .int v3), (4, .int v4)] [] (fX1_sum_P14 rec v1 σ v2 v3 v4) :=
  it_T (S := (fun t : St × Int32 × Int32 × Int32 => t.1)) (lv := fun t : St × Int32 × Int32 × Int32 => [(0, .ref 4), (1, .int v1), (2, .int t.2.1), (3, .int t.2.2.1), (4, .int t.2.2.2)]) (st := fun _ => []) (fun kb hkb t => fX1_sum_L14_T d rec hrec v1 (hkb := fun σ v2 v3 v4 => hkb (σ, v2, v3, v4)) t.1 t.2.1 t.2.2.1 t.2.2.2) FU (σ, v2, v3, v4)
set_option maxRecDepth 100000 in
set_option maxHeartbeats 4000000 in
theorem ctX1_sum_B (d : Nat) (rec : St → Int32 → Option (Int32 × St)) (hrec : ∀ (σ : St) (p0 : Int32), Ct yX1_atom (kX1_atom d) [.ref 4, .int p0] σ cSi (rec σ p0)) (σ : St) (p0 : Int32) : Ct yX1_sum (kX1_sum d) [.ref 4, .int p0] σ cSi (fX1_sum_B rec σ p0) := by
  refine Ct.of (by decide +kernel) rfl rfl (Nat.le_of_ble_eq_true rfl) ?_
  unfold fX1_sum_B
  show T _ _ _ 0 [(0, .ref 4), (1, .int p0)] [] _
  refine T_aload_n (pc := 0) 0 dX1_sum_0 rfl rfl ?_
  refine T_iload_n (pc := 1) 1 dX1_sum_1 rfl rfl ?_
  refine T_callSi (pc := 2) (rest := []) (Rn_V (pc := 2) (as := [.int p0]) (rest := []) (ctX1_term_B d rec hrec σ p0) rfl rfl mv_X1_term hw605 rfl ⟨by simp only [kX1_term, kX1_sum]; omega, by simp only [kX1_term, kX1_sum]; omega⟩ (Nat.le_of_ble_eq_true rfl) dX1_sum_2 rfl) rfl (fun r1 => ?_)
  refine T_istore_n (pc := 5) (lv' := [(0, .ref 4), (1, .int p0), (2, .int r1.1)]) dX1_sum_5 rfl (Nat.le_of_ble_eq_true rfl) rfl ?_
  refine T_aload_n (pc := 6) 0 dX1_sum_6 rfl rfl ?_
  refine T_callPi (pc := 7) (rest := []) (Rn_U (pc := 7) (x := ⟨"CueRolls$Habits", "sign", "()I"⟩) (as := []) (rest := []) (ctX5_sign_h r1.2) rfl rfl mu_X1_X1_X5_sign hw597 rfl rfl ⟨by simp only [kX5_sign_h, kX1_sum]; omega, by simp only [kX5_sign_h, kX1_sum]; omega⟩ (Nat.le_of_ble_eq_true rfl) dX1_sum_7 rfl) rfl (fun x2 => ?_)
  refine T_istore_n (pc := 10) (lv' := [(0, .ref 4), (1, .int p0), (2, .int r1.1), (3, .int x2)]) dX1_sum_10 rfl (Nat.le_of_ble_eq_true rfl) rfl ?_
  refine T_iconst (pc := 11) (v := 0) dX1_sum_11 (by decide) ?_
  refine T_istore (pc := 12) (lv' := [(0, .ref 4), (1, .int p0), (2, .int r1.1), (3, .int x2), (4, .int (0 : Int32))]) dX1_sum_12 (Nat.le_of_ble_eq_true rfl) rfl ?_
  exact fX1_sum_P14_T d rec hrec p0 r1.2 r1.1 x2 (0 : Int32)
set_option maxRecDepth 100000 in
set_option maxHeartbeats 4000000 in
theorem ctX1_atom_B (d : Nat) (rec : St → Int32 → Option (Int32 × St)) (hrec : ∀ (σ : St) (p0 : Int32), Ct yX1_atom (kX1_atom d) [.ref 4, .int p0] σ cSi (rec σ p0)) (σ : St) (p0 : Int32) : Ct yX1_atom (kX1_atom (d + 1)) [.ref 4, .int p0] σ cSi (fX1_atom_B rec σ p0) := by
  refine Ct.of (by decide +kernel) rfl rfl (Nat.le_of_ble_eq_true rfl) ?_
  unfold fX1_atom_B
  show T _ _ _ 0 [(0, .ref 4), (1, .int p0)] [] _
  refine T_aload_n (pc := 0) 0 dX1_atom_0 rfl rfl ?_
  refine T_callPi (pc := 1) (rest := []) (Rn_U (pc := 1) (x := ⟨"CueRolls$Habits", "sign", "()I"⟩) (as := []) (rest := []) (ctX5_sign_h σ) rfl rfl mu_X1_X1_X5_sign hw597 rfl rfl ⟨by simp only [kX5_sign_h, kX1_atom]; omega, by simp only [kX5_sign_h, kX1_atom]; omega⟩ (Nat.le_of_ble_eq_true rfl) dX1_atom_1 rfl) rfl (fun x1 => ?_)
  refine T_istore_n (pc := 4) (lv' := [(0, .ref 4), (1, .int p0), (2, .int x1)]) dX1_atom_4 rfl (Nat.le_of_ble_eq_true rfl) rfl ?_
  refine T_iload_n (pc := 5) 2 dX1_atom_5 rfl rfl ?_
  refine T_bipush (pc := 6) (v := 91) dX1_atom_6 (by decide) ?_
  refine T_icmp_ne (pc := 8) 37 dX1_atom_8 (by decide) (fun _ => ?_) (fun _ => ?_)
  · refine T_iload_n (pc := 37) 2 dX1_atom_37 rfl rfl ?_
    refine T_sipush (pc := 38) (v := 1000) dX1_atom_38 (by decide) ?_
    refine T_icmp_ne (pc := 41) 52 dX1_atom_41 (by decide) (fun _ => ?_) (fun _ => ?_)
    · refine T_aload_n (pc := 52) 0 dX1_atom_52 rfl rfl ?_
      refine T_iload_n (pc := 53) 2 dX1_atom_53 rfl rfl ?_
      refine T_callPi (pc := 54) (rest := []) (Rn_V (pc := 54) (as := [.int x1]) (rest := []) (ctX1_letterValue σ x1) rfl rfl mv_X1_letterValue hw625 rfl ⟨by simp only [kX1_letterValue, kX1_atom]; omega, by simp only [kX1_letterValue, kX1_atom]; omega⟩ (Nat.le_of_ble_eq_true rfl) dX1_atom_54 rfl) rfl (fun x2 => ?_)
      refine T_istore_n (pc := 57) (lv' := [(0, .ref 4), (1, .int p0), (2, .int x1), (3, .int x2)]) dX1_atom_57 rfl (Nat.le_of_ble_eq_true rfl) rfl ?_
      refine T_iload_n (pc := 58) 3 dX1_atom_58 rfl rfl ?_
      refine T_iconst (pc := 59) (v := -1) dX1_atom_59 (by decide) ?_
      refine T_icmp_ne (pc := 60) 69 dX1_atom_60 (by decide) (fun _ => ?_) (fun _ => ?_)
      · refine T_aload_n (pc := 69) 0 dX1_atom_69 rfl rfl ?_
        refine T_callSv (pc := 70) (rest := []) (Rn_U (pc := 70) (x := ⟨"CueRolls$Habits", "step", "()V"⟩) (as := []) (rest := []) (ctX5_step_h σ) rfl rfl mu_X1_X1_X5_step hw613 rfl rfl ⟨by simp only [kX5_step_h, kX1_atom]; omega, by simp only [kX5_step_h, kX1_atom]; omega⟩ (Nat.le_of_ble_eq_true rfl) dX1_atom_70 rfl) rfl (fun s3 => ?_)
        refine T_iload_n (pc := 73) 3 dX1_atom_73 rfl rfl ?_
        exact T_ireturn (pc := 74) rfl dX1_atom_74 rfl
      · refine T_aload_n (pc := 63) 0 dX1_atom_63 rfl rfl ?_
        refine T_callSv (pc := 64) (rest := []) (Rn_U (pc := 64) (x := ⟨"CueRolls$Habits", "spoil", "()V"⟩) (as := []) (rest := []) (ctX5_spoil_h σ) rfl rfl mu_X1_X1_X5_spoil hw632 rfl rfl ⟨by simp only [kX5_spoil_h, kX1_atom]; omega, by simp only [kX5_spoil_h, kX1_atom]; omega⟩ (Nat.le_of_ble_eq_true rfl) dX1_atom_64 rfl) rfl (fun s4 => ?_)
        refine T_iconst (pc := 67) (v := 0) dX1_atom_67 (by decide) ?_
        exact T_ireturn (pc := 68) rfl dX1_atom_68 rfl
    · refine T_aload_n (pc := 44) 0 dX1_atom_44 rfl rfl ?_
      refine T_callPl (pc := 45) (rest := []) (Rn_U (pc := 45) (x := ⟨"CueRolls$Habits", "value", "()J"⟩) (as := []) (rest := []) (ctX5_value_h σ) rfl rfl mu_X1_X1_X5_value hw619 rfl rfl ⟨by simp only [kX5_value_h, kX1_atom]; omega, by simp only [kX5_value_h, kX1_atom]; omega⟩ (Nat.le_of_ble_eq_true rfl) dX1_atom_45 rfl) rfl (fun x5 => ?_)
      refine T_l2i (pc := 48) dX1_atom_48 ?_
      refine T_goto (pc := 49) 57 dX1_atom_49 (by decide) ?_
      refine T_letI (fun x6 => ?_)
      refine T_istore_n (pc := 57) (lv' := [(0, .ref 4), (1, .int p0), (2, .int x1), (3, .int x6)]) dX1_atom_57 rfl (Nat.le_of_ble_eq_true rfl) rfl ?_
      refine T_iload_n (pc := 58) 3 dX1_atom_58 rfl rfl ?_
      refine T_iconst (pc := 59) (v := -1) dX1_atom_59 (by decide) ?_
      refine T_icmp_ne (pc := 60) 69 dX1_atom_60 (by decide) (fun _ => ?_) (fun _ => ?_)
      · refine T_aload_n (pc := 69) 0 dX1_atom_69 rfl rfl ?_
        refine T_callSv (pc := 70) (rest := []) (Rn_U (pc := 70) (x := ⟨"CueRolls$Habits", "step", "()V"⟩) (as := []) (rest := []) (ctX5_step_h σ) rfl rfl mu_X1_X1_X5_step hw613 rfl rfl ⟨by simp only [kX5_step_h, kX1_atom]; omega, by simp only [kX5_step_h, kX1_atom]; omega⟩ (Nat.le_of_ble_eq_true rfl) dX1_atom_70 rfl) rfl (fun s7 => ?_)
        refine T_iload_n (pc := 73) 3 dX1_atom_73 rfl rfl ?_
        exact T_ireturn (pc := 74) rfl dX1_atom_74 rfl
      · refine T_aload_n (pc := 63) 0 dX1_atom_63 rfl rfl ?_
        refine T_callSv (pc := 64) (rest := []) (Rn_U (pc := 64) (x := ⟨"CueRolls$Habits", "spoil", "()V"⟩) (as := []) (rest := []) (ctX5_spoil_h σ) rfl rfl mu_X1_X1_X5_spoil hw632 rfl rfl ⟨by simp only [kX5_spoil_h, kX1_atom]; omega, by simp only [kX5_spoil_h, kX1_atom]; omega⟩ (Nat.le_of_ble_eq_true rfl) dX1_atom_64 rfl) rfl (fun s8 => ?_)
        refine T_iconst (pc := 67) (v := 0) dX1_atom_67 (by decide) ?_
        exact T_ireturn (pc := 68) rfl dX1_atom_68 rfl
  · refine T_iload_n (pc := 11) 1 dX1_atom_11 rfl rfl ?_
    refine T_bipush (pc := 12) (v := 6) dX1_atom_12 (by decide) ?_
    refine T_icmp_ge (pc := 14) 37 dX1_atom_14 (by decide) (fun _ => ?_) (fun _ => ?_)
    · refine T_iload_n (pc := 37) 2 dX1_atom_37 rfl rfl ?_
      refine T_sipush (pc := 38) (v := 1000) dX1_atom_38 (by decide) ?_
      refine T_icmp_ne (pc := 41) 52 dX1_atom_41 (by decide) (fun _ => ?_) (fun _ => ?_)
      · refine T_aload_n (pc := 52) 0 dX1_atom_52 rfl rfl ?_
        refine T_iload_n (pc := 53) 2 dX1_atom_53 rfl rfl ?_
        refine T_callPi (pc := 54) (rest := []) (Rn_V (pc := 54) (as := [.int x1]) (rest := []) (ctX1_letterValue σ x1) rfl rfl mv_X1_letterValue hw625 rfl ⟨by simp only [kX1_letterValue, kX1_atom]; omega, by simp only [kX1_letterValue, kX1_atom]; omega⟩ (Nat.le_of_ble_eq_true rfl) dX1_atom_54 rfl) rfl (fun x9 => ?_)
        refine T_istore_n (pc := 57) (lv' := [(0, .ref 4), (1, .int p0), (2, .int x1), (3, .int x9)]) dX1_atom_57 rfl (Nat.le_of_ble_eq_true rfl) rfl ?_
        refine T_iload_n (pc := 58) 3 dX1_atom_58 rfl rfl ?_
        refine T_iconst (pc := 59) (v := -1) dX1_atom_59 (by decide) ?_
        refine T_icmp_ne (pc := 60) 69 dX1_atom_60 (by decide) (fun _ => ?_) (fun _ => ?_)
        · refine T_aload_n (pc := 69) 0 dX1_atom_69 rfl rfl ?_
          refine T_callSv (pc := 70) (rest := []) (Rn_U (pc := 70) (x := ⟨"CueRolls$Habits", "step", "()V"⟩) (as := []) (rest := []) (ctX5_step_h σ) rfl rfl mu_X1_X1_X5_step hw613 rfl rfl ⟨by simp only [kX5_step_h, kX1_atom]; omega, by simp only [kX5_step_h, kX1_atom]; omega⟩ (Nat.le_of_ble_eq_true rfl) dX1_atom_70 rfl) rfl (fun s10 => ?_)
          refine T_iload_n (pc := 73) 3 dX1_atom_73 rfl rfl ?_
          exact T_ireturn (pc := 74) rfl dX1_atom_74 rfl
        · refine T_aload_n (pc := 63) 0 dX1_atom_63 rfl rfl ?_
          refine T_callSv (pc := 64) (rest := []) (Rn_U (pc := 64) (x := ⟨"CueRolls$Habits", "spoil", "()V"⟩) (as := []) (rest := []) (ctX5_spoil_h σ) rfl rfl mu_X1_X1_X5_spoil hw632 rfl rfl ⟨by simp only [kX5_spoil_h, kX1_atom]; omega, by simp only [kX5_spoil_h, kX1_atom]; omega⟩ (Nat.le_of_ble_eq_true rfl) dX1_atom_64 rfl) rfl (fun s11 => ?_)
          refine T_iconst (pc := 67) (v := 0) dX1_atom_67 (by decide) ?_
          exact T_ireturn (pc := 68) rfl dX1_atom_68 rfl
      · refine T_aload_n (pc := 44) 0 dX1_atom_44 rfl rfl ?_
        refine T_callPl (pc := 45) (rest := []) (Rn_U (pc := 45) (x := ⟨"CueRolls$Habits", "value", "()J"⟩) (as := []) (rest := []) (ctX5_value_h σ) rfl rfl mu_X1_X1_X5_value hw619 rfl rfl ⟨by simp only [kX5_value_h, kX1_atom]; omega, by simp only [kX5_value_h, kX1_atom]; omega⟩ (Nat.le_of_ble_eq_true rfl) dX1_atom_45 rfl) rfl (fun x12 => ?_)
        refine T_l2i (pc := 48) dX1_atom_48 ?_
        refine T_goto (pc := 49) 57 dX1_atom_49 (by decide) ?_
        refine T_letI (fun x13 => ?_)
        refine T_istore_n (pc := 57) (lv' := [(0, .ref 4), (1, .int p0), (2, .int x1), (3, .int x13)]) dX1_atom_57 rfl (Nat.le_of_ble_eq_true rfl) rfl ?_
        refine T_iload_n (pc := 58) 3 dX1_atom_58 rfl rfl ?_
        refine T_iconst (pc := 59) (v := -1) dX1_atom_59 (by decide) ?_
        refine T_icmp_ne (pc := 60) 69 dX1_atom_60 (by decide) (fun _ => ?_) (fun _ => ?_)
        · refine T_aload_n (pc := 69) 0 dX1_atom_69 rfl rfl ?_
          refine T_callSv (pc := 70) (rest := []) (Rn_U (pc := 70) (x := ⟨"CueRolls$Habits", "step", "()V"⟩) (as := []) (rest := []) (ctX5_step_h σ) rfl rfl mu_X1_X1_X5_step hw613 rfl rfl ⟨by simp only [kX5_step_h, kX1_atom]; omega, by simp only [kX5_step_h, kX1_atom]; omega⟩ (Nat.le_of_ble_eq_true rfl) dX1_atom_70 rfl) rfl (fun s14 => ?_)
          refine T_iload_n (pc := 73) 3 dX1_atom_73 rfl rfl ?_
          exact T_ireturn (pc := 74) rfl dX1_atom_74 rfl
        · refine T_aload_n (pc := 63) 0 dX1_atom_63 rfl rfl ?_
          refine T_callSv (pc := 64) (rest := []) (Rn_U (pc := 64) (x := ⟨"CueRolls$Habits", "spoil", "()V"⟩) (as := []) (rest := []) (ctX5_spoil_h σ) rfl rfl mu_X1_X1_X5_spoil hw632 rfl rfl ⟨by simp only [kX5_spoil_h, kX1_atom]; omega, by simp only [kX5_spoil_h, kX1_atom]; omega⟩ (Nat.le_of_ble_eq_true rfl) dX1_atom_64 rfl) rfl (fun s15 => ?_)
          refine T_iconst (pc := 67) (v := 0) dX1_atom_67 (by decide) ?_
          exact T_ireturn (pc := 68) rfl dX1_atom_68 rfl
    · refine T_aload_n (pc := 17) 0 dX1_atom_17 rfl rfl ?_
      refine T_callSv (pc := 18) (rest := []) (Rn_U (pc := 18) (x := ⟨"CueRolls$Habits", "step", "()V"⟩) (as := []) (rest := []) (ctX5_step_h σ) rfl rfl mu_X1_X1_X5_step hw613 rfl rfl ⟨by simp only [kX5_step_h, kX1_atom]; omega, by simp only [kX5_step_h, kX1_atom]; omega⟩ (Nat.le_of_ble_eq_true rfl) dX1_atom_18 rfl) rfl (fun s16 => ?_)
      refine T_aload_n (pc := 21) 0 dX1_atom_21 rfl rfl ?_
      refine T_iload_n (pc := 22) 1 dX1_atom_22 rfl rfl ?_
      refine T_iconst (pc := 23) (v := 1) dX1_atom_23 (by decide) ?_
      refine T_iadd (pc := 24) dX1_atom_24 ?_
      refine T_callSi (pc := 25) (rest := []) (Rn_V (pc := 25) (as := [.int (p0 + (1 : Int32))]) (rest := []) (ctX1_sum_B d rec hrec s16 (p0 + (1 : Int32))) rfl rfl mv_X1_sum hw601 rfl ⟨by simp only [kX1_sum, kX1_atom]; omega, by simp only [kX1_sum, kX1_atom]; omega⟩ (Nat.le_of_ble_eq_true rfl) dX1_atom_25 rfl) rfl (fun r17 => ?_)
      refine T_istore_n (pc := 28) (lv' := [(0, .ref 4), (1, .int p0), (2, .int x1), (3, .int r17.1)]) dX1_atom_28 rfl (Nat.le_of_ble_eq_true rfl) rfl ?_
      refine T_aload_n (pc := 29) 0 dX1_atom_29 rfl rfl ?_
      refine T_bipush (pc := 30) (v := 93) dX1_atom_30 (by decide) ?_
      refine T_callSv (pc := 32) (rest := []) (Rn_U (pc := 32) (x := ⟨"CueRolls$Habits", "needs", "(I)V"⟩) (as := [.int (93 : Int32)]) (rest := []) (ctX5_needs_h r17.2 (93 : Int32)) rfl rfl mu_X1_X1_X5_needs hw577 rfl rfl ⟨by simp only [kX5_needs_h, kX1_atom]; omega, by simp only [kX5_needs_h, kX1_atom]; omega⟩ (Nat.le_of_ble_eq_true rfl) dX1_atom_32 rfl) rfl (fun s18 => ?_)
      refine T_iload_n (pc := 35) 3 dX1_atom_35 rfl rfl ?_
      exact T_ireturn (pc := 36) rfl dX1_atom_36 rfl
theorem ctX1_atom : ∀ (d : Nat) (σ : St) (p0 : Int32), Ct yX1_atom (kX1_atom d) [.ref 4, .int p0] σ cSi (fX1_atom d σ p0)
  | 0, _, _ => fun _ h => by cases h
  | d + 1, σ, p0 => ctX1_atom_B d (fX1_atom d) (ctX1_atom d) σ p0
theorem ctX1_term (d : Nat) (σ : St) (p0 : Int32) : Ct yX1_term (kX1_term d) [.ref 4, .int p0] σ cSi (fX1_term d σ p0) := ctX1_term_B d (fX1_atom d) (ctX1_atom d) σ p0
theorem ctX1_sum (d : Nat) (σ : St) (p0 : Int32) : Ct yX1_sum (kX1_sum d) [.ref 4, .int p0] σ cSi (fX1_sum d σ p0) := ctX1_sum_B d (fX1_atom d) (ctX1_atom d) σ p0
set_option maxRecDepth 100000 in
set_option maxHeartbeats 4000000 in
theorem ctX1_isRelation (σ : St) (p0 : Int32) : Ct yX1_isRelation kX1_isRelation [.int p0] σ (cPz σ) (fX1_isRelation p0) := by
  refine Ct.of (by decide +kernel) rfl rfl (Nat.le_of_ble_eq_true rfl) ?_
  unfold fX1_isRelation
  show T _ _ _ 0 [(0, .int p0)] [] _
  refine T_iload_n (pc := 0) 0 dX1_isRelation_0 rfl rfl ?_
  refine T_bipush (pc := 1) (v := 61) dX1_isRelation_1 (by decide) ?_
  refine T_icmp_eq (pc := 3) 18 dX1_isRelation_3 (by decide) (fun _ => ?_) (fun _ => ?_)
  · refine T_iconst (pc := 18) (v := 1) dX1_isRelation_18 (by decide) ?_
    refine T_goto (pc := 19) 23 dX1_isRelation_19 (by decide) ?_
    exact T_zreturn (pc := 23) true rfl dX1_isRelation_23 rfl rfl
  · refine T_iload_n (pc := 6) 0 dX1_isRelation_6 rfl rfl ?_
    refine T_bipush (pc := 7) (v := 60) dX1_isRelation_7 (by decide) ?_
    refine T_icmp_eq (pc := 9) 18 dX1_isRelation_9 (by decide) (fun _ => ?_) (fun _ => ?_)
    · refine T_iconst (pc := 18) (v := 1) dX1_isRelation_18 (by decide) ?_
      refine T_goto (pc := 19) 23 dX1_isRelation_19 (by decide) ?_
      exact T_zreturn (pc := 23) true rfl dX1_isRelation_23 rfl rfl
    · refine T_iload_n (pc := 12) 0 dX1_isRelation_12 rfl rfl ?_
      refine T_bipush (pc := 13) (v := 62) dX1_isRelation_13 (by decide) ?_
      refine T_icmp_ne (pc := 15) 22 dX1_isRelation_15 (by decide) (fun _ => ?_) (fun _ => ?_)
      · refine T_iconst (pc := 22) (v := 0) dX1_isRelation_22 (by decide) ?_
        exact T_zreturn (pc := 23) false rfl dX1_isRelation_23 rfl rfl
      · refine T_iconst (pc := 18) (v := 1) dX1_isRelation_18 (by decide) ?_
        refine T_goto (pc := 19) 23 dX1_isRelation_19 (by decide) ?_
        exact T_zreturn (pc := 23) true rfl dX1_isRelation_23 rfl rfl
