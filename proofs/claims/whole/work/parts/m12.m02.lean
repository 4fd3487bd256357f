/-! methods X8_goOn .. X11_count: by program (wip/gen) -/
set_option maxRecDepth 100000 in
set_option maxHeartbeats 4000000 in
theorem fX8_goOn_L4_T (v1 : Int32) (σ : St) {k1 : Int32 → Option (Int32 × St)} {kb : Int32 → Int32 → Option (Int32 × St)} (hk1 : ∀ (w2 : Int32), T kX8_goOn cSi σ 33 [(0, .ref 8), (1, .int v1), (2, .int w2)] [] (k1 w2)) (hkb : ∀ (w2 : Int32) (w3 : Int32), T kX8_goOn cSi σ 4 [(0, .ref 8), (1, .int v1), (2, .int w2), (3, .int w3)] [] (kb w2 w3)) (v2 : Int32) (v3 : Int32) : T kX8_goOn cSi σ 4 [(0, .ref 8), (1, .int v1), (2, .int v2), (3, .int v3)] [] (fX8_goOn_L4 v1 k1 kb σ v2 v3) := by
  unfold fX8_goOn_L4
  refine T_iload_n (pc := 4) 3 dX8_goOn_4 rfl rfl ?_
  refine T_aload_n (pc := 5) 0 dX8_goOn_5 rfl rfl ?_
  refine T_getI (pc := 6) fd_8_5 hw394 dX8_goOn_6 ?_
  refine T_icmp_ge (pc := 9) 33 dX8_goOn_9 (by decide) (fun _ => ?_) (fun _ => ?_)
  · refine T_pick (lv' := [(0, .ref 8), (1, .int v1), (2, .int v2)]) [0, 1, 2] rfl ?_
    exact hk1 v2
  · refine T_aload_n (pc := 12) 0 dX8_goOn_12 rfl rfl ?_
    refine T_iload_n (pc := 13) 3 dX8_goOn_13 rfl rfl ?_
    refine T_callPi (pc := 14) (rest := []) (Rn_V (pc := 14) (as := [.int v3]) (rest := []) (ctX8_playedAt σ v3) rfl rfl mv_X8_playedAt hw1126 rfl ⟨Nat.le_of_ble_eq_true rfl, Nat.le_of_ble_eq_true rfl⟩ (Nat.le_of_ble_eq_true rfl) dX8_goOn_14 rfl) rfl (fun x1 => ?_)
    refine T_callPi (pc := 17) (rest := []) (Rn_S (pc := 17) (as := [.int x1]) (rest := []) (ctX7_rollOf σ x1) ms_X7_rollOf hw1130 rfl ⟨Nat.le_of_ble_eq_true rfl, Nat.le_of_ble_eq_true rfl⟩ (Nat.le_of_ble_eq_true rfl) dX8_goOn_17 rfl) rfl (fun x2 => ?_)
    refine T_iload_n (pc := 20) 1 dX8_goOn_20 rfl rfl ?_
    refine T_icmp_ne (pc := 21) 27 dX8_goOn_21 (by decide) (fun _ => ?_) (fun _ => ?_)
    · refine T_iinc (pc := 27) (y := 1) (lv' := [(0, .ref 8), (1, .int v1), (2, .int v2), (3, .int (v3 + (1 : Int32)))]) 3 dX8_goOn_27 (by decide) rfl (Nat.le_of_ble_eq_true rfl) rfl ?_
      refine T_goto (pc := 30) 4 dX8_goOn_30 (by decide) ?_
      exact hkb v2 (v3 + (1 : Int32))
    · refine T_iinc (pc := 24) (y := 1) (lv' := [(0, .ref 8), (1, .int v1), (2, .int (v2 + (1 : Int32))), (3, .int v3)]) 2 dX8_goOn_24 (by decide) rfl (Nat.le_of_ble_eq_true rfl) rfl ?_
      refine T_iinc (pc := 27) (y := 1) (lv' := [(0, .ref 8), (1, .int v1), (2, .int (v2 + (1 : Int32))), (3, .int (v3 + (1 : Int32)))]) 3 dX8_goOn_27 (by decide) rfl (Nat.le_of_ble_eq_true rfl) rfl ?_
      refine T_goto (pc := 30) 4 dX8_goOn_30 (by decide) ?_
      exact hkb (v2 + (1 : Int32)) (v3 + (1 : Int32))
set_option maxRecDepth 100000 in
set_option maxHeartbeats 4000000 in
theorem fX8_goOn_P4_T (v1 : Int32) (σ : St) {k1 : Int32 → Option (Int32 × St)} (hk1 : ∀ (w2 : Int32), T kX8_goOn cSi σ 33 [(0, .ref 8), (1, .int v1), (2, .int w2)] [] (k1 w2)) (v2 : Int32) (v3 : Int32) : T kX8_goOn cSi σ 4 [(0, .ref 8), (1, .int v1), (2, .int v2), (3, .int v3)] [] (fX8_goOn_P4 v1 k1 σ v2 v3) :=
  it_T (S := (fun _ : Int32 × Int32 => σ)) (lv := fun t : Int32 × Int32 => [(0, .ref 8), (1, .int v1), (2, .int t.1), (3, .int t.2)]) (st := fun _ => []) (fun kb hkb t => fX8_goOn_L4_T v1 (hk1 := hk1) (hkb := fun v2 v3 => hkb (v2, v3)) σ t.1 t.2) FU (v2, v3)
set_option maxRecDepth 100000 in
set_option maxHeartbeats 4000000 in
theorem ctX8_goOn (σ : St) (p0 : Int32) : Ct yX8_goOn kX8_goOn [.ref 8, .int p0] σ cSi (fX8_goOn σ p0) := by
  refine Ct.of (by decide +kernel) rfl rfl (Nat.le_of_ble_eq_true rfl) ?_
  unfold fX8_goOn
  show T _ _ _ 0 [(0, .ref 8), (1, .int p0)] [] _
  refine T_iconst (pc := 0) (v := 0) dX8_goOn_0 (by decide) ?_
  refine T_istore_n (pc := 1) (lv' := [(0, .ref 8), (1, .int p0), (2, .int (0 : Int32))]) dX8_goOn_1 rfl (Nat.le_of_ble_eq_true rfl) rfl ?_
  refine T_iconst (pc := 2) (v := 0) dX8_goOn_2 (by decide) ?_
  refine T_istore_n (pc := 3) (lv' := [(0, .ref 8), (1, .int p0), (2, .int (0 : Int32)), (3, .int (0 : Int32))]) dX8_goOn_3 rfl (Nat.le_of_ble_eq_true rfl) rfl ?_
  refine fX8_goOn_P4_T p0 (hk1 := fun x3 => ?_) σ (0 : Int32) (0 : Int32)
  · refine T_iload_n (pc := 33) 2 dX8_goOn_33 rfl rfl ?_
    refine T_aload_n (pc := 34) 0 dX8_goOn_34 rfl rfl ?_
    refine T_getA (pc := 35) fd_8_0 hw389 dX8_goOn_35 ?_
    refine T_iload_n (pc := 38) 1 dX8_goOn_38 rfl rfl ?_
    refine T_callPi (pc := 39) (rest := [.int x3]) (Rn_V (pc := 39) (as := [.int p0]) (rest := [.int x3]) (ctX7_sizeOf σ p0) rfl rfl mv_X7_sizeOf hw1131 rfl ⟨Nat.le_of_ble_eq_true rfl, Nat.le_of_ble_eq_true rfl⟩ (Nat.le_of_ble_eq_true rfl) dX8_goOn_39 rfl) rfl (fun x4 => ?_)
    refine T_icmp_ge (pc := 42) 64 dX8_goOn_42 (by decide) (fun _ => ?_) (fun _ => ?_)
    · refine T_iconst (pc := 64) (v := -1) dX8_goOn_64 (by decide) ?_
      exact T_ireturn (pc := 65) rfl dX8_goOn_65 rfl
    · refine T_aload_n (pc := 45) 0 dX8_goOn_45 rfl rfl ?_
      refine T_getI (pc := 46) fd_8_5 hw394 dX8_goOn_46 ?_
      refine T_if_lt (pc := 49) 64 dX8_goOn_49 (by decide) (fun _ => ?_) (fun _ => ?_)
      · refine T_iconst (pc := 64) (v := -1) dX8_goOn_64 (by decide) ?_
        exact T_ireturn (pc := 65) rfl dX8_goOn_65 rfl
      · refine T_aload_n (pc := 52) 0 dX8_goOn_52 rfl rfl ?_
        refine T_getI (pc := 53) fd_8_5 hw394 dX8_goOn_53 ?_
        refine T_aload_n (pc := 56) 0 dX8_goOn_56 rfl rfl ?_
        refine T_getA (pc := 57) fd_8_2 hw391 dX8_goOn_57 ?_
        refine T_alen (pc := 60) (v := 96) rfl (by decide) dX8_goOn_60 ?_
        refine T_icmp_lt (pc := 61) 66 dX8_goOn_61 (by decide) (fun _ => ?_) (fun _ => ?_)
        · refine T_aload_n (pc := 66) 0 dX8_goOn_66 rfl rfl ?_
          refine T_getA (pc := 67) fd_8_2 hw391 dX8_goOn_67 ?_
          refine T_aload_n (pc := 70) 0 dX8_goOn_70 rfl rfl ?_
          refine T_getI (pc := 71) fd_8_5 hw394 dX8_goOn_71 ?_
          refine T_bipush (pc := 74) (v := 16) dX8_goOn_74 (by decide) ?_
          refine T_iload_n (pc := 76) 1 dX8_goOn_76 rfl rfl ?_
          refine T_imul (pc := 77) dX8_goOn_77 ?_
          refine T_iload_n (pc := 78) 2 dX8_goOn_78 rfl rfl ?_
          refine T_iadd (pc := 79) dX8_goOn_79 ?_
          refine T_iast (pc := 80) rfl dX8_goOn_80 ?_
          refine T_letS (fun s5 => ?_)
          refine T_aload_n (pc := 81) 0 dX8_goOn_81 rfl rfl ?_
          refine T_dup_a (pc := 82) dX8_goOn_82 ?_
          refine T_getI (pc := 83) fd_8_5 hw394 dX8_goOn_83 ?_
          refine T_iconst (pc := 86) (v := 1) dX8_goOn_86 (by decide) ?_
          refine T_iadd (pc := 87) dX8_goOn_87 ?_
          refine T_putI (pc := 88) fd_8_5 hw394 dX8_goOn_88 ?_
          refine T_letS (fun s6 => ?_)
          refine T_aload_n (pc := 91) 0 dX8_goOn_91 rfl rfl ?_
          refine T_getA (pc := 92) fd_8_2 hw391 dX8_goOn_92 ?_
          refine T_aload_n (pc := 95) 0 dX8_goOn_95 rfl rfl ?_
          refine T_getI (pc := 96) fd_8_5 hw394 dX8_goOn_96 ?_
          refine T_iconst (pc := 99) (v := 1) dX8_goOn_99 (by decide) ?_
          refine T_isub (pc := 100) dX8_goOn_100 ?_
          refine T_iald (pc := 101) rfl dX8_goOn_101 (fun x7 => ?_)
          exact T_ireturn (pc := 102) rfl dX8_goOn_102 rfl
        · refine T_iconst (pc := 64) (v := -1) dX8_goOn_64 (by decide) ?_
          exact T_ireturn (pc := 65) rfl dX8_goOn_65 rfl
set_option maxRecDepth 100000 in
set_option maxHeartbeats 4000000 in
theorem ctX11_act (σ : St) (p0 : Int32) : Ct yX11_act kX11_act [.ref 0, .int p0] σ cSi (fX11_act σ p0) := by
  refine Ct.of (by decide +kernel) rfl rfl (Nat.le_of_ble_eq_true rfl) ?_
  unfold fX11_act
  show T _ _ _ 0 [(0, .ref 0), (1, .int p0)] [] _
  refine T_aload_n (pc := 0) 0 dX11_act_0 rfl rfl ?_
  refine T_getA (pc := 1) fd_0_4 hw443 dX11_act_1 ?_
  refine T_iload_n (pc := 4) 1 dX11_act_4 rfl rfl ?_
  refine T_callPz (pc := 5) (rest := []) (Rn_V (pc := 5) (as := [.int p0]) (rest := []) (ctX7_hasRoll σ p0) rfl rfl mv_X7_hasRoll hw782 rfl ⟨Nat.le_of_ble_eq_true rfl, Nat.le_of_ble_eq_true rfl⟩ (Nat.le_of_ble_eq_true rfl) dX11_act_5 rfl) rfl (fun x1 => ?_)
  refine T_if_eq (pc := 8) 22 dX11_act_8 (by decide) (fun _ => ?_) (fun _ => ?_)
  · refine T_iconst (pc := 22) (v := -1) dX11_act_22 (by decide) ?_
    exact T_ireturn (pc := 23) rfl dX11_act_23 rfl
  · refine T_aload_n (pc := 11) 0 dX11_act_11 rfl rfl ?_
    refine T_getA (pc := 12) fd_0_7 hw446 dX11_act_12 ?_
    refine T_iload_n (pc := 15) 1 dX11_act_15 rfl rfl ?_
    refine T_callSi (pc := 16) (rest := []) (Rn_V (pc := 16) (as := [.int p0]) (rest := []) (ctX8_goOn σ p0) rfl rfl mv_X8_goOn hw1122 rfl ⟨Nat.le_of_ble_eq_true rfl, Nat.le_of_ble_eq_true rfl⟩ (Nat.le_of_ble_eq_true rfl) dX11_act_16 rfl) rfl (fun r2 => ?_)
    refine T_goto (pc := 19) 23 dX11_act_19 (by decide) ?_
    exact T_ireturn (pc := 23) rfl dX11_act_23 rfl
set_option maxRecDepth 100000 in
set_option maxHeartbeats 4000000 in
theorem fX7_cutTo_L15_T (v1 : Int32) (σ : St) {k1 : St → Option St} {kb : St → Int32 → Option St} (hk1 : ∀ (σ' : St), T kX7_cutTo cSv σ' 53 [(0, .ref 5), (1, .int v1)] [] (k1 σ')) (hkb : ∀ (σ' : St) (w2 : Int32), T kX7_cutTo cSv σ' 15 [(0, .ref 5), (1, .int v1), (2, .int w2)] [] (kb σ' w2)) (v2 : Int32) : T kX7_cutTo cSv σ 15 [(0, .ref 5), (1, .int v1), (2, .int v2)] [] (fX7_cutTo_L15 v1 k1 kb σ v2) := by
  unfold fX7_cutTo_L15
  refine T_iload_n (pc := 15) 2 dX7_cutTo_15 rfl rfl ?_
  refine T_aload_n (pc := 16) 0 dX7_cutTo_16 rfl rfl ?_
  refine T_getI (pc := 17) fd_5_8 hw155 dX7_cutTo_17 ?_
  refine T_icmp_ge (pc := 20) 53 dX7_cutTo_20 (by decide) (fun _ => ?_) (fun _ => ?_)
  · refine T_pick (lv' := [(0, .ref 5), (1, .int v1)]) [0, 1] rfl ?_
    exact hk1 σ
  · refine T_iload_n (pc := 23) 2 dX7_cutTo_23 rfl rfl ?_
    refine T_aload_n (pc := 24) 0 dX7_cutTo_24 rfl rfl ?_
    refine T_getA (pc := 25) fd_5_0 hw147 dX7_cutTo_25 ?_
    refine T_alen (pc := 28) (v := 8) rfl (by decide) dX7_cutTo_28 ?_
    refine T_icmp_ge (pc := 29) 53 dX7_cutTo_29 (by decide) (fun _ => ?_) (fun _ => ?_)
    · refine T_pick (lv' := [(0, .ref 5), (1, .int v1)]) [0, 1] rfl ?_
      exact hk1 σ
    · refine T_aload_n (pc := 32) 0 dX7_cutTo_32 rfl rfl ?_
      refine T_dup_a (pc := 33) dX7_cutTo_33 ?_
      refine T_getI (pc := 34) fd_5_7 hw154 dX7_cutTo_34 ?_
      refine T_aload_n (pc := 37) 0 dX7_cutTo_37 rfl rfl ?_
      refine T_getA (pc := 38) fd_5_0 hw147 dX7_cutTo_38 ?_
      refine T_iload_n (pc := 41) 2 dX7_cutTo_41 rfl rfl ?_
      refine T_iald (pc := 42) rfl dX7_cutTo_42 (fun x1 => ?_)
      refine T_isub (pc := 43) dX7_cutTo_43 ?_
      refine T_putI (pc := 44) fd_5_7 hw154 dX7_cutTo_44 ?_
      refine T_letS (fun s2 => ?_)
      refine T_iinc (pc := 47) (y := 1) (lv' := [(0, .ref 5), (1, .int v1), (2, .int (v2 + (1 : Int32)))]) 2 dX7_cutTo_47 (by decide) rfl (Nat.le_of_ble_eq_true rfl) rfl ?_
      refine T_goto (pc := 50) 15 dX7_cutTo_50 (by decide) ?_
      exact hkb s2 (v2 + (1 : Int32))
set_option maxRecDepth 100000 in
set_option maxHeartbeats 4000000 in
theorem fX7_cutTo_P15_T (v1 : Int32) (σ : St) {k1 : St → Option St} (hk1 : ∀ (σ' : St), T kX7_cutTo cSv σ' 53 [(0, .ref 5), (1, .int v1)] [] (k1 σ')) (v2 : Int32) : T kX7_cutTo cSv σ 15 [(0, .ref 5), (1, .int v1), (2, .int v2)] [] (fX7_cutTo_P15 v1 k1 σ v2) :=
  it_T (S := (fun t : St × Int32 => t.1)) (lv := fun t : St × Int32 => [(0, .ref 5), (1, .int v1), (2, .int t.2)]) (st := fun _ => []) (fun kb hkb t => fX7_cutTo_L15_T v1 (hk1 := hk1) (hkb := fun σ v2 => hkb (σ, v2)) t.1 t.2) FU (σ, v2)
set_option maxRecDepth 100000 in
set_option maxHeartbeats 4000000 in
theorem ctX7_cutTo (σ : St) (p0 : Int32) : Ct yX7_cutTo kX7_cutTo [.ref 5, .int p0] σ cSv (fX7_cutTo σ p0) := by
  refine Ct.of (by decide +kernel) rfl rfl (Nat.le_of_ble_eq_true rfl) ?_
  unfold fX7_cutTo
  show T _ _ _ 0 [(0, .ref 5), (1, .int p0)] [] _
  refine T_iload_n (pc := 0) 1 dX7_cutTo_0 rfl rfl ?_
  refine T_if_lt (pc := 1) 12 dX7_cutTo_1 (by decide) (fun _ => ?_) (fun _ => ?_)
  · exact T_return (pc := 12) rfl dX7_cutTo_12 rfl
  · refine T_iload_n (pc := 4) 1 dX7_cutTo_4 rfl rfl ?_
    refine T_aload_n (pc := 5) 0 dX7_cutTo_5 rfl rfl ?_
    refine T_getI (pc := 6) fd_5_8 hw155 dX7_cutTo_6 ?_
    refine T_icmp_lt (pc := 9) 13 dX7_cutTo_9 (by decide) (fun _ => ?_) (fun _ => ?_)
    · refine T_iload_n (pc := 13) 1 dX7_cutTo_13 rfl rfl ?_
      refine T_istore_n (pc := 14) (lv' := [(0, .ref 5), (1, .int p0), (2, .int p0)]) dX7_cutTo_14 rfl (Nat.le_of_ble_eq_true rfl) rfl ?_
      refine fX7_cutTo_P15_T p0 (hk1 := fun s3 => ?_) σ p0
      · refine T_aload_n (pc := 53) 0 dX7_cutTo_53 rfl rfl ?_
        refine T_iload_n (pc := 54) 1 dX7_cutTo_54 rfl rfl ?_
        refine T_putI (pc := 55) fd_5_8 hw155 dX7_cutTo_55 ?_
        refine T_letS (fun s4 => ?_)
        refine T_aload_n (pc := 58) 0 dX7_cutTo_58 rfl rfl ?_
        refine T_dup_a (pc := 59) dX7_cutTo_59 ?_
        refine T_getI (pc := 60) fd_5_9 hw156 dX7_cutTo_60 ?_
        refine T_iconst (pc := 63) (v := 1) dX7_cutTo_63 (by decide) ?_
        refine T_iadd (pc := 64) dX7_cutTo_64 ?_
        refine T_putI (pc := 65) fd_5_9 hw156 dX7_cutTo_65 ?_
        refine T_letS (fun s5 => ?_)
        exact T_return (pc := 68) rfl dX7_cutTo_68 rfl
    · exact T_return (pc := 12) rfl dX7_cutTo_12 rfl
set_option maxRecDepth 100000 in
set_option maxHeartbeats 4000000 in
theorem ctX8_cutTo (σ : St) (p0 : Int32) : Ct yX8_cutTo kX8_cutTo [.ref 8, .int p0] σ cSv (fX8_cutTo σ p0) := by
  refine Ct.of (by decide +kernel) rfl rfl (Nat.le_of_ble_eq_true rfl) ?_
  unfold fX8_cutTo
  show T _ _ _ 0 [(0, .ref 8), (1, .int p0)] [] _
  refine T_iload_n (pc := 0) 1 dX8_cutTo_0 rfl rfl ?_
  refine T_if_lt (pc := 1) 17 dX8_cutTo_1 (by decide) (fun _ => ?_) (fun _ => ?_)
  · exact T_return (pc := 17) rfl dX8_cutTo_17 rfl
  · refine T_iload_n (pc := 4) 1 dX8_cutTo_4 rfl rfl ?_
    refine T_aload_n (pc := 5) 0 dX8_cutTo_5 rfl rfl ?_
    refine T_getI (pc := 6) fd_8_5 hw394 dX8_cutTo_6 ?_
    refine T_icmp_ge (pc := 9) 17 dX8_cutTo_9 (by decide) (fun _ => ?_) (fun _ => ?_)
    · exact T_return (pc := 17) rfl dX8_cutTo_17 rfl
    · refine T_aload_n (pc := 12) 0 dX8_cutTo_12 rfl rfl ?_
      refine T_iload_n (pc := 13) 1 dX8_cutTo_13 rfl rfl ?_
      refine T_putI (pc := 14) fd_8_5 hw394 dX8_cutTo_14 ?_
      refine T_letS (fun s1 => ?_)
      exact T_return (pc := 17) rfl dX8_cutTo_17 rfl
set_option maxRecDepth 100000 in
set_option maxHeartbeats 4000000 in
theorem ctX8_played (σ : St) : Ct yX8_played kX8_played [.ref 8] σ (cPi σ) (fX8_played σ) := by
  refine Ct.of (by decide +kernel) rfl rfl (Nat.le_of_ble_eq_true rfl) ?_
  unfold fX8_played
  show T _ _ _ 0 [(0, .ref 8)] [] _
  refine T_aload_n (pc := 0) 0 dX8_played_0 rfl rfl ?_
  refine T_getI (pc := 1) fd_8_5 hw394 dX8_played_1 ?_
  exact T_ireturn (pc := 4) rfl dX8_played_4 rfl
set_option maxRecDepth 100000 in
set_option maxHeartbeats 4000000 in
theorem ctX11_back (σ : St) : Ct yX11_back kX11_back [.ref 0] σ cSi (fX11_back σ) := by
  refine Ct.of (by decide +kernel) rfl rfl (Nat.le_of_ble_eq_true rfl) ?_
  unfold fX11_back
  show T _ _ _ 0 [(0, .ref 0)] [] _
  refine T_aload_n (pc := 0) 0 dX11_back_0 rfl rfl ?_
  refine T_getA (pc := 1) fd_0_4 hw443 dX11_back_1 ?_
  refine T_aload_n (pc := 4) 0 dX11_back_4 rfl rfl ?_
  refine T_getI (pc := 5) fd_0_9 hw448 dX11_back_5 ?_
  refine T_callSv (pc := 8) (rest := []) (Rn_V (pc := 8) (as := [.int (zI σ 0)]) (rest := []) (ctX7_cutTo σ (zI σ 0)) rfl rfl mv_X7_cutTo hw1389 rfl ⟨Nat.le_of_ble_eq_true rfl, Nat.le_of_ble_eq_true rfl⟩ (Nat.le_of_ble_eq_true rfl) dX11_back_8 rfl) rfl (fun s1 => ?_)
  refine T_aload_n (pc := 11) 0 dX11_back_11 rfl rfl ?_
  refine T_getA (pc := 12) fd_0_7 hw446 dX11_back_12 ?_
  refine T_aload_n (pc := 15) 0 dX11_back_15 rfl rfl ?_
  refine T_getI (pc := 16) fd_0_10 hw449 dX11_back_16 ?_
  refine T_callSv (pc := 19) (rest := []) (Rn_V (pc := 19) (as := [.int (zI s1 1)]) (rest := []) (ctX8_cutTo s1 (zI s1 1)) rfl rfl mv_X8_cutTo hw1393 rfl ⟨Nat.le_of_ble_eq_true rfl, Nat.le_of_ble_eq_true rfl⟩ (Nat.le_of_ble_eq_true rfl) dX11_back_19 rfl) rfl (fun s2 => ?_)
  refine T_aload_n (pc := 22) 0 dX11_back_22 rfl rfl ?_
  refine T_getA (pc := 23) fd_0_4 hw443 dX11_back_23 ?_
  refine T_callPi (pc := 26) (rest := []) (Rn_V (pc := 26) (as := []) (rest := []) (ctX7_number s2) rfl rfl mv_X7_number hw1384 rfl ⟨Nat.le_of_ble_eq_true rfl, Nat.le_of_ble_eq_true rfl⟩ (Nat.le_of_ble_eq_true rfl) dX11_back_26 rfl) rfl (fun x3 => ?_)
  refine T_aload_n (pc := 29) 0 dX11_back_29 rfl rfl ?_
  refine T_getA (pc := 30) fd_0_7 hw446 dX11_back_30 ?_
  refine T_callPi (pc := 33) (rest := [.int x3]) (Rn_V (pc := 33) (as := []) (rest := [.int x3]) (ctX8_played s2) rfl rfl mv_X8_played hw1136 rfl ⟨Nat.le_of_ble_eq_true rfl, Nat.le_of_ble_eq_true rfl⟩ (Nat.le_of_ble_eq_true rfl) dX11_back_33 rfl) rfl (fun x4 => ?_)
  refine T_iadd (pc := 36) dX11_back_36 ?_
  exact T_ireturn (pc := 37) rfl dX11_back_37 rfl
set_option maxRecDepth 100000 in
set_option maxHeartbeats 4000000 in
theorem ctX4_has (σ : St) (p0 : Int32) : Ct yX4_has kX4_has [.ref 9, .int p0] σ (cPz σ) (fX4_has σ p0) := by
  refine Ct.of (by decide +kernel) rfl rfl (Nat.le_of_ble_eq_true rfl) ?_
  unfold fX4_has
  show T _ _ _ 0 [(0, .ref 9), (1, .int p0)] [] _
  refine T_iload_n (pc := 0) 1 dX4_has_0 rfl rfl ?_
  refine T_if_lt (pc := 1) 21 dX4_has_1 (by decide) (fun _ => ?_) (fun _ => ?_)
  · refine T_iconst (pc := 21) (v := 0) dX4_has_21 (by decide) ?_
    exact T_zreturn (pc := 22) false rfl dX4_has_22 rfl rfl
  · refine T_iload_n (pc := 4) 1 dX4_has_4 rfl rfl ?_
    refine T_aload_n (pc := 5) 0 dX4_has_5 rfl rfl ?_
    refine T_getI (pc := 6) fd_9_5 hw422 dX4_has_6 ?_
    refine T_icmp_ge (pc := 9) 21 dX4_has_9 (by decide) (fun _ => ?_) (fun _ => ?_)
    · refine T_iconst (pc := 21) (v := 0) dX4_has_21 (by decide) ?_
      exact T_zreturn (pc := 22) false rfl dX4_has_22 rfl rfl
    · refine T_iload_n (pc := 12) 1 dX4_has_12 rfl rfl ?_
      refine T_iconst (pc := 13) (v := 4) dX4_has_13 (by decide) ?_
      refine T_icmp_ge (pc := 14) 21 dX4_has_14 (by decide) (fun _ => ?_) (fun _ => ?_)
      · refine T_iconst (pc := 21) (v := 0) dX4_has_21 (by decide) ?_
        exact T_zreturn (pc := 22) false rfl dX4_has_22 rfl rfl
      · refine T_iconst (pc := 17) (v := 1) dX4_has_17 (by decide) ?_
        refine T_goto (pc := 18) 22 dX4_has_18 (by decide) ?_
        exact T_zreturn (pc := 22) true rfl dX4_has_22 rfl rfl
set_option maxRecDepth 100000 in
set_option maxHeartbeats 4000000 in
theorem ctX4_isChange (σ : St) (p0 : Int32) : Ct yX4_isChange kX4_isChange [.int p0] σ (cPz σ) (fX4_isChange p0) := by
  refine Ct.of (by decide +kernel) rfl rfl (Nat.le_of_ble_eq_true rfl) ?_
  unfold fX4_isChange
  show T _ _ _ 0 [(0, .int p0)] [] _
  refine T_iload_n (pc := 0) 0 dX4_isChange_0 rfl rfl ?_
  refine T_if_lt (pc := 1) 13 dX4_isChange_1 (by decide) (fun _ => ?_) (fun _ => ?_)
  · refine T_iconst (pc := 13) (v := 0) dX4_isChange_13 (by decide) ?_
    exact T_zreturn (pc := 14) false rfl dX4_isChange_14 rfl rfl
  · refine T_iload_n (pc := 4) 0 dX4_isChange_4 rfl rfl ?_
    refine T_iconst (pc := 5) (v := 3) dX4_isChange_5 (by decide) ?_
    refine T_icmp_gt (pc := 6) 13 dX4_isChange_6 (by decide) (fun _ => ?_) (fun _ => ?_)
    · refine T_iconst (pc := 13) (v := 0) dX4_isChange_13 (by decide) ?_
      exact T_zreturn (pc := 14) false rfl dX4_isChange_14 rfl rfl
    · refine T_iconst (pc := 9) (v := 1) dX4_isChange_9 (by decide) ?_
      refine T_goto (pc := 10) 14 dX4_isChange_10 (by decide) ?_
      exact T_zreturn (pc := 14) true rfl dX4_isChange_14 rfl rfl
set_option maxRecDepth 100000 in
set_option maxHeartbeats 4000000 in
theorem ctX4_sizeOf (σ : St) (p0 : Int32) : Ct yX4_sizeOf kX4_sizeOf [.ref 9, .int p0] σ (cPi σ) (fX4_sizeOf σ p0) := by
  refine Ct.of (by decide +kernel) rfl rfl (Nat.le_of_ble_eq_true rfl) ?_
  unfold fX4_sizeOf
  show T _ _ _ 0 [(0, .ref 9), (1, .int p0)] [] _
  refine T_iload_n (pc := 0) 1 dX4_sizeOf_0 rfl rfl ?_
  refine T_if_lt (pc := 1) 30 dX4_sizeOf_1 (by decide) (fun _ => ?_) (fun _ => ?_)
  · refine T_iconst (pc := 30) (v := 0) dX4_sizeOf_30 (by decide) ?_
    exact T_ireturn (pc := 31) rfl dX4_sizeOf_31 rfl
  · refine T_iload_n (pc := 4) 1 dX4_sizeOf_4 rfl rfl ?_
    refine T_aload_n (pc := 5) 0 dX4_sizeOf_5 rfl rfl ?_
    refine T_getI (pc := 6) fd_9_5 hw422 dX4_sizeOf_6 ?_
    refine T_icmp_ge (pc := 9) 30 dX4_sizeOf_9 (by decide) (fun _ => ?_) (fun _ => ?_)
    · refine T_iconst (pc := 30) (v := 0) dX4_sizeOf_30 (by decide) ?_
      exact T_ireturn (pc := 31) rfl dX4_sizeOf_31 rfl
    · refine T_iload_n (pc := 12) 1 dX4_sizeOf_12 rfl rfl ?_
      refine T_aload_n (pc := 13) 0 dX4_sizeOf_13 rfl rfl ?_
      refine T_getA (pc := 14) fd_9_1 hw418 dX4_sizeOf_14 ?_
      refine T_alen (pc := 17) (v := 4) rfl (by decide) dX4_sizeOf_17 ?_
      refine T_icmp_ge (pc := 18) 30 dX4_sizeOf_18 (by decide) (fun _ => ?_) (fun _ => ?_)
      · refine T_iconst (pc := 30) (v := 0) dX4_sizeOf_30 (by decide) ?_
        exact T_ireturn (pc := 31) rfl dX4_sizeOf_31 rfl
      · refine T_aload_n (pc := 21) 0 dX4_sizeOf_21 rfl rfl ?_
        refine T_getA (pc := 22) fd_9_1 hw418 dX4_sizeOf_22 ?_
        refine T_iload_n (pc := 25) 1 dX4_sizeOf_25 rfl rfl ?_
        refine T_iald (pc := 26) rfl dX4_sizeOf_26 (fun x1 => ?_)
        refine T_goto (pc := 27) 31 dX4_sizeOf_27 (by decide) ?_
        exact T_ireturn (pc := 31) rfl dX4_sizeOf_31 rfl
set_option maxRecDepth 100000 in
set_option maxHeartbeats 4000000 in
theorem ctX4_partsIn (σ : St) (p0 : Int32) (p1 : Int32) : Ct yX4_partsIn kX4_partsIn [.ref 9, .int p0, .int p1] σ (cPi σ) (fX4_partsIn σ p0 p1) := by
  refine Ct.of (by decide +kernel) rfl rfl (Nat.le_of_ble_eq_true rfl) ?_
  unfold fX4_partsIn
  show T _ _ _ 0 [(0, .ref 9), (1, .int p0), (2, .int p1)] [] _
  refine T_iload_n (pc := 0) 2 dX4_partsIn_0 rfl rfl ?_
  refine T_if_lt (pc := 1) 13 dX4_partsIn_1 (by decide) (fun _ => ?_) (fun _ => ?_)
  · refine T_iconst (pc := 13) (v := -1) dX4_partsIn_13 (by decide) ?_
    exact T_ireturn (pc := 14) rfl dX4_partsIn_14 rfl
  · refine T_iload_n (pc := 4) 2 dX4_partsIn_4 rfl rfl ?_
    refine T_aload_n (pc := 5) 0 dX4_partsIn_5 rfl rfl ?_
    refine T_iload_n (pc := 6) 1 dX4_partsIn_6 rfl rfl ?_
    refine T_callPi (pc := 7) (rest := [.int p1]) (Rn_V (pc := 7) (as := [.int p0]) (rest := [.int p1]) (ctX4_sizeOf σ p0) rfl rfl mv_X4_sizeOf hw1230 rfl ⟨Nat.le_of_ble_eq_true rfl, Nat.le_of_ble_eq_true rfl⟩ (Nat.le_of_ble_eq_true rfl) dX4_partsIn_7 rfl) rfl (fun x1 => ?_)
    refine T_icmp_lt (pc := 10) 15 dX4_partsIn_10 (by decide) (fun _ => ?_) (fun _ => ?_)
    · refine T_bipush (pc := 15) (v := 20) dX4_partsIn_15 (by decide) ?_
      refine T_iload_n (pc := 17) 1 dX4_partsIn_17 rfl rfl ?_
      refine T_imul (pc := 18) dX4_partsIn_18 ?_
      refine T_iload_n (pc := 19) 2 dX4_partsIn_19 rfl rfl ?_
      refine T_iadd (pc := 20) dX4_partsIn_20 ?_
      refine T_letI (fun x2 => ?_)
      refine T_istore_n (pc := 21) (lv' := [(0, .ref 9), (1, .int p0), (2, .int p1), (3, .int x2)]) dX4_partsIn_21 rfl (Nat.le_of_ble_eq_true rfl) rfl ?_
      refine T_iload_n (pc := 22) 3 dX4_partsIn_22 rfl rfl ?_
      refine T_aload_n (pc := 23) 0 dX4_partsIn_23 rfl rfl ?_
      refine T_getA (pc := 24) fd_9_0 hw417 dX4_partsIn_24 ?_
      refine T_alen (pc := 27) (v := 80) rfl (by decide) dX4_partsIn_27 ?_
      refine T_icmp_ge (pc := 28) 40 dX4_partsIn_28 (by decide) (fun _ => ?_) (fun _ => ?_)
      · refine T_iconst (pc := 40) (v := -1) dX4_partsIn_40 (by decide) ?_
        exact T_ireturn (pc := 41) rfl dX4_partsIn_41 rfl
      · refine T_aload_n (pc := 31) 0 dX4_partsIn_31 rfl rfl ?_
        refine T_getA (pc := 32) fd_9_0 hw417 dX4_partsIn_32 ?_
        refine T_iload_n (pc := 35) 3 dX4_partsIn_35 rfl rfl ?_
        refine T_iald (pc := 36) rfl dX4_partsIn_36 (fun x3 => ?_)
        refine T_goto (pc := 37) 41 dX4_partsIn_37 (by decide) ?_
        exact T_ireturn (pc := 41) rfl dX4_partsIn_41 rfl
    · refine T_iconst (pc := 13) (v := -1) dX4_partsIn_13 (by decide) ?_
      exact T_ireturn (pc := 14) rfl dX4_partsIn_14 rfl
set_option maxRecDepth 100000 in
set_option maxHeartbeats 4000000 in
theorem fX4_partsOf_L4_T (v1 : Int32) (σ : St) {kb : Int32 → Int32 → Option Int32} (hkb : ∀ (w2 : Int32) (w3 : Int32), T kX4_partsOf (cPi σ) σ 4 [(0, .ref 9), (1, .int v1), (2, .int w2), (3, .int w3)] [] (kb w2 w3)) (v2 : Int32) (v3 : Int32) : T kX4_partsOf (cPi σ) σ 4 [(0, .ref 9), (1, .int v1), (2, .int v2), (3, .int v3)] [] (fX4_partsOf_L4 v1 kb σ v2 v3) := by
  unfold fX4_partsOf_L4
  refine T_iload_n (pc := 4) 3 dX4_partsOf_4 rfl rfl ?_
  refine T_aload_n (pc := 5) 0 dX4_partsOf_5 rfl rfl ?_
  refine T_iload_n (pc := 6) 1 dX4_partsOf_6 rfl rfl ?_
  refine T_callPi (pc := 7) (rest := [.int v3]) (Rn_V (pc := 7) (as := [.int v1]) (rest := [.int v3]) (ctX4_sizeOf σ v1) rfl rfl mv_X4_sizeOf hw1230 rfl ⟨Nat.le_of_ble_eq_true rfl, Nat.le_of_ble_eq_true rfl⟩ (Nat.le_of_ble_eq_true rfl) dX4_partsOf_7 rfl) rfl (fun x1 => ?_)
  refine T_icmp_ge (pc := 10) 28 dX4_partsOf_10 (by decide) (fun _ => ?_) (fun _ => ?_)
  · refine T_iload_n (pc := 28) 2 dX4_partsOf_28 rfl rfl ?_
    exact T_ireturn (pc := 29) rfl dX4_partsOf_29 rfl
  · refine T_iload_n (pc := 13) 2 dX4_partsOf_13 rfl rfl ?_
    refine T_aload_n (pc := 14) 0 dX4_partsOf_14 rfl rfl ?_
    refine T_iload_n (pc := 15) 1 dX4_partsOf_15 rfl rfl ?_
    refine T_iload_n (pc := 16) 3 dX4_partsOf_16 rfl rfl ?_
    refine T_callPi (pc := 17) (rest := [.int v2]) (Rn_V (pc := 17) (as := [.int v1, .int v3]) (rest := [.int v2]) (ctX4_partsIn σ v1 v3) rfl rfl mv_X4_partsIn hw1234 rfl ⟨Nat.le_of_ble_eq_true rfl, Nat.le_of_ble_eq_true rfl⟩ (Nat.le_of_ble_eq_true rfl) dX4_partsOf_17 rfl) rfl (fun x2 => ?_)
    refine T_ior (pc := 20) dX4_partsOf_20 ?_
    refine T_letI (fun x3 => ?_)
    refine T_istore_n (pc := 21) (lv' := [(0, .ref 9), (1, .int v1), (2, .int x3), (3, .int v3)]) dX4_partsOf_21 rfl (Nat.le_of_ble_eq_true rfl) rfl ?_
    refine T_iinc (pc := 22) (y := 1) (lv' := [(0, .ref 9), (1, .int v1), (2, .int x3), (3, .int (v3 + (1 : Int32)))]) 3 dX4_partsOf_22 (by decide) rfl (Nat.le_of_ble_eq_true rfl) rfl ?_
    refine T_goto (pc := 25) 4 dX4_partsOf_25 (by decide) ?_
    exact hkb x3 (v3 + (1 : Int32))
set_option maxRecDepth 100000 in
set_option maxHeartbeats 4000000 in
theorem fX4_partsOf_P4_T (v1 : Int32) (σ : St) (v2 : Int32) (v3 : Int32) : T kX4_partsOf (cPi σ) σ 4 [(0, .ref 9), (1, .int v1), (2, .int v2), (3, .int v3)] [] (fX4_partsOf_P4 v1 σ v2 v3) :=
  it_T (S := (fun _ : Int32 × Int32 => σ)) (lv := fun t : Int32 × Int32 => [(0, .ref 9), (1, .int v1), (2, .int t.1), (3, .int t.2)]) (st := fun _ => []) (fun kb hkb t => fX4_partsOf_L4_T v1 (hkb := fun v2 v3 => hkb (v2, v3)) σ t.1 t.2) FU (v2, v3)
set_option maxRecDepth 100000 in
set_option maxHeartbeats 4000000 in
theorem ctX4_partsOf (σ : St) (p0 : Int32) : Ct yX4_partsOf kX4_partsOf [.ref 9, .int p0] σ (cPi σ) (fX4_partsOf σ p0) := by
  refine Ct.of (by decide +kernel) rfl rfl (Nat.le_of_ble_eq_true rfl) ?_
  unfold fX4_partsOf
  show T _ _ _ 0 [(0, .ref 9), (1, .int p0)] [] _
  refine T_iconst (pc := 0) (v := 0) dX4_partsOf_0 (by decide) ?_
  refine T_istore_n (pc := 1) (lv' := [(0, .ref 9), (1, .int p0), (2, .int (0 : Int32))]) dX4_partsOf_1 rfl (Nat.le_of_ble_eq_true rfl) rfl ?_
  refine T_iconst (pc := 2) (v := 0) dX4_partsOf_2 (by decide) ?_
  refine T_istore_n (pc := 3) (lv' := [(0, .ref 9), (1, .int p0), (2, .int (0 : Int32)), (3, .int (0 : Int32))]) dX4_partsOf_3 rfl (Nat.le_of_ble_eq_true rfl) rfl ?_
  exact fX4_partsOf_P4_T p0 σ (0 : Int32) (0 : Int32)
set_option maxRecDepth 100000 in
set_option maxHeartbeats 4000000 in
theorem ctX4_isIn (σ : St) (p0 : Int32) (p1 : Int32) : Ct yX4_isIn kX4_isIn [.int p0, .int p1] σ (cPz σ) (fX4_isIn p0 p1) := by
  refine Ct.of (by decide +kernel) rfl rfl (Nat.le_of_ble_eq_true rfl) ?_
  unfold fX4_isIn
  show T _ _ _ 0 [(0, .int p0), (1, .int p1)] [] _
  refine T_iload_n (pc := 0) 1 dX4_isIn_0 rfl rfl ?_
  refine T_iload_n (pc := 1) 0 dX4_isIn_1 rfl rfl ?_
  refine T_ishr (pc := 2) dX4_isIn_2 ?_
  refine T_iconst (pc := 3) (v := 1) dX4_isIn_3 (by decide) ?_
  refine T_iand (pc := 4) dX4_isIn_4 ?_
  refine T_if_eq (pc := 5) 12 dX4_isIn_5 (by decide) (fun _ => ?_) (fun _ => ?_)
  · refine T_iconst (pc := 12) (v := 0) dX4_isIn_12 (by decide) ?_
    exact T_zreturn (pc := 13) false rfl dX4_isIn_13 rfl rfl
  · refine T_iconst (pc := 8) (v := 1) dX4_isIn_8 (by decide) ?_
    refine T_goto (pc := 9) 13 dX4_isIn_9 (by decide) ?_
    exact T_zreturn (pc := 13) true rfl dX4_isIn_13 rfl rfl
set_option maxRecDepth 100000 in
set_option maxHeartbeats 4000000 in
theorem ctX4_hasPart (σ : St) (p0 : Int32) (p1 : Int32) : Ct yX4_hasPart kX4_hasPart [.ref 9, .int p0, .int p1] σ (cPz σ) (fX4_hasPart σ p0 p1) := by
  refine Ct.of (by decide +kernel) rfl rfl (Nat.le_of_ble_eq_true rfl) ?_
  unfold fX4_hasPart
  show T _ _ _ 0 [(0, .ref 9), (1, .int p0), (2, .int p1)] [] _
  refine T_iload_n (pc := 0) 2 dX4_hasPart_0 rfl rfl ?_
  refine T_if_lt (pc := 1) 26 dX4_hasPart_1 (by decide) (fun _ => ?_) (fun _ => ?_)
  · refine T_iconst (pc := 26) (v := 0) dX4_hasPart_26 (by decide) ?_
    exact T_zreturn (pc := 27) false rfl dX4_hasPart_27 rfl rfl
  · refine T_iload_n (pc := 4) 2 dX4_hasPart_4 rfl rfl ?_
    refine T_bipush (pc := 5) (v := 10) dX4_hasPart_5 (by decide) ?_
    refine T_icmp_ge (pc := 7) 26 dX4_hasPart_7 (by decide) (fun _ => ?_) (fun _ => ?_)
    · refine T_iconst (pc := 26) (v := 0) dX4_hasPart_26 (by decide) ?_
      exact T_zreturn (pc := 27) false rfl dX4_hasPart_27 rfl rfl
    · refine T_iload_n (pc := 10) 2 dX4_hasPart_10 rfl rfl ?_
      refine T_aload_n (pc := 11) 0 dX4_hasPart_11 rfl rfl ?_
      refine T_iload_n (pc := 12) 1 dX4_hasPart_12 rfl rfl ?_
      refine T_callPi (pc := 13) (rest := [.int p1]) (Rn_V (pc := 13) (as := [.int p0]) (rest := [.int p1]) (ctX4_partsOf σ p0) rfl rfl mv_X4_partsOf hw1250 rfl ⟨Nat.le_of_ble_eq_true rfl, Nat.le_of_ble_eq_true rfl⟩ (Nat.le_of_ble_eq_true rfl) dX4_hasPart_13 rfl) rfl (fun x1 => ?_)
      refine T_callPz (pc := 16) (rest := []) (Rn_S (pc := 16) (as := [.int p1, .int x1]) (rest := []) (ctX4_isIn σ p1 x1) ms_X4_isIn hw1251 rfl ⟨Nat.le_of_ble_eq_true rfl, Nat.le_of_ble_eq_true rfl⟩ (Nat.le_of_ble_eq_true rfl) dX4_hasPart_16 rfl) rfl (fun x2 => ?_)
      refine T_if_eq (pc := 19) 26 dX4_hasPart_19 (by decide) (fun _ => ?_) (fun _ => ?_)
      · refine T_iconst (pc := 26) (v := 0) dX4_hasPart_26 (by decide) ?_
        exact T_zreturn (pc := 27) false rfl dX4_hasPart_27 rfl rfl
      · refine T_iconst (pc := 22) (v := 1) dX4_hasPart_22 (by decide) ?_
        refine T_goto (pc := 23) 27 dX4_hasPart_23 (by decide) ?_
        exact T_zreturn (pc := 27) true rfl dX4_hasPart_27 rfl rfl
set_option maxRecDepth 100000 in
set_option maxHeartbeats 4000000 in
theorem fX4_layNear_L2_T (v1 : Int32) (v2 : Int32) (σ : St) {k1 : St → Option St} {kb : St → Int32 → Option St} (hk1 : ∀ (σ' : St), T kX4_layNear cSv σ' 24 [(0, .ref 9), (1, .int v1), (2, .int v2)] [] (k1 σ')) (hkb : ∀ (σ' : St) (w3 : Int32), T kX4_layNear cSv σ' 2 [(0, .ref 9), (1, .int v1), (2, .int v2), (3, .int w3)] [] (kb σ' w3)) (v3 : Int32) : T kX4_layNear cSv σ 2 [(0, .ref 9), (1, .int v1), (2, .int v2), (3, .int v3)] [] (fX4_layNear_L2 v1 v2 k1 kb σ v3) := by
  unfold fX4_layNear_L2
  refine T_iload_n (pc := 2) 3 dX4_layNear_2 rfl rfl ?_
  refine T_aload_n (pc := 3) 0 dX4_layNear_3 rfl rfl ?_
  refine T_getA (pc := 4) fd_9_2 hw419 dX4_layNear_4 ?_
  refine T_alen (pc := 7) (v := 10) rfl (by decide) dX4_layNear_7 ?_
  refine T_icmp_ge (pc := 8) 24 dX4_layNear_8 (by decide) (fun _ => ?_) (fun _ => ?_)
  · refine T_pick (lv' := [(0, .ref 9), (1, .int v1), (2, .int v2)]) [0, 1, 2] rfl ?_
    exact hk1 σ
  · refine T_aload_n (pc := 11) 0 dX4_layNear_11 rfl rfl ?_
    refine T_getA (pc := 12) fd_9_2 hw419 dX4_layNear_12 ?_
    refine T_iload_n (pc := 15) 3 dX4_layNear_15 rfl rfl ?_
    refine T_iconst (pc := 16) (v := 0) dX4_layNear_16 (by decide) ?_
    refine T_iast (pc := 17) rfl dX4_layNear_17 ?_
    refine T_letS (fun s1 => ?_)
    refine T_iinc (pc := 18) (y := 1) (lv' := [(0, .ref 9), (1, .int v1), (2, .int v2), (3, .int (v3 + (1 : Int32)))]) 3 dX4_layNear_18 (by decide) rfl (Nat.le_of_ble_eq_true rfl) rfl ?_
    refine T_goto (pc := 21) 2 dX4_layNear_21 (by decide) ?_
    exact hkb s1 (v3 + (1 : Int32))
set_option maxRecDepth 100000 in
set_option maxHeartbeats 4000000 in
theorem fX4_layNear_P2_T (v1 : Int32) (v2 : Int32) (σ : St) {k1 : St → Option St} (hk1 : ∀ (σ' : St), T kX4_layNear cSv σ' 24 [(0, .ref 9), (1, .int v1), (2, .int v2)] [] (k1 σ')) (v3 : Int32) : T kX4_layNear cSv σ 2 [(0, .ref 9), (1, .int v1), (2, .int v2), (3, .int v3)] [] (fX4_layNear_P2 v1 v2 k1 σ v3) :=
  it_T (S := (fun t : St × Int32 => t.1)) (lv := fun t : St × Int32 => [(0, .ref 9), (1, .int v1), (2, .int v2), (3, .int t.2)]) (st := fun _ => []) (fun kb hkb t => fX4_layNear_L2_T v1 v2 (hk1 := hk1) (hkb := fun σ v3 => hkb (σ, v3)) t.1 t.2) FU (σ, v3)
set_option maxRecDepth 100000 in
set_option maxHeartbeats 4000000 in
theorem fX4_layNear_L64_T (v1 : Int32) (v2 : Int32) (v3 : Int32) (v4 : Int32) (v6 : Int32) (σ : St) {k1 : Int32 → Option St} {kb : Int32 → Int32 → Option St} (hk1 : ∀ (w5 : Int32), T kX4_layNear cSv σ 89 [(0, .ref 9), (1, .int v1), (2, .int v2), (3, .int v3), (4, .int v4), (5, .int w5)] [] (k1 w5)) (hkb : ∀ (w5 : Int32) (w7 : Int32), T kX4_layNear cSv σ 64 [(0, .ref 9), (1, .int v1), (2, .int v2), (3, .int v3), (4, .int v4), (5, .int w5), (6, .int v6), (7, .int w7)] [] (kb w5 w7)) (v5 : Int32) (v7 : Int32) : T kX4_layNear cSv σ 64 [(0, .ref 9), (1, .int v1), (2, .int v2), (3, .int v3), (4, .int v4), (5, .int v5), (6, .int v6), (7, .int v7)] [] (fX4_layNear_L64 v1 v2 v3 v4 v6 k1 kb σ v5 v7) := by
  unfold fX4_layNear_L64
  refine T_iload (pc := 64) 7 dX4_layNear_64 rfl ?_
  refine T_iload (pc := 66) 6 dX4_layNear_66 rfl ?_
  refine T_icmp_gt (pc := 68) 89 dX4_layNear_68 (by decide) (fun _ => ?_) (fun _ => ?_)
  · refine T_pick (lv' := [(0, .ref 9), (1, .int v1), (2, .int v2), (3, .int v3), (4, .int v4), (5, .int v5)]) [0, 1, 2, 3, 4, 5] rfl ?_
    exact hk1 v5
  · refine T_iload (pc := 71) 5 dX4_layNear_71 rfl ?_
    refine T_aload_n (pc := 73) 0 dX4_layNear_73 rfl rfl ?_
    refine T_iload_n (pc := 74) 1 dX4_layNear_74 rfl rfl ?_
    refine T_iload (pc := 75) 7 dX4_layNear_75 rfl ?_
    refine T_callPi (pc := 77) (rest := [.int v5]) (Rn_V (pc := 77) (as := [.int v1, .int v7]) (rest := [.int v5]) (ctX4_partsIn σ v1 v7) rfl rfl mv_X4_partsIn hw1234 rfl ⟨Nat.le_of_ble_eq_true rfl, Nat.le_of_ble_eq_true rfl⟩ (Nat.le_of_ble_eq_true rfl) dX4_layNear_77 rfl) rfl (fun x7 => ?_)
    refine T_ior (pc := 80) dX4_layNear_80 ?_
    refine T_letI (fun x8 => ?_)
    refine T_istore (pc := 81) (lv' := [(0, .ref 9), (1, .int v1), (2, .int v2), (3, .int v3), (4, .int v4), (5, .int x8), (6, .int v6), (7, .int v7)]) dX4_layNear_81 (Nat.le_of_ble_eq_true rfl) rfl ?_
    refine T_iinc (pc := 83) (y := 1) (lv' := [(0, .ref 9), (1, .int v1), (2, .int v2), (3, .int v3), (4, .int v4), (5, .int x8), (6, .int v6), (7, .int (v7 + (1 : Int32)))]) 7 dX4_layNear_83 (by decide) rfl (Nat.le_of_ble_eq_true rfl) rfl ?_
    refine T_goto (pc := 86) 64 dX4_layNear_86 (by decide) ?_
    exact hkb x8 (v7 + (1 : Int32))
set_option maxRecDepth 100000 in
set_option maxHeartbeats 4000000 in
theorem fX4_layNear_P64_T (v1 : Int32) (v2 : Int32) (v3 : Int32) (v4 : Int32) (v6 : Int32) (σ : St) {k1 : Int32 → Option St} (hk1 : ∀ (w5 : Int32), T kX4_layNear cSv σ 89 [(0, .ref 9), (1, .int v1), (2, .int v2), (3, .int v3), (4, .int v4), (5, .int w5)] [] (k1 w5)) (v5 : Int32) (v7 : Int32) : T kX4_layNear cSv σ 64 [(0, .ref 9), (1, .int v1), (2, .int v2), (3, .int v3), (4, .int v4), (5, .int v5), (6, .int v6), (7, .int v7)] [] (fX4_layNear_P64 v1 v2 v3 v4 v6 k1 σ v5 v7) :=
  it_T (S := (fun _ : Int32 × Int32 => σ)) (lv := fun t : Int32 × Int32 => [(0, .ref 9), (1, .int v1), (2, .int v2), (3, .int v3), (4, .int v4), (5, .int t.1), (6, .int v6), (7, .int t.2)]) (st := fun _ => []) (fun kb hkb t => fX4_layNear_L64_T v1 v2 v3 v4 v6 (hk1 := hk1) (hkb := fun v5 v7 => hkb (v5, v7)) σ t.1 t.2) FU (v5, v7)
set_option maxRecDepth 100000 in
set_option maxHeartbeats 4000000 in
theorem fX4_layNear_L101_T (v1 : Int32) (v2 : Int32) (v3 : Int32) (v4 : Int32) (v5 : Int32) (v7 : Int32) (σ : St) {k1 : St → Option St} {kb : St → Int32 → Option St} (hk1 : ∀ (σ' : St), T kX4_layNear cSv σ' 143 [(0, .ref 9), (1, .int v1), (2, .int v2), (3, .int v3), (4, .int v4)] [] (k1 σ')) (hkb : ∀ (σ' : St) (w8 : Int32), T kX4_layNear cSv σ' 101 [(0, .ref 9), (1, .int v1), (2, .int v2), (3, .int v3), (4, .int v4), (5, .int v5), (7, .int v7), (8, .int w8)] [] (kb σ' w8)) (v8 : Int32) : T kX4_layNear cSv σ 101 [(0, .ref 9), (1, .int v1), (2, .int v2), (3, .int v3), (4, .int v4), (5, .int v5), (7, .int v7), (8, .int v8)] [] (fX4_layNear_L101 v1 v2 v3 v4 v5 v7 k1 kb σ v8) := by
  unfold fX4_layNear_L101
  refine T_iload (pc := 101) 7 dX4_layNear_101 rfl ?_
  refine T_aload_n (pc := 103) 0 dX4_layNear_103 rfl rfl ?_
  refine T_getA (pc := 104) fd_9_2 hw419 dX4_layNear_104 ?_
  refine T_alen (pc := 107) (v := 10) rfl (by decide) dX4_layNear_107 ?_
  refine T_icmp_ge (pc := 108) 143 dX4_layNear_108 (by decide) (fun _ => ?_) (fun _ => ?_)
  · refine T_pick (lv' := [(0, .ref 9), (1, .int v1), (2, .int v2), (3, .int v3), (4, .int v4)]) [0, 1, 2, 3, 4] rfl ?_
    exact hk1 σ
  · refine T_aload_n (pc := 111) 0 dX4_layNear_111 rfl rfl ?_
    refine T_getA (pc := 112) fd_9_2 hw419 dX4_layNear_112 ?_
    refine T_iload (pc := 115) 7 dX4_layNear_115 rfl ?_
    refine T_dup2_ia (pc := 117) dX4_layNear_117 ?_
    refine T_iald (pc := 118) rfl dX4_layNear_118 (fun x11 => ?_)
    refine T_iload (pc := 119) 7 dX4_layNear_119 rfl ?_
    refine T_iload (pc := 121) 6 dX4_layNear_121 rfl ?_
    refine T_callPz (pc := 123) (rest := [.int x11, .int v8, .ref 52]) (Rn_S (pc := 123) (as := [.int v8, .int v7]) (rest := [.int x11, .int v8, .ref 52]) (ctX4_isIn σ v8 v7) ms_X4_isIn hw1251 rfl ⟨Nat.le_of_ble_eq_true rfl, Nat.le_of_ble_eq_true rfl⟩ (Nat.le_of_ble_eq_true rfl) dX4_layNear_123 rfl) rfl (fun x12 => ?_)
    refine T_if_eq (pc := 126) 134 dX4_layNear_126 (by decide) (fun _ => ?_) (fun _ => ?_)
    · refine T_iconst (pc := 134) (v := 0) dX4_layNear_134 (by decide) ?_
      refine T_ior (pc := 135) dX4_layNear_135 ?_
      refine T_iast (pc := 136) rfl dX4_layNear_136 ?_
      refine T_letS (fun s13 => ?_)
      refine T_iinc (pc := 137) (y := 1) (lv' := [(0, .ref 9), (1, .int v1), (2, .int v2), (3, .int v3), (4, .int v4), (5, .int v5), (7, .int v7), (8, .int (v8 + (1 : Int32)))]) 7 dX4_layNear_137 (by decide) rfl (Nat.le_of_ble_eq_true rfl) rfl ?_
      refine T_goto (pc := 140) 101 dX4_layNear_140 (by decide) ?_
      exact hkb s13 (v8 + (1 : Int32))
    · refine T_iload (pc := 129) 5 dX4_layNear_129 rfl ?_
      refine T_goto (pc := 131) 135 dX4_layNear_131 (by decide) ?_
      refine T_ior (pc := 135) dX4_layNear_135 ?_
      refine T_iast (pc := 136) rfl dX4_layNear_136 ?_
      refine T_letS (fun s14 => ?_)
      refine T_iinc (pc := 137) (y := 1) (lv' := [(0, .ref 9), (1, .int v1), (2, .int v2), (3, .int v3), (4, .int v4), (5, .int v5), (7, .int v7), (8, .int (v8 + (1 : Int32)))]) 7 dX4_layNear_137 (by decide) rfl (Nat.le_of_ble_eq_true rfl) rfl ?_
      refine T_goto (pc := 140) 101 dX4_layNear_140 (by decide) ?_
      exact hkb s14 (v8 + (1 : Int32))
set_option maxRecDepth 100000 in
set_option maxHeartbeats 4000000 in
theorem fX4_layNear_P101_T (v1 : Int32) (v2 : Int32) (v3 : Int32) (v4 : Int32) (v5 : Int32) (v7 : Int32) (σ : St) {k1 : St → Option St} (hk1 : ∀ (σ' : St), T kX4_layNear cSv σ' 143 [(0, .ref 9), (1, .int v1), (2, .int v2), (3, .int v3), (4, .int v4)] [] (k1 σ')) (v8 : Int32) : T kX4_layNear cSv σ 101 [(0, .ref 9), (1, .int v1), (2, .int v2), (3, .int v3), (4, .int v4), (5, .int v5), (7, .int v7), (8, .int v8)] [] (fX4_layNear_P101 v1 v2 v3 v4 v5 v7 k1 σ v8) :=
  it_T (S := (fun t : St × Int32 => t.1)) (lv := fun t : St × Int32 => [(0, .ref 9), (1, .int v1), (2, .int v2), (3, .int v3), (4, .int v4), (5, .int v5), (7, .int v7), (8, .int t.2)]) (st := fun _ => []) (fun kb hkb t => fX4_layNear_L101_T v1 v2 v3 v4 v5 v7 (hk1 := hk1) (hkb := fun σ v8 => hkb (σ, v8)) t.1 t.2) FU (σ, v8)
set_option maxRecDepth 100000 in
set_option maxHeartbeats 4000000 in
theorem fX4_layNear_L35_T (v1 : Int32) (v2 : Int32) (v3 : Int32) (σ : St) {kb : St → Int32 → Option St} (hkb : ∀ (σ' : St) (w4 : Int32), T kX4_layNear cSv σ' 35 [(0, .ref 9), (1, .int v1), (2, .int v2), (3, .int v3), (4, .int w4)] [] (kb σ' w4)) (v4 : Int32) : T kX4_layNear cSv σ 35 [(0, .ref 9), (1, .int v1), (2, .int v2), (3, .int v3), (4, .int v4)] [] (fX4_layNear_L35 v1 v2 v3 kb σ v4) := by
  unfold fX4_layNear_L35
  refine T_iload (pc := 35) 4 dX4_layNear_35 rfl ?_
  refine T_iload_n (pc := 37) 3 dX4_layNear_37 rfl rfl ?_
  refine T_icmp_gt (pc := 38) 149 dX4_layNear_38 (by decide) (fun _ => ?_) (fun _ => ?_)
  · exact T_return (pc := 149) rfl dX4_layNear_149 rfl
  · refine T_iconst (pc := 41) (v := 0) dX4_layNear_41 (by decide) ?_
    refine T_istore (pc := 42) (lv' := [(0, .ref 9), (1, .int v1), (2, .int v2), (3, .int v3), (4, .int v4), (5, .int (0 : Int32))]) dX4_layNear_42 (Nat.le_of_ble_eq_true rfl) rfl ?_
    refine T_iload_n (pc := 44) 3 dX4_layNear_44 rfl rfl ?_
    refine T_iload (pc := 45) 4 dX4_layNear_45 rfl ?_
    refine T_iload_n (pc := 47) 2 dX4_layNear_47 rfl rfl ?_
    refine T_iadd (pc := 48) dX4_layNear_48 ?_
    refine T_callPi (pc := 49) (rest := []) (Rn_S (pc := 49) (as := [.int v3, .int (v4 + v2)]) (rest := []) (ctJ9_min_7cf53 σ v3 (v4 + v2)) ms_J9_min_7cf53 hw1262 rfl ⟨Nat.le_of_ble_eq_true rfl, Nat.le_of_ble_eq_true rfl⟩ (Nat.le_of_ble_eq_true rfl) dX4_layNear_49 rfl) rfl (fun x5 => ?_)
    refine T_istore (pc := 52) (lv' := [(0, .ref 9), (1, .int v1), (2, .int v2), (3, .int v3), (4, .int v4), (5, .int (0 : Int32)), (6, .int x5)]) dX4_layNear_52 (Nat.le_of_ble_eq_true rfl) rfl ?_
    refine T_iconst (pc := 54) (v := 0) dX4_layNear_54 (by decide) ?_
    refine T_iload (pc := 55) 4 dX4_layNear_55 rfl ?_
    refine T_iload_n (pc := 57) 2 dX4_layNear_57 rfl rfl ?_
    refine T_isub (pc := 58) dX4_layNear_58 ?_
    refine T_callPi (pc := 59) (rest := []) (Rn_S (pc := 59) (as := [.int (0 : Int32), .int (v4 - v2)]) (rest := []) (ctJ9_max_7cf53 σ (0 : Int32) (v4 - v2)) ms_J9_max_7cf53 hw1263 rfl ⟨Nat.le_of_ble_eq_true rfl, Nat.le_of_ble_eq_true rfl⟩ (Nat.le_of_ble_eq_true rfl) dX4_layNear_59 rfl) rfl (fun x6 => ?_)
    refine T_istore (pc := 62) (lv' := [(0, .ref 9), (1, .int v1), (2, .int v2), (3, .int v3), (4, .int v4), (5, .int (0 : Int32)), (6, .int x5), (7, .int x6)]) dX4_layNear_62 (Nat.le_of_ble_eq_true rfl) rfl ?_
    refine fX4_layNear_P64_T v1 v2 v3 v4 x5 (hk1 := fun x9 => ?_) σ (0 : Int32) x6
    · refine T_aload_n (pc := 89) 0 dX4_layNear_89 rfl rfl ?_
      refine T_iload_n (pc := 90) 1 dX4_layNear_90 rfl rfl ?_
      refine T_iload (pc := 91) 4 dX4_layNear_91 rfl ?_
      refine T_callPi (pc := 93) (rest := []) (Rn_V (pc := 93) (as := [.int v1, .int v4]) (rest := []) (ctX4_partsIn σ v1 v4) rfl rfl mv_X4_partsIn hw1234 rfl ⟨Nat.le_of_ble_eq_true rfl, Nat.le_of_ble_eq_true rfl⟩ (Nat.le_of_ble_eq_true rfl) dX4_layNear_93 rfl) rfl (fun x10 => ?_)
      refine T_istore (pc := 96) (lv' := [(0, .ref 9), (1, .int v1), (2, .int v2), (3, .int v3), (4, .int v4), (5, .int x9), (7, .int x10)]) dX4_layNear_96 (Nat.le_of_ble_eq_true rfl) rfl ?_
      refine T_iconst (pc := 98) (v := 0) dX4_layNear_98 (by decide) ?_
      refine T_istore (pc := 99) (lv' := [(0, .ref 9), (1, .int v1), (2, .int v2), (3, .int v3), (4, .int v4), (5, .int x9), (7, .int x10), (8, .int (0 : Int32))]) dX4_layNear_99 (Nat.le_of_ble_eq_true rfl) rfl ?_
      refine fX4_layNear_P101_T v1 v2 v3 v4 x9 x10 (hk1 := fun s15 => ?_) σ (0 : Int32)
      · refine T_iinc (pc := 143) (y := 1) (lv' := [(0, .ref 9), (1, .int v1), (2, .int v2), (3, .int v3), (4, .int (v4 + (1 : Int32)))]) 4 dX4_layNear_143 (by decide) rfl (Nat.le_of_ble_eq_true rfl) rfl ?_
        refine T_goto (pc := 146) 35 dX4_layNear_146 (by decide) ?_
        exact hkb s15 (v4 + (1 : Int32))
set_option maxRecDepth 100000 in
set_option maxHeartbeats 4000000 in
theorem fX4_layNear_P35_T (v1 : Int32) (v2 : Int32) (v3 : Int32) (σ : St) (v4 : Int32) : T kX4_layNear cSv σ 35 [(0, .ref 9), (1, .int v1), (2, .int v2), (3, .int v3), (4, .int v4)] [] (fX4_layNear_P35 v1 v2 v3 σ v4) :=
  it_T (S := (fun t : St × Int32 => t.1)) (lv := fun t : St × Int32 => [(0, .ref 9), (1, .int v1), (2, .int v2), (3, .int v3), (4, .int t.2)]) (st := fun _ => []) (fun kb hkb t => fX4_layNear_L35_T v1 v2 v3 (hkb := fun σ v4 => hkb (σ, v4)) t.1 t.2) FU (σ, v4)
set_option maxRecDepth 100000 in
set_option maxHeartbeats 4000000 in
theorem ctX4_layNear (σ : St) (p0 : Int32) (p1 : Int32) : Ct yX4_layNear kX4_layNear [.ref 9, .int p0, .int p1] σ cSv (fX4_layNear σ p0 p1) := by
  refine Ct.of (by decide +kernel) rfl rfl (Nat.le_of_ble_eq_true rfl) ?_
  unfold fX4_layNear
  show T _ _ _ 0 [(0, .ref 9), (1, .int p0), (2, .int p1)] [] _
  refine T_iconst (pc := 0) (v := 0) dX4_layNear_0 (by decide) ?_
  refine T_istore_n (pc := 1) (lv' := [(0, .ref 9), (1, .int p0), (2, .int p1), (3, .int (0 : Int32))]) dX4_layNear_1 rfl (Nat.le_of_ble_eq_true rfl) rfl ?_
  refine fX4_layNear_P2_T p0 p1 (hk1 := fun s2 => ?_) σ (0 : Int32)
  · refine T_aload_n (pc := 24) 0 dX4_layNear_24 rfl rfl ?_
    refine T_iload_n (pc := 25) 1 dX4_layNear_25 rfl rfl ?_
    refine T_callPi (pc := 26) (rest := []) (Rn_V (pc := 26) (as := [.int p0]) (rest := []) (ctX4_sizeOf s2 p0) rfl rfl mv_X4_sizeOf hw1230 rfl ⟨Nat.le_of_ble_eq_true rfl, Nat.le_of_ble_eq_true rfl⟩ (Nat.le_of_ble_eq_true rfl) dX4_layNear_26 rfl) rfl (fun x3 => ?_)
    refine T_iconst (pc := 29) (v := 1) dX4_layNear_29 (by decide) ?_
    refine T_isub (pc := 30) dX4_layNear_30 ?_
    refine T_letI (fun x4 => ?_)
    refine T_istore_n (pc := 31) (lv' := [(0, .ref 9), (1, .int p0), (2, .int p1), (3, .int x4)]) dX4_layNear_31 rfl (Nat.le_of_ble_eq_true rfl) rfl ?_
    refine T_iconst (pc := 32) (v := 0) dX4_layNear_32 (by decide) ?_
    refine T_istore (pc := 33) (lv' := [(0, .ref 9), (1, .int p0), (2, .int p1), (3, .int x4), (4, .int (0 : Int32))]) dX4_layNear_33 (Nat.le_of_ble_eq_true rfl) rfl ?_
    exact fX4_layNear_P35_T p0 p1 x4 s2 (0 : Int32)
set_option maxRecDepth 100000 in
set_option maxHeartbeats 4000000 in
theorem ctX4_bar (σ : St) (p0 : Int32) (p1 : Int32) (p2 : Int32) (p3 : Int32) : Ct yX4_bar kX4_bar [.ref 9, .int p0, .int p1, .int p2, .int p3] σ cSz (fX4_bar σ p0 p1 p2 p3) := by
  refine Ct.of (by decide +kernel) rfl rfl (Nat.le_of_ble_eq_true rfl) ?_
  unfold fX4_bar
  show T _ _ _ 0 [(0, .ref 9), (1, .int p0), (2, .int p1), (3, .int p2), (4, .int p3)] [] _
  refine T_aload_n (pc := 0) 0 dX4_bar_0 rfl rfl ?_
  refine T_iload_n (pc := 1) 1 dX4_bar_1 rfl rfl ?_
  refine T_iload (pc := 2) 4 dX4_bar_2 rfl ?_
  refine T_callSv (pc := 4) (rest := []) (Rn_V (pc := 4) (as := [.int p0, .int p3]) (rest := []) (ctX4_layNear σ p0 p3) rfl rfl mv_X4_layNear hw1258 rfl ⟨Nat.le_of_ble_eq_true rfl, Nat.le_of_ble_eq_true rfl⟩ (Nat.le_of_ble_eq_true rfl) dX4_bar_4 rfl) rfl (fun s1 => ?_)
  refine T_iload_n (pc := 7) 2 dX4_bar_7 rfl rfl ?_
  refine T_aload_n (pc := 8) 0 dX4_bar_8 rfl rfl ?_
  refine T_getI (pc := 9) fd_9_6 hw423 dX4_bar_9 ?_
  refine T_callPz (pc := 12) (rest := []) (Rn_S (pc := 12) (as := [.int p1, .int (zI s1 29)]) (rest := []) (ctX4_isIn s1 p1 (zI s1 29)) ms_X4_isIn hw1251 rfl ⟨Nat.le_of_ble_eq_true rfl, Nat.le_of_ble_eq_true rfl⟩ (Nat.le_of_ble_eq_true rfl) dX4_bar_12 rfl) rfl (fun x2 => ?_)
  refine T_iload_n (pc := 15) 3 dX4_bar_15 rfl rfl ?_
  refine T_aload_n (pc := 16) 0 dX4_bar_16 rfl rfl ?_
  refine T_getI (pc := 17) fd_9_6 hw423 dX4_bar_17 ?_
  refine T_callPz (pc := 20) (rest := [.int (bi x2)]) (Rn_S (pc := 20) (as := [.int p2, .int (zI s1 29)]) (rest := [.int (bi x2)]) (ctX4_isIn s1 p2 (zI s1 29)) ms_X4_isIn hw1251 rfl ⟨Nat.le_of_ble_eq_true rfl, Nat.le_of_ble_eq_true rfl⟩ (Nat.le_of_ble_eq_true rfl) dX4_bar_20 rfl) rfl (fun x3 => ?_)
  refine T_icmp_ne (pc := 23) 56 dX4_bar_23 (by decide) (fun _ => ?_) (fun _ => ?_)
  · refine T_iconst (pc := 56) (v := 0) dX4_bar_56 (by decide) ?_
    exact T_zreturn (pc := 57) false rfl dX4_bar_57 rfl rfl
  · refine T_iload_n (pc := 26) 2 dX4_bar_26 rfl rfl ?_
    refine T_if_lt (pc := 27) 56 dX4_bar_27 (by decide) (fun _ => ?_) (fun _ => ?_)
    · refine T_iconst (pc := 56) (v := 0) dX4_bar_56 (by decide) ?_
      exact T_zreturn (pc := 57) false rfl dX4_bar_57 rfl rfl
    · refine T_iload_n (pc := 30) 2 dX4_bar_30 rfl rfl ?_
      refine T_aload_n (pc := 31) 0 dX4_bar_31 rfl rfl ?_
      refine T_getA (pc := 32) fd_9_2 hw419 dX4_bar_32 ?_
      refine T_alen (pc := 35) (v := 10) rfl (by decide) dX4_bar_35 ?_
      refine T_icmp_ge (pc := 36) 56 dX4_bar_36 (by decide) (fun _ => ?_) (fun _ => ?_)
      · refine T_iconst (pc := 56) (v := 0) dX4_bar_56 (by decide) ?_
        exact T_zreturn (pc := 57) false rfl dX4_bar_57 rfl rfl
      · refine T_iload_n (pc := 39) 3 dX4_bar_39 rfl rfl ?_
        refine T_aload_n (pc := 40) 0 dX4_bar_40 rfl rfl ?_
        refine T_getA (pc := 41) fd_9_2 hw419 dX4_bar_41 ?_
        refine T_iload_n (pc := 44) 2 dX4_bar_44 rfl rfl ?_
        refine T_iald (pc := 45) rfl dX4_bar_45 (fun x4 => ?_)
        refine T_callPz (pc := 46) (rest := []) (Rn_S (pc := 46) (as := [.int p2, .int x4]) (rest := []) (ctX4_isIn s1 p2 x4) ms_X4_isIn hw1251 rfl ⟨Nat.le_of_ble_eq_true rfl, Nat.le_of_ble_eq_true rfl⟩ (Nat.le_of_ble_eq_true rfl) dX4_bar_46 rfl) rfl (fun x5 => ?_)
        refine T_if_eq (pc := 49) 56 dX4_bar_49 (by decide) (fun _ => ?_) (fun _ => ?_)
        · refine T_iconst (pc := 56) (v := 0) dX4_bar_56 (by decide) ?_
          exact T_zreturn (pc := 57) false rfl dX4_bar_57 rfl rfl
        · refine T_iconst (pc := 52) (v := 1) dX4_bar_52 (by decide) ?_
          refine T_goto (pc := 53) 57 dX4_bar_53 (by decide) ?_
          exact T_zreturn (pc := 57) true rfl dX4_bar_57 rfl rfl
set_option maxRecDepth 100000 in
set_option maxHeartbeats 4000000 in
theorem ctX11_bars (σ : St) (p0 : Int32) (p1 : Int32) (p2 : Int32) (p3 : Int32) : Ct yX11_bars kX11_bars [.ref 0, .int p0, .int p1, .int p2, .int p3] σ cSi (fX11_bars σ p0 p1 p2 p3) := by
  refine Ct.of (by decide +kernel) rfl rfl (Nat.le_of_ble_eq_true rfl) ?_
  unfold fX11_bars
  show T _ _ _ 0 [(0, .ref 0), (1, .int p0), (2, .int p1), (3, .int p2), (4, .int p3)] [] _
  refine T_aload_n (pc := 0) 0 dX11_bars_0 rfl rfl ?_
  refine T_getA (pc := 1) fd_0_8 hw447 dX11_bars_1 ?_
  refine T_iload_n (pc := 4) 1 dX11_bars_4 rfl rfl ?_
  refine T_callPz (pc := 5) (rest := []) (Rn_V (pc := 5) (as := [.int p0]) (rest := []) (ctX4_has σ p0) rfl rfl mv_X4_has hw1222 rfl ⟨Nat.le_of_ble_eq_true rfl, Nat.le_of_ble_eq_true rfl⟩ (Nat.le_of_ble_eq_true rfl) dX11_bars_5 rfl) rfl (fun x1 => ?_)
  refine T_if_eq (pc := 8) 24 dX11_bars_8 (by decide) (fun _ => ?_) (fun _ => ?_)
  · refine T_iconst (pc := 24) (v := -1) dX11_bars_24 (by decide) ?_
    exact T_ireturn (pc := 25) rfl dX11_bars_25 rfl
  · refine T_iload (pc := 11) 4 dX11_bars_11 rfl ?_
    refine T_callPz (pc := 13) (rest := []) (Rn_S (pc := 13) (as := [.int p3]) (rest := []) (ctX4_isChange σ p3) ms_X4_isChange hw1243 rfl ⟨Nat.le_of_ble_eq_true rfl, Nat.le_of_ble_eq_true rfl⟩ (Nat.le_of_ble_eq_true rfl) dX11_bars_13 rfl) rfl (fun x2 => ?_)
    refine T_if_eq (pc := 16) 24 dX11_bars_16 (by decide) (fun _ => ?_) (fun _ => ?_)
    · refine T_iconst (pc := 24) (v := -1) dX11_bars_24 (by decide) ?_
      exact T_ireturn (pc := 25) rfl dX11_bars_25 rfl
    · refine T_iload_n (pc := 19) 2 dX11_bars_19 rfl rfl ?_
      refine T_iload_n (pc := 20) 3 dX11_bars_20 rfl rfl ?_
      refine T_icmp_ne (pc := 21) 26 dX11_bars_21 (by decide) (fun _ => ?_) (fun _ => ?_)
      · refine T_aload_n (pc := 26) 0 dX11_bars_26 rfl rfl ?_
        refine T_getA (pc := 27) fd_0_8 hw447 dX11_bars_27 ?_
        refine T_iload_n (pc := 30) 1 dX11_bars_30 rfl rfl ?_
        refine T_iload_n (pc := 31) 2 dX11_bars_31 rfl rfl ?_
        refine T_callPz (pc := 32) (rest := []) (Rn_V (pc := 32) (as := [.int p0, .int p1]) (rest := []) (ctX4_hasPart σ p0 p1) rfl rfl mv_X4_hasPart hw1246 rfl ⟨Nat.le_of_ble_eq_true rfl, Nat.le_of_ble_eq_true rfl⟩ (Nat.le_of_ble_eq_true rfl) dX11_bars_32 rfl) rfl (fun x3 => ?_)
        refine T_if_eq (pc := 35) 50 dX11_bars_35 (by decide) (fun _ => ?_) (fun _ => ?_)
        · refine T_iconst (pc := 50) (v := -1) dX11_bars_50 (by decide) ?_
          exact T_ireturn (pc := 51) rfl dX11_bars_51 rfl
        · refine T_aload_n (pc := 38) 0 dX11_bars_38 rfl rfl ?_
          refine T_getA (pc := 39) fd_0_8 hw447 dX11_bars_39 ?_
          refine T_iload_n (pc := 42) 1 dX11_bars_42 rfl rfl ?_
          refine T_iload_n (pc := 43) 3 dX11_bars_43 rfl rfl ?_
          refine T_callPz (pc := 44) (rest := []) (Rn_V (pc := 44) (as := [.int p0, .int p2]) (rest := []) (ctX4_hasPart σ p0 p2) rfl rfl mv_X4_hasPart hw1246 rfl ⟨Nat.le_of_ble_eq_true rfl, Nat.le_of_ble_eq_true rfl⟩ (Nat.le_of_ble_eq_true rfl) dX11_bars_44 rfl) rfl (fun x4 => ?_)
          refine T_if_ne (pc := 47) 52 dX11_bars_47 (by decide) (fun _ => ?_) (fun _ => ?_)
          · refine T_aload_n (pc := 52) 0 dX11_bars_52 rfl rfl ?_
            refine T_getA (pc := 53) fd_0_8 hw447 dX11_bars_53 ?_
            refine T_iload_n (pc := 56) 1 dX11_bars_56 rfl rfl ?_
            refine T_iload_n (pc := 57) 2 dX11_bars_57 rfl rfl ?_
            refine T_iload_n (pc := 58) 3 dX11_bars_58 rfl rfl ?_
            refine T_iload (pc := 59) 4 dX11_bars_59 rfl ?_
            refine T_callSz (pc := 61) (rest := []) (Rn_V (pc := 61) (as := [.int p0, .int p1, .int p2, .int p3]) (rest := []) (ctX4_bar σ p0 p1 p2 p3) rfl rfl mv_X4_bar hw1254 rfl ⟨Nat.le_of_ble_eq_true rfl, Nat.le_of_ble_eq_true rfl⟩ (Nat.le_of_ble_eq_true rfl) dX11_bars_61 rfl) rfl (fun r5 => ?_)
            refine T_if_eq (pc := 64) 71 dX11_bars_64 (by decide) (fun _ => ?_) (fun _ => ?_)
            · refine T_iconst (pc := 71) (v := 0) dX11_bars_71 (by decide) ?_
              exact T_ireturn (pc := 72) rfl dX11_bars_72 rfl
            · refine T_iconst (pc := 67) (v := 1) dX11_bars_67 (by decide) ?_
              refine T_goto (pc := 68) 72 dX11_bars_68 (by decide) ?_
              exact T_ireturn (pc := 72) rfl dX11_bars_72 rfl
          · refine T_iconst (pc := 50) (v := -1) dX11_bars_50 (by decide) ?_
            exact T_ireturn (pc := 51) rfl dX11_bars_51 rfl
      · refine T_iconst (pc := 24) (v := -1) dX11_bars_24 (by decide) ?_
        exact T_ireturn (pc := 25) rfl dX11_bars_25 rfl
set_option maxRecDepth 100000 in
set_option maxHeartbeats 4000000 in
theorem ctX4_setBoys (σ : St) (p0 : Int32) : Ct yX4_setBoys kX4_setBoys [.ref 9, .int p0] σ cSz (fX4_setBoys σ p0) := by
  refine Ct.of (by decide +kernel) rfl rfl (Nat.le_of_ble_eq_true rfl) ?_
  unfold fX4_setBoys
  show T _ _ _ 0 [(0, .ref 9), (1, .int p0)] [] _
  refine T_iload_n (pc := 0) 1 dX4_setBoys_0 rfl rfl ?_
  refine T_if_lt (pc := 1) 11 dX4_setBoys_1 (by decide) (fun _ => ?_) (fun _ => ?_)
  · refine T_iconst (pc := 11) (v := 0) dX4_setBoys_11 (by decide) ?_
    exact T_zreturn (pc := 12) false rfl dX4_setBoys_12 rfl rfl
  · refine T_iload_n (pc := 4) 1 dX4_setBoys_4 rfl rfl ?_
    refine T_sipush (pc := 5) (v := 1024) dX4_setBoys_5 (by decide) ?_
    refine T_icmp_lt (pc := 8) 13 dX4_setBoys_8 (by decide) (fun _ => ?_) (fun _ => ?_)
    · refine T_aload_n (pc := 13) 0 dX4_setBoys_13 rfl rfl ?_
      refine T_iload_n (pc := 14) 1 dX4_setBoys_14 rfl rfl ?_
      refine T_putI (pc := 15) fd_9_6 hw423 dX4_setBoys_15 ?_
      refine T_letS (fun s1 => ?_)
      refine T_iconst (pc := 18) (v := 1) dX4_setBoys_18 (by decide) ?_
      exact T_zreturn (pc := 19) true rfl dX4_setBoys_19 rfl rfl
    · refine T_iconst (pc := 11) (v := 0) dX4_setBoys_11 (by decide) ?_
      exact T_zreturn (pc := 12) false rfl dX4_setBoys_12 rfl rfl
set_option maxRecDepth 100000 in
set_option maxHeartbeats 4000000 in
theorem ctX11_boys (σ : St) (p0 : Int32) : Ct yX11_boys kX11_boys [.ref 0, .int p0] σ cSz (fX11_boys σ p0) := by
  refine Ct.of (by decide +kernel) rfl rfl (Nat.le_of_ble_eq_true rfl) ?_
  unfold fX11_boys
  show T _ _ _ 0 [(0, .ref 0), (1, .int p0)] [] _
  refine T_aload_n (pc := 0) 0 dX11_boys_0 rfl rfl ?_
  refine T_getA (pc := 1) fd_0_8 hw447 dX11_boys_1 ?_
  refine T_iload_n (pc := 4) 1 dX11_boys_4 rfl rfl ?_
  refine T_callSz (pc := 5) (rest := []) (Rn_V (pc := 5) (as := [.int p0]) (rest := []) (ctX4_setBoys σ p0) rfl rfl mv_X4_setBoys hw1214 rfl ⟨Nat.le_of_ble_eq_true rfl, Nat.le_of_ble_eq_true rfl⟩ (Nat.le_of_ble_eq_true rfl) dX11_boys_5 rfl) rfl (fun r1 => ?_)
  exact T_zreturn (pc := 8) r1.1 rfl dX11_boys_8 rfl rfl
set_option maxRecDepth 100000 in
set_option maxHeartbeats 4000000 in
theorem fX4_layClashes_L8_T (σ : St) {kb : St → Int32 → Option St} (hkb : ∀ (σ' : St) (w3 : Int32), T kX4_layClashes cSv σ' 8 [(0, .ref 9), (3, .int w3)] [] (kb σ' w3)) (v3 : Int32) : T kX4_layClashes cSv σ 8 [(0, .ref 9), (3, .int v3)] [] (fX4_layClashes_L8 kb σ v3) := by
  unfold fX4_layClashes_L8
  refine T_iload_n (pc := 8) 1 dX4_layClashes_8 rfl rfl ?_
  refine T_aload_n (pc := 9) 0 dX4_layClashes_9 rfl rfl ?_
  refine T_getA (pc := 10) fd_9_2 hw419 dX4_layClashes_10 ?_
  refine T_alen (pc := 13) (v := 10) rfl (by decide) dX4_layClashes_13 ?_
  refine T_icmp_ge (pc := 14) 69 dX4_layClashes_14 (by decide) (fun _ => ?_) (fun _ => ?_)
  · exact T_return (pc := 69) rfl dX4_layClashes_69 rfl
  · refine T_iload_n (pc := 17) 1 dX4_layClashes_17 rfl rfl ?_
    refine T_aload_n (pc := 18) 0 dX4_layClashes_18 rfl rfl ?_
    refine T_getA (pc := 19) fd_9_3 hw420 dX4_layClashes_19 ?_
    refine T_alen (pc := 22) (v := 10) rfl (by decide) dX4_layClashes_22 ?_
    refine T_icmp_ge (pc := 23) 69 dX4_layClashes_23 (by decide) (fun _ => ?_) (fun _ => ?_)
    · exact T_return (pc := 69) rfl dX4_layClashes_69 rfl
    · refine T_aload_n (pc := 26) 0 dX4_layClashes_26 rfl rfl ?_
      refine T_getA (pc := 27) fd_9_3 hw420 dX4_layClashes_27 ?_
      refine T_iload_n (pc := 30) 1 dX4_layClashes_30 rfl rfl ?_
      refine T_aload_n (pc := 31) 0 dX4_layClashes_31 rfl rfl ?_
      refine T_getA (pc := 32) fd_9_2 hw419 dX4_layClashes_32 ?_
      refine T_iload_n (pc := 35) 1 dX4_layClashes_35 rfl rfl ?_
      refine T_iald (pc := 36) rfl dX4_layClashes_36 (fun x2 => ?_)
      refine T_iload_n (pc := 37) 1 dX4_layClashes_37 rfl rfl ?_
      refine T_aload_n (pc := 38) 0 dX4_layClashes_38 rfl rfl ?_
      refine T_getI (pc := 39) fd_9_6 hw423 dX4_layClashes_39 ?_
      refine T_callPz (pc := 42) (rest := [.int x2, .int v3, .ref 53]) (Rn_S (pc := 42) (as := [.int v3, .int (zI σ 29)]) (rest := [.int x2, .int v3, .ref 53]) (ctX4_isIn σ v3 (zI σ 29)) ms_X4_isIn hw1251 rfl ⟨Nat.le_of_ble_eq_true rfl, Nat.le_of_ble_eq_true rfl⟩ (Nat.le_of_ble_eq_true rfl) dX4_layClashes_42 rfl) rfl (fun x3 => ?_)
      refine T_if_eq (pc := 45) 57 dX4_layClashes_45 (by decide) (fun _ => ?_) (fun _ => ?_)
      · refine T_aload_n (pc := 57) 0 dX4_layClashes_57 rfl rfl ?_
        refine T_getI (pc := 58) fd_9_6 hw423 dX4_layClashes_58 ?_
        refine T_ior (pc := 61) dX4_layClashes_61 ?_
        refine T_iast (pc := 62) rfl dX4_layClashes_62 ?_
        refine T_letS (fun s4 => ?_)
        refine T_iinc (pc := 63) (y := 1) (lv' := [(0, .ref 9), (3, .int (v3 + (1 : Int32)))]) 1 dX4_layClashes_63 (by decide) rfl (Nat.le_of_ble_eq_true rfl) rfl ?_
        refine T_goto (pc := 66) 8 dX4_layClashes_66 (by decide) ?_
        exact hkb s4 (v3 + (1 : Int32))
      · refine T_aload_n (pc := 48) 0 dX4_layClashes_48 rfl rfl ?_
        refine T_getI (pc := 49) fd_9_6 hw423 dX4_layClashes_49 ?_
        refine T_iconst (pc := 52) (v := -1) dX4_layClashes_52 (by decide) ?_
        refine T_ixor (pc := 53) dX4_layClashes_53 ?_
        refine T_goto (pc := 54) 61 dX4_layClashes_54 (by decide) ?_
        refine T_ior (pc := 61) dX4_layClashes_61 ?_
        refine T_iast (pc := 62) rfl dX4_layClashes_62 ?_
        refine T_letS (fun s5 => ?_)
        refine T_iinc (pc := 63) (y := 1) (lv' := [(0, .ref 9), (3, .int (v3 + (1 : Int32)))]) 1 dX4_layClashes_63 (by decide) rfl (Nat.le_of_ble_eq_true rfl) rfl ?_
        refine T_goto (pc := 66) 8 dX4_layClashes_66 (by decide) ?_
        exact hkb s5 (v3 + (1 : Int32))
set_option maxRecDepth 100000 in
set_option maxHeartbeats 4000000 in
theorem fX4_layClashes_P8_T (σ : St) (v3 : Int32) : T kX4_layClashes cSv σ 8 [(0, .ref 9), (3, .int v3)] [] (fX4_layClashes_P8 σ v3) :=
  it_T (S := (fun t : St × Int32 => t.1)) (lv := fun t : St × Int32 => [(0, .ref 9), (3, .int t.2)]) (st := fun _ => []) (fun kb hkb t => fX4_layClashes_L8_T (hkb := fun σ v3 => hkb (σ, v3)) t.1 t.2) FU (σ, v3)
set_option maxRecDepth 100000 in
set_option maxHeartbeats 4000000 in
theorem ctX4_layClashes (σ : St) (p0 : Int32) (p1 : Int32) : Ct yX4_layClashes kX4_layClashes [.ref 9, .int p0, .int p1] σ cSv (fX4_layClashes σ p0 p1) := by
  refine Ct.of (by decide +kernel) rfl rfl (Nat.le_of_ble_eq_true rfl) ?_
  unfold fX4_layClashes
  show T _ _ _ 0 [(0, .ref 9), (1, .int p0), (2, .int p1)] [] _
  refine T_aload_n (pc := 0) 0 dX4_layClashes_0 rfl rfl ?_
  refine T_iload_n (pc := 1) 1 dX4_layClashes_1 rfl rfl ?_
  refine T_iload_n (pc := 2) 2 dX4_layClashes_2 rfl rfl ?_
  refine T_callSv (pc := 3) (rest := []) (Rn_V (pc := 3) (as := [.int p0, .int p1]) (rest := []) (ctX4_layNear σ p0 p1) rfl rfl mv_X4_layNear hw1258 rfl ⟨Nat.le_of_ble_eq_true rfl, Nat.le_of_ble_eq_true rfl⟩ (Nat.le_of_ble_eq_true rfl) dX4_layClashes_3 rfl) rfl (fun s1 => ?_)
  refine T_iconst (pc := 6) (v := 0) dX4_layClashes_6 (by decide) ?_
  refine T_istore_n (pc := 7) (lv' := [(0, .ref 9), (1, .int p0), (2, .int p1), (3, .int (0 : Int32))]) dX4_layClashes_7 rfl (Nat.le_of_ble_eq_true rfl) rfl ?_
  refine T_pick (lv' := [(0, .ref 9), (3, .int (0 : Int32))]) [0, 3] rfl ?_
  exact fX4_layClashes_P8_T s1 (0 : Int32)
set_option maxRecDepth 100000 in
set_option maxHeartbeats 4000000 in
theorem fX4_isFree_54_L3_T (v1 : Int32) (v2 : Int32) (v3 : Int32) (σ : St) {kb : Int32 → Option Bool} (hkb : ∀ (w4 : Int32), T kX4_isFree_54 (cPz σ) σ 3 [(0, .ref 54), (1, .int v1), (2, .int v2), (3, .int v3), (4, .int w4)] [] (kb w4)) (v4 : Int32) : T kX4_isFree_54 (cPz σ) σ 3 [(0, .ref 54), (1, .int v1), (2, .int v2), (3, .int v3), (4, .int v4)] [] (fX4_isFree_54_L3 v1 v2 v3 kb σ v4) := by
  unfold fX4_isFree_54_L3
  refine T_iload (pc := 3) 4 dX4_isFree_3 rfl ?_
  refine T_iload_n (pc := 5) 2 dX4_isFree_5 rfl rfl ?_
  refine T_icmp_ge (pc := 6) 41 dX4_isFree_6 (by decide) (fun _ => ?_) (fun _ => ?_)
  · refine T_iconst (pc := 41) (v := 1) dX4_isFree_41 (by decide) ?_
    exact T_zreturn (pc := 42) true rfl dX4_isFree_42 rfl rfl
  · refine T_iload (pc := 9) 4 dX4_isFree_9 rfl ?_
    refine T_aload_n (pc := 11) 0 dX4_isFree_11 rfl rfl ?_
    refine T_alen (pc := 12) (v := 10) rfl (by decide) dX4_isFree_12 ?_
    refine T_icmp_ge (pc := 13) 41 dX4_isFree_13 (by decide) (fun _ => ?_) (fun _ => ?_)
    · refine T_iconst (pc := 41) (v := 1) dX4_isFree_41 (by decide) ?_
      exact T_zreturn (pc := 42) true rfl dX4_isFree_42 rfl rfl
    · refine T_iload (pc := 16) 4 dX4_isFree_16 rfl ?_
      refine T_iload_n (pc := 18) 1 dX4_isFree_18 rfl rfl ?_
      refine T_callPz (pc := 19) (rest := []) (Rn_S (pc := 19) (as := [.int v4, .int v1]) (rest := []) (ctX4_isIn σ v4 v1) ms_X4_isIn hw1251 rfl ⟨Nat.le_of_ble_eq_true rfl, Nat.le_of_ble_eq_true rfl⟩ (Nat.le_of_ble_eq_true rfl) dX4_isFree_19 rfl) rfl (fun x1 => ?_)
      refine T_if_eq (pc := 22) 35 dX4_isFree_22 (by decide) (fun _ => ?_) (fun _ => ?_)
      · refine T_iinc (pc := 35) (y := 1) (lv' := [(0, .ref 54), (1, .int v1), (2, .int v2), (3, .int v3), (4, .int (v4 + (1 : Int32)))]) 4 dX4_isFree_35 (by decide) rfl (Nat.le_of_ble_eq_true rfl) rfl ?_
        refine T_goto (pc := 38) 3 dX4_isFree_38 (by decide) ?_
        exact hkb (v4 + (1 : Int32))
      · refine T_aload_n (pc := 25) 0 dX4_isFree_25 rfl rfl ?_
        refine T_iload (pc := 26) 4 dX4_isFree_26 rfl ?_
        refine T_iald (pc := 28) rfl dX4_isFree_28 (fun x2 => ?_)
        refine T_iload_n (pc := 29) 3 dX4_isFree_29 rfl rfl ?_
        refine T_icmp_ne (pc := 30) 35 dX4_isFree_30 (by decide) (fun _ => ?_) (fun _ => ?_)
        · refine T_iinc (pc := 35) (y := 1) (lv' := [(0, .ref 54), (1, .int v1), (2, .int v2), (3, .int v3), (4, .int (v4 + (1 : Int32)))]) 4 dX4_isFree_35 (by decide) rfl (Nat.le_of_ble_eq_true rfl) rfl ?_
          refine T_goto (pc := 38) 3 dX4_isFree_38 (by decide) ?_
          exact hkb (v4 + (1 : Int32))
        · refine T_iconst (pc := 33) (v := 0) dX4_isFree_33 (by decide) ?_
          exact T_zreturn (pc := 34) false rfl dX4_isFree_34 rfl rfl
set_option maxRecDepth 100000 in
set_option maxHeartbeats 4000000 in
theorem fX4_isFree_54_P3_T (v1 : Int32) (v2 : Int32) (v3 : Int32) (σ : St) (v4 : Int32) : T kX4_isFree_54 (cPz σ) σ 3 [(0, .ref 54), (1, .int v1), (2, .int v2), (3, .int v3), (4, .int v4)] [] (fX4_isFree_54_P3 v1 v2 v3 σ v4) :=
  it_T (S := (fun _ : Int32 => σ)) (lv := fun t : Int32 => [(0, .ref 54), (1, .int v1), (2, .int v2), (3, .int v3), (4, .int t)]) (st := fun _ => []) (fun kb hkb t => fX4_isFree_54_L3_T v1 v2 v3 (hkb := fun v4 => hkb v4) σ t) FU v4
set_option maxRecDepth 100000 in
set_option maxHeartbeats 4000000 in
theorem ctX4_isFree_54 (σ : St) (p1 : Int32) (p2 : Int32) (p3 : Int32) : Ct yX4_isFree kX4_isFree_54 [.ref 54, .int p1, .int p2, .int p3] σ (cPz σ) (fX4_isFree_54 σ p1 p2 p3) := by
  refine Ct.of (by decide +kernel) rfl rfl (Nat.le_of_ble_eq_true rfl) ?_
  unfold fX4_isFree_54
  show T _ _ _ 0 [(0, .ref 54), (1, .int p1), (2, .int p2), (3, .int p3)] [] _
  refine T_iconst (pc := 0) (v := 0) dX4_isFree_0 (by decide) ?_
  refine T_istore (pc := 1) (lv' := [(0, .ref 54), (1, .int p1), (2, .int p2), (3, .int p3), (4, .int (0 : Int32))]) dX4_isFree_1 (Nat.le_of_ble_eq_true rfl) rfl ?_
  exact fX4_isFree_54_P3_T p1 p2 p3 σ (0 : Int32)
set_option maxRecDepth 100000 in
set_option maxHeartbeats 4000000 in
theorem fX4_dress_53_54_L39_T (d : Nat) (rec : St → Int32 → Int32 → Int32 → Int32 → Option (Bool × St)) (hrec : ∀ (σ : St) (p2 : Int32) (p3 : Int32) (p4 : Int32) (p5 : Int32), Ct yX4_dress (kX4_dress_53_54 d) [.ref 53, .ref 54, .int p2, .int p3, .int p4, .int p5] σ cSz (rec σ p2 p3 p4 p5)) (v2 : Int32) (v3 : Int32) (v4 : Int32) (v5 : Int32) (σ : St) {kb : St → Int32 → Option (Bool × St)} (hkb : ∀ (σ' : St) (w6 : Int32), T (kX4_dress_53_54 (d + 1)) cSz σ' 39 [(0, .ref 53), (1, .ref 54), (2, .int v2), (3, .int v3), (4, .int v4), (5, .int v5), (6, .int w6)] [] (kb σ' w6)) (v6 : Int32) : T (kX4_dress_53_54 (d + 1)) cSz σ 39 [(0, .ref 53), (1, .ref 54), (2, .int v2), (3, .int v3), (4, .int v4), (5, .int v5), (6, .int v6)] [] (fX4_dress_53_54_L39 rec v2 v3 v4 v5 kb σ v6) := by
  unfold fX4_dress_53_54_L39
  refine T_iload (pc := 39) 6 dX4_dress_39 rfl ?_
  refine T_iload (pc := 41) 4 dX4_dress_41 rfl ?_
  refine T_icmp_gt (pc := 43) 104 dX4_dress_43 (by decide) (fun _ => ?_) (fun _ => ?_)
  · refine T_iconst (pc := 104) (v := 0) dX4_dress_104 (by decide) ?_
    exact T_zreturn (pc := 105) false rfl dX4_dress_105 rfl rfl
  · refine T_iload (pc := 46) 6 dX4_dress_46 rfl ?_
    refine T_iload (pc := 48) 5 dX4_dress_48 rfl ?_
    refine T_icmp_ge (pc := 50) 104 dX4_dress_50 (by decide) (fun _ => ?_) (fun _ => ?_)
    · refine T_iconst (pc := 104) (v := 0) dX4_dress_104 (by decide) ?_
      exact T_zreturn (pc := 105) false rfl dX4_dress_105 rfl rfl
    · refine T_aload_n (pc := 53) 1 dX4_dress_53 rfl rfl ?_
      refine T_iload_n (pc := 54) 2 dX4_dress_54 rfl rfl ?_
      refine T_aload_n (pc := 55) 0 dX4_dress_55 rfl rfl ?_
      refine T_iload_n (pc := 56) 3 dX4_dress_56 rfl rfl ?_
      refine T_iald (pc := 57) rfl dX4_dress_57 (fun x2 => ?_)
      refine T_iand (pc := 58) dX4_dress_58 ?_
      refine T_iload_n (pc := 59) 3 dX4_dress_59 rfl rfl ?_
      refine T_iload (pc := 60) 6 dX4_dress_60 rfl ?_
      refine T_callPz (pc := 62) (rest := []) (Rn_S (pc := 62) (as := [.ref 54, .int (v2 &&& x2), .int v3, .int v6]) (rest := []) (ctX4_isFree_54 σ (v2 &&& x2) v3 v6) ms_X4_isFree hw1283 rfl ⟨by simp only [kX4_isFree_54, kX4_dress_53_54]; omega, by simp only [kX4_isFree_54, kX4_dress_53_54]; omega⟩ (Nat.le_of_ble_eq_true rfl) dX4_dress_62 rfl) rfl (fun x3 => ?_)
      refine T_if_eq (pc := 65) 98 dX4_dress_65 (by decide) (fun _ => ?_) (fun _ => ?_)
      · refine T_iinc (pc := 98) (y := 1) (lv' := [(0, .ref 53), (1, .ref 54), (2, .int v2), (3, .int v3), (4, .int v4), (5, .int v5), (6, .int (v6 + (1 : Int32)))]) 6 dX4_dress_98 (by decide) rfl (Nat.le_of_ble_eq_true rfl) rfl ?_
        refine T_goto (pc := 101) 39 dX4_dress_101 (by decide) ?_
        exact hkb σ (v6 + (1 : Int32))
      · refine T_aload_n (pc := 68) 1 dX4_dress_68 rfl rfl ?_
        refine T_iload_n (pc := 69) 3 dX4_dress_69 rfl rfl ?_
        refine T_iload (pc := 70) 6 dX4_dress_70 rfl ?_
        refine T_iast (pc := 72) rfl dX4_dress_72 ?_
        refine T_letS (fun s4 => ?_)
        refine T_aload_n (pc := 73) 0 dX4_dress_73 rfl rfl ?_
        refine T_aload_n (pc := 74) 1 dX4_dress_74 rfl rfl ?_
        refine T_iload_n (pc := 75) 2 dX4_dress_75 rfl rfl ?_
        refine T_iload_n (pc := 76) 3 dX4_dress_76 rfl rfl ?_
        refine T_iconst (pc := 77) (v := 1) dX4_dress_77 (by decide) ?_
        refine T_iadd (pc := 78) dX4_dress_78 ?_
        refine T_iload (pc := 79) 4 dX4_dress_79 rfl ?_
        refine T_iload (pc := 81) 6 dX4_dress_81 rfl ?_
        refine T_iconst (pc := 83) (v := 1) dX4_dress_83 (by decide) ?_
        refine T_iadd (pc := 84) dX4_dress_84 ?_
        refine T_callPi (pc := 85) (rest := [.int (v3 + (1 : Int32)), .int v2, .ref 54, .ref 53]) (Rn_S (pc := 85) (as := [.int v4, .int (v6 + (1 : Int32))]) (rest := [.int (v3 + (1 : Int32)), .int v2, .ref 54, .ref 53]) (ctJ9_max_7cf53 s4 v4 (v6 + (1 : Int32))) ms_J9_max_7cf53 hw1263 rfl ⟨by simp only [kJ9_max_7cf53, kX4_dress_53_54]; omega, by simp only [kJ9_max_7cf53, kX4_dress_53_54]; omega⟩ (Nat.le_of_ble_eq_true rfl) dX4_dress_85 rfl) rfl (fun x5 => ?_)
        refine T_iload (pc := 88) 5 dX4_dress_88 rfl ?_
        refine T_callSz (pc := 90) (rest := []) (Rn_S (pc := 90) (as := [.ref 53, .ref 54, .int v2, .int (v3 + (1 : Int32)), .int x5, .int v5]) (rest := []) (hrec s4 v2 (v3 + (1 : Int32)) x5 v5) ms_X4_dress hw1280 rfl ⟨by simp only [kX4_dress_53_54, kX4_dress_53_54]; omega, by simp only [kX4_dress_53_54, kX4_dress_53_54]; omega⟩ (Nat.le_of_ble_eq_true rfl) dX4_dress_90 rfl) rfl (fun r6 => ?_)
        refine T_if_eq (pc := 93) 98 dX4_dress_93 (by decide) (fun _ => ?_) (fun _ => ?_)
        · refine T_iinc (pc := 98) (y := 1) (lv' := [(0, .ref 53), (1, .ref 54), (2, .int v2), (3, .int v3), (4, .int v4), (5, .int v5), (6, .int (v6 + (1 : Int32)))]) 6 dX4_dress_98 (by decide) rfl (Nat.le_of_ble_eq_true rfl) rfl ?_
          refine T_goto (pc := 101) 39 dX4_dress_101 (by decide) ?_
          exact hkb r6.2 (v6 + (1 : Int32))
        · refine T_iconst (pc := 96) (v := 1) dX4_dress_96 (by decide) ?_
          exact T_zreturn (pc := 97) true rfl dX4_dress_97 rfl rfl
set_option maxRecDepth 100000 in
set_option maxHeartbeats 4000000 in
theorem fX4_dress_53_54_P39_T (d : Nat) (rec : St → Int32 → Int32 → Int32 → Int32 → Option (Bool × St)) (hrec : ∀ (σ : St) (p2 : Int32) (p3 : Int32) (p4 : Int32) (p5 : Int32), Ct yX4_dress (kX4_dress_53_54 d) [.ref 53, .ref 54, .int p2, .int p3, .int p4, .int p5] σ cSz (rec σ p2 p3 p4 p5)) (v2 : Int32) (v3 : Int32) (v4 : Int32) (v5 : Int32) (σ : St) (v6 : Int32) : T (kX4_dress_53_54 (d + 1)) cSz σ 39 [(0, .ref 53), (1, .ref 54), (2, .int v2), (3, .int v3), (4, .int v4), (5, .int v5), (6, .int v6)] [] (fX4_dress_53_54_P39 rec v2 v3 v4 v5 σ v6) :=
  it_T (S := (fun t : St × Int32 => t.1)) (lv := fun t : St × Int32 => [(0, .ref 53), (1, .ref 54), (2, .int v2), (3, .int v3), (4, .int v4), (5, .int v5), (6, .int t.2)]) (st := fun _ => []) (fun kb hkb t => fX4_dress_53_54_L39_T d rec hrec v2 v3 v4 v5 (hkb := fun σ v6 => hkb (σ, v6)) t.1 t.2) FU (σ, v6)
set_option maxRecDepth 100000 in
set_option maxHeartbeats 4000000 in
theorem ctX4_dress_53_54_B (d : Nat) (rec : St → Int32 → Int32 → Int32 → Int32 → Option (Bool × St)) (hrec : ∀ (σ : St) (p2 : Int32) (p3 : Int32) (p4 : Int32) (p5 : Int32), Ct yX4_dress (kX4_dress_53_54 d) [.ref 53, .ref 54, .int p2, .int p3, .int p4, .int p5] σ cSz (rec σ p2 p3 p4 p5)) (σ : St) (p2 : Int32) (p3 : Int32) (p4 : Int32) (p5 : Int32) : Ct yX4_dress (kX4_dress_53_54 (d + 1)) [.ref 53, .ref 54, .int p2, .int p3, .int p4, .int p5] σ cSz (fX4_dress_53_54_B rec σ p2 p3 p4 p5) := by
  refine Ct.of (by decide +kernel) rfl rfl (Nat.le_of_ble_eq_true rfl) ?_
  unfold fX4_dress_53_54_B
  show T _ _ _ 0 [(0, .ref 53), (1, .ref 54), (2, .int p2), (3, .int p3), (4, .int p4), (5, .int p5)] [] _
  refine T_iload_n (pc := 0) 3 dX4_dress_0 rfl rfl ?_
  refine T_aload_n (pc := 1) 1 dX4_dress_1 rfl rfl ?_
  refine T_alen (pc := 2) (v := 10) rfl (by decide) dX4_dress_2 ?_
  refine T_icmp_ge (pc := 3) 12 dX4_dress_3 (by decide) (fun _ => ?_) (fun _ => ?_)
  · refine T_iconst (pc := 12) (v := 1) dX4_dress_12 (by decide) ?_
    exact T_zreturn (pc := 13) true rfl dX4_dress_13 rfl rfl
  · refine T_iload_n (pc := 6) 3 dX4_dress_6 rfl rfl ?_
    refine T_aload_n (pc := 7) 0 dX4_dress_7 rfl rfl ?_
    refine T_alen (pc := 8) (v := 10) rfl (by decide) dX4_dress_8 ?_
    refine T_icmp_lt (pc := 9) 14 dX4_dress_9 (by decide) (fun _ => ?_) (fun _ => ?_)
    · refine T_iload_n (pc := 14) 3 dX4_dress_14 rfl rfl ?_
      refine T_iload_n (pc := 15) 2 dX4_dress_15 rfl rfl ?_
      refine T_callPz (pc := 16) (rest := []) (Rn_S (pc := 16) (as := [.int p3, .int p2]) (rest := []) (ctX4_isIn σ p3 p2) ms_X4_isIn hw1251 rfl ⟨by simp only [kX4_isIn, kX4_dress_53_54]; omega, by simp only [kX4_isIn, kX4_dress_53_54]; omega⟩ (Nat.le_of_ble_eq_true rfl) dX4_dress_16 rfl) rfl (fun x1 => ?_)
      refine T_if_ne (pc := 19) 36 dX4_dress_19 (by decide) (fun _ => ?_) (fun _ => ?_)
      · refine T_iconst (pc := 36) (v := 0) dX4_dress_36 (by decide) ?_
        refine T_istore (pc := 37) (lv' := [(0, .ref 53), (1, .ref 54), (2, .int p2), (3, .int p3), (4, .int p4), (5, .int p5), (6, .int (0 : Int32))]) dX4_dress_37 (Nat.le_of_ble_eq_true rfl) rfl ?_
        exact fX4_dress_53_54_P39_T d rec hrec p2 p3 p4 p5 σ (0 : Int32)
      · refine T_aload_n (pc := 22) 0 dX4_dress_22 rfl rfl ?_
        refine T_aload_n (pc := 23) 1 dX4_dress_23 rfl rfl ?_
        refine T_iload_n (pc := 24) 2 dX4_dress_24 rfl rfl ?_
        refine T_iload_n (pc := 25) 3 dX4_dress_25 rfl rfl ?_
        refine T_iconst (pc := 26) (v := 1) dX4_dress_26 (by decide) ?_
        refine T_iadd (pc := 27) dX4_dress_27 ?_
        refine T_iload (pc := 28) 4 dX4_dress_28 rfl ?_
        refine T_iload (pc := 30) 5 dX4_dress_30 rfl ?_
        refine T_callSz (pc := 32) (rest := []) (Rn_S (pc := 32) (as := [.ref 53, .ref 54, .int p2, .int (p3 + (1 : Int32)), .int p4, .int p5]) (rest := []) (hrec σ p2 (p3 + (1 : Int32)) p4 p5) ms_X4_dress hw1280 rfl ⟨by simp only [kX4_dress_53_54, kX4_dress_53_54]; omega, by simp only [kX4_dress_53_54, kX4_dress_53_54]; omega⟩ (Nat.le_of_ble_eq_true rfl) dX4_dress_32 rfl) rfl (fun r7 => ?_)
        exact T_zreturn (pc := 35) r7.1 rfl dX4_dress_35 rfl rfl
    · refine T_iconst (pc := 12) (v := 1) dX4_dress_12 (by decide) ?_
      exact T_zreturn (pc := 13) true rfl dX4_dress_13 rfl rfl
theorem ctX4_dress_53_54 : ∀ (d : Nat) (σ : St) (p2 : Int32) (p3 : Int32) (p4 : Int32) (p5 : Int32), Ct yX4_dress (kX4_dress_53_54 d) [.ref 53, .ref 54, .int p2, .int p3, .int p4, .int p5] σ cSz (fX4_dress_53_54 d σ p2 p3 p4 p5)
  | 0, _, _, _, _, _ => fun _ h => by cases h
  | d + 1, σ, p2, p3, p4, p5 => ctX4_dress_53_54_B d (fX4_dress_53_54 d) (ctX4_dress_53_54 d) σ p2 p3 p4 p5
set_option maxRecDepth 100000 in
set_option maxHeartbeats 4000000 in
theorem fX4_fewestCoats_L2_T (v1 : Int32) (σ : St) {kb : St → Int32 → Option (Int32 × St)} (hkb : ∀ (σ' : St) (w2 : Int32), T kX4_fewestCoats cSi σ' 2 [(0, .ref 9), (1, .int v1), (2, .int w2)] [] (kb σ' w2)) (v2 : Int32) : T kX4_fewestCoats cSi σ 2 [(0, .ref 9), (1, .int v1), (2, .int v2)] [] (fX4_fewestCoats_L2 v1 kb σ v2) := by
  unfold fX4_fewestCoats_L2
  refine T_iload_n (pc := 2) 2 dX4_fewestCoats_2 rfl rfl ?_
  refine T_bipush (pc := 3) (v := 10) dX4_fewestCoats_3 (by decide) ?_
  refine T_icmp_gt (pc := 5) 34 dX4_fewestCoats_5 (by decide) (fun _ => ?_) (fun _ => ?_)
  · refine T_iconst (pc := 34) (v := -1) dX4_fewestCoats_34 (by decide) ?_
    exact T_ireturn (pc := 35) rfl dX4_fewestCoats_35 rfl
  · refine T_aload_n (pc := 8) 0 dX4_fewestCoats_8 rfl rfl ?_
    refine T_getA (pc := 9) fd_9_3 hw420 dX4_fewestCoats_9 ?_
    refine T_aload_n (pc := 12) 0 dX4_fewestCoats_12 rfl rfl ?_
    refine T_getA (pc := 13) fd_9_4 hw421 dX4_fewestCoats_13 ?_
    refine T_iload_n (pc := 16) 1 dX4_fewestCoats_16 rfl rfl ?_
    refine T_iconst (pc := 17) (v := 0) dX4_fewestCoats_17 (by decide) ?_
    refine T_iconst (pc := 18) (v := 0) dX4_fewestCoats_18 (by decide) ?_
    refine T_iload_n (pc := 19) 2 dX4_fewestCoats_19 rfl rfl ?_
    refine T_callSz (pc := 20) (rest := []) (Rn_S (pc := 20) (as := [.ref 53, .ref 54, .int v1, .int (0 : Int32), .int (0 : Int32), .int v2]) (rest := []) (ctX4_dress_53_54 12 σ v1 (0 : Int32) (0 : Int32) v2) ms_X4_dress hw1280 rfl ⟨Nat.le_of_ble_eq_true rfl, Nat.le_of_ble_eq_true rfl⟩ (Nat.le_of_ble_eq_true rfl) dX4_fewestCoats_20 rfl) rfl (fun r1 => ?_)
    refine T_if_eq (pc := 23) 28 dX4_fewestCoats_23 (by decide) (fun _ => ?_) (fun _ => ?_)
    · refine T_iinc (pc := 28) (y := 1) (lv' := [(0, .ref 9), (1, .int v1), (2, .int (v2 + (1 : Int32)))]) 2 dX4_fewestCoats_28 (by decide) rfl (Nat.le_of_ble_eq_true rfl) rfl ?_
      refine T_goto (pc := 31) 2 dX4_fewestCoats_31 (by decide) ?_
      exact hkb r1.2 (v2 + (1 : Int32))
    · refine T_iload_n (pc := 26) 2 dX4_fewestCoats_26 rfl rfl ?_
      exact T_ireturn (pc := 27) rfl dX4_fewestCoats_27 rfl
set_option maxRecDepth 100000 in
set_option maxHeartbeats 4000000 in
theorem fX4_fewestCoats_P2_T (v1 : Int32) (σ : St) (v2 : Int32) : T kX4_fewestCoats cSi σ 2 [(0, .ref 9), (1, .int v1), (2, .int v2)] [] (fX4_fewestCoats_P2 v1 σ v2) :=
  it_T (S := (fun t : St × Int32 => t.1)) (lv := fun t : St × Int32 => [(0, .ref 9), (1, .int v1), (2, .int t.2)]) (st := fun _ => []) (fun kb hkb t => fX4_fewestCoats_L2_T v1 (hkb := fun σ v2 => hkb (σ, v2)) t.1 t.2) FU (σ, v2)
set_option maxRecDepth 100000 in
set_option maxHeartbeats 4000000 in
theorem ctX4_fewestCoats (σ : St) (p0 : Int32) : Ct yX4_fewestCoats kX4_fewestCoats [.ref 9, .int p0] σ cSi (fX4_fewestCoats σ p0) := by
  refine Ct.of (by decide +kernel) rfl rfl (Nat.le_of_ble_eq_true rfl) ?_
  unfold fX4_fewestCoats
  show T _ _ _ 0 [(0, .ref 9), (1, .int p0)] [] _
  refine T_iconst (pc := 0) (v := 0) dX4_fewestCoats_0 (by decide) ?_
  refine T_istore_n (pc := 1) (lv' := [(0, .ref 9), (1, .int p0), (2, .int (0 : Int32))]) dX4_fewestCoats_1 rfl (Nat.le_of_ble_eq_true rfl) rfl ?_
  exact fX4_fewestCoats_P2_T p0 σ (0 : Int32)
set_option maxRecDepth 100000 in
set_option maxHeartbeats 4000000 in
theorem ctX4_dressAll (σ : St) (p0 : Int32) (p1 : Int32) : Ct yX4_dressAll kX4_dressAll [.ref 9, .int p0, .int p1] σ cSi (fX4_dressAll σ p0 p1) := by
  refine Ct.of (by decide +kernel) rfl rfl (Nat.le_of_ble_eq_true rfl) ?_
  unfold fX4_dressAll
  show T _ _ _ 0 [(0, .ref 9), (1, .int p0), (2, .int p1)] [] _
  refine T_aload_n (pc := 0) 0 dX4_dressAll_0 rfl rfl ?_
  refine T_iload_n (pc := 1) 1 dX4_dressAll_1 rfl rfl ?_
  refine T_iload_n (pc := 2) 2 dX4_dressAll_2 rfl rfl ?_
  refine T_callSv (pc := 3) (rest := []) (Rn_V (pc := 3) (as := [.int p0, .int p1]) (rest := []) (ctX4_layClashes σ p0 p1) rfl rfl mv_X4_layClashes hw1272 rfl ⟨Nat.le_of_ble_eq_true rfl, Nat.le_of_ble_eq_true rfl⟩ (Nat.le_of_ble_eq_true rfl) dX4_dressAll_3 rfl) rfl (fun s1 => ?_)
  refine T_aload_n (pc := 6) 0 dX4_dressAll_6 rfl rfl ?_
  refine T_aload_n (pc := 7) 0 dX4_dressAll_7 rfl rfl ?_
  refine T_iload_n (pc := 8) 1 dX4_dressAll_8 rfl rfl ?_
  refine T_callPi (pc := 9) (rest := [.ref 9]) (Rn_V (pc := 9) (as := [.int p0]) (rest := [.ref 9]) (ctX4_partsOf s1 p0) rfl rfl mv_X4_partsOf hw1250 rfl ⟨Nat.le_of_ble_eq_true rfl, Nat.le_of_ble_eq_true rfl⟩ (Nat.le_of_ble_eq_true rfl) dX4_dressAll_9 rfl) rfl (fun x2 => ?_)
  refine T_callSi (pc := 12) (rest := []) (Rn_V (pc := 12) (as := [.int x2]) (rest := []) (ctX4_fewestCoats s1 x2) rfl rfl mv_X4_fewestCoats hw1276 rfl ⟨Nat.le_of_ble_eq_true rfl, Nat.le_of_ble_eq_true rfl⟩ (Nat.le_of_ble_eq_true rfl) dX4_dressAll_12 rfl) rfl (fun r3 => ?_)
  exact T_ireturn (pc := 15) rfl dX4_dressAll_15 rfl
set_option maxRecDepth 100000 in
set_option maxHeartbeats 4000000 in
theorem ctX4_coatOf (σ : St) (p0 : Int32) : Ct yX4_coatOf kX4_coatOf [.ref 9, .int p0] σ (cPi σ) (fX4_coatOf σ p0) := by
  refine Ct.of (by decide +kernel) rfl rfl (Nat.le_of_ble_eq_true rfl) ?_
  unfold fX4_coatOf
  show T _ _ _ 0 [(0, .ref 9), (1, .int p0)] [] _
  refine T_iload_n (pc := 0) 1 dX4_coatOf_0 rfl rfl ?_
  refine T_if_lt (pc := 1) 22 dX4_coatOf_1 (by decide) (fun _ => ?_) (fun _ => ?_)
  · refine T_iconst (pc := 22) (v := -1) dX4_coatOf_22 (by decide) ?_
    exact T_ireturn (pc := 23) rfl dX4_coatOf_23 rfl
  · refine T_iload_n (pc := 4) 1 dX4_coatOf_4 rfl rfl ?_
    refine T_aload_n (pc := 5) 0 dX4_coatOf_5 rfl rfl ?_
    refine T_getA (pc := 6) fd_9_4 hw421 dX4_coatOf_6 ?_
    refine T_alen (pc := 9) (v := 10) rfl (by decide) dX4_coatOf_9 ?_
    refine T_icmp_ge (pc := 10) 22 dX4_coatOf_10 (by decide) (fun _ => ?_) (fun _ => ?_)
    · refine T_iconst (pc := 22) (v := -1) dX4_coatOf_22 (by decide) ?_
      exact T_ireturn (pc := 23) rfl dX4_coatOf_23 rfl
    · refine T_aload_n (pc := 13) 0 dX4_coatOf_13 rfl rfl ?_
      refine T_getA (pc := 14) fd_9_4 hw421 dX4_coatOf_14 ?_
      refine T_iload_n (pc := 17) 1 dX4_coatOf_17 rfl rfl ?_
      refine T_iald (pc := 18) rfl dX4_coatOf_18 (fun x1 => ?_)
      refine T_goto (pc := 19) 23 dX4_coatOf_19 (by decide) ?_
      exact T_ireturn (pc := 23) rfl dX4_coatOf_23 rfl
set_option maxRecDepth 100000 in
set_option maxHeartbeats 4000000 in
theorem ctX11_cast (σ : St) (p0 : Int32) (p1 : Int32) (p2 : Int32) : Ct yX11_cast kX11_cast [.ref 0, .int p0, .int p1, .int p2] σ cSi (fX11_cast σ p0 p1 p2) := by
  refine Ct.of (by decide +kernel) rfl rfl (Nat.le_of_ble_eq_true rfl) ?_
  unfold fX11_cast
  show T _ _ _ 0 [(0, .ref 0), (1, .int p0), (2, .int p1), (3, .int p2)] [] _
  refine T_aload_n (pc := 0) 0 dX11_cast_0 rfl rfl ?_
  refine T_getA (pc := 1) fd_0_8 hw447 dX11_cast_1 ?_
  refine T_iload_n (pc := 4) 1 dX11_cast_4 rfl rfl ?_
  refine T_callPz (pc := 5) (rest := []) (Rn_V (pc := 5) (as := [.int p0]) (rest := []) (ctX4_has σ p0) rfl rfl mv_X4_has hw1222 rfl ⟨Nat.le_of_ble_eq_true rfl, Nat.le_of_ble_eq_true rfl⟩ (Nat.le_of_ble_eq_true rfl) dX11_cast_5 rfl) rfl (fun x1 => ?_)
  refine T_if_eq (pc := 8) 35 dX11_cast_8 (by decide) (fun _ => ?_) (fun _ => ?_)
  · refine T_iconst (pc := 35) (v := -1) dX11_cast_35 (by decide) ?_
    exact T_ireturn (pc := 36) rfl dX11_cast_36 rfl
  · refine T_iload_n (pc := 11) 3 dX11_cast_11 rfl rfl ?_
    refine T_callPz (pc := 12) (rest := []) (Rn_S (pc := 12) (as := [.int p2]) (rest := []) (ctX4_isChange σ p2) ms_X4_isChange hw1243 rfl ⟨Nat.le_of_ble_eq_true rfl, Nat.le_of_ble_eq_true rfl⟩ (Nat.le_of_ble_eq_true rfl) dX11_cast_12 rfl) rfl (fun x2 => ?_)
    refine T_if_eq (pc := 15) 35 dX11_cast_15 (by decide) (fun _ => ?_) (fun _ => ?_)
    · refine T_iconst (pc := 35) (v := -1) dX11_cast_35 (by decide) ?_
      exact T_ireturn (pc := 36) rfl dX11_cast_36 rfl
    · refine T_iload_n (pc := 18) 2 dX11_cast_18 rfl rfl ?_
      refine T_iconst (pc := 19) (v := -1) dX11_cast_19 (by decide) ?_
      refine T_icmp_eq (pc := 20) 37 dX11_cast_20 (by decide) (fun _ => ?_) (fun _ => ?_)
      · refine T_aload_n (pc := 37) 0 dX11_cast_37 rfl rfl ?_
        refine T_getA (pc := 38) fd_0_8 hw447 dX11_cast_38 ?_
        refine T_iload_n (pc := 41) 1 dX11_cast_41 rfl rfl ?_
        refine T_iload_n (pc := 42) 3 dX11_cast_42 rfl rfl ?_
        refine T_callSi (pc := 43) (rest := []) (Rn_V (pc := 43) (as := [.int p0, .int p2]) (rest := []) (ctX4_dressAll σ p0 p2) rfl rfl mv_X4_dressAll hw1268 rfl ⟨Nat.le_of_ble_eq_true rfl, Nat.le_of_ble_eq_true rfl⟩ (Nat.le_of_ble_eq_true rfl) dX11_cast_43 rfl) rfl (fun r3 => ?_)
        refine T_istore (pc := 46) (lv' := [(0, .ref 0), (1, .int p0), (2, .int p1), (3, .int p2), (4, .int r3.1)]) dX11_cast_46 (Nat.le_of_ble_eq_true rfl) rfl ?_
        refine T_iload_n (pc := 48) 2 dX11_cast_48 rfl rfl ?_
        refine T_iconst (pc := 49) (v := -1) dX11_cast_49 (by decide) ?_
        refine T_icmp_ne (pc := 50) 58 dX11_cast_50 (by decide) (fun _ => ?_) (fun _ => ?_)
        · refine T_aload_n (pc := 58) 0 dX11_cast_58 rfl rfl ?_
          refine T_getA (pc := 59) fd_0_8 hw447 dX11_cast_59 ?_
          refine T_iload_n (pc := 62) 2 dX11_cast_62 rfl rfl ?_
          refine T_callPi (pc := 63) (rest := []) (Rn_V (pc := 63) (as := [.int p1]) (rest := []) (ctX4_coatOf r3.2 p1) rfl rfl mv_X4_coatOf hw1286 rfl ⟨Nat.le_of_ble_eq_true rfl, Nat.le_of_ble_eq_true rfl⟩ (Nat.le_of_ble_eq_true rfl) dX11_cast_63 rfl) rfl (fun x4 => ?_)
          exact T_ireturn (pc := 66) rfl dX11_cast_66 rfl
        · refine T_iload (pc := 53) 4 dX11_cast_53 rfl ?_
          refine T_goto (pc := 55) 66 dX11_cast_55 (by decide) ?_
          exact T_ireturn (pc := 66) rfl dX11_cast_66 rfl
      · refine T_aload_n (pc := 23) 0 dX11_cast_23 rfl rfl ?_
        refine T_getA (pc := 24) fd_0_8 hw447 dX11_cast_24 ?_
        refine T_iload_n (pc := 27) 1 dX11_cast_27 rfl rfl ?_
        refine T_iload_n (pc := 28) 2 dX11_cast_28 rfl rfl ?_
        refine T_callPz (pc := 29) (rest := []) (Rn_V (pc := 29) (as := [.int p0, .int p1]) (rest := []) (ctX4_hasPart σ p0 p1) rfl rfl mv_X4_hasPart hw1246 rfl ⟨Nat.le_of_ble_eq_true rfl, Nat.le_of_ble_eq_true rfl⟩ (Nat.le_of_ble_eq_true rfl) dX11_cast_29 rfl) rfl (fun x5 => ?_)
        refine T_if_ne (pc := 32) 37 dX11_cast_32 (by decide) (fun _ => ?_) (fun _ => ?_)
        · refine T_aload_n (pc := 37) 0 dX11_cast_37 rfl rfl ?_
          refine T_getA (pc := 38) fd_0_8 hw447 dX11_cast_38 ?_
          refine T_iload_n (pc := 41) 1 dX11_cast_41 rfl rfl ?_
          refine T_iload_n (pc := 42) 3 dX11_cast_42 rfl rfl ?_
          refine T_callSi (pc := 43) (rest := []) (Rn_V (pc := 43) (as := [.int p0, .int p2]) (rest := []) (ctX4_dressAll σ p0 p2) rfl rfl mv_X4_dressAll hw1268 rfl ⟨Nat.le_of_ble_eq_true rfl, Nat.le_of_ble_eq_true rfl⟩ (Nat.le_of_ble_eq_true rfl) dX11_cast_43 rfl) rfl (fun r6 => ?_)
          refine T_istore (pc := 46) (lv' := [(0, .ref 0), (1, .int p0), (2, .int p1), (3, .int p2), (4, .int r6.1)]) dX11_cast_46 (Nat.le_of_ble_eq_true rfl) rfl ?_
          refine T_iload_n (pc := 48) 2 dX11_cast_48 rfl rfl ?_
          refine T_iconst (pc := 49) (v := -1) dX11_cast_49 (by decide) ?_
          refine T_icmp_ne (pc := 50) 58 dX11_cast_50 (by decide) (fun _ => ?_) (fun _ => ?_)
          · refine T_aload_n (pc := 58) 0 dX11_cast_58 rfl rfl ?_
            refine T_getA (pc := 59) fd_0_8 hw447 dX11_cast_59 ?_
            refine T_iload_n (pc := 62) 2 dX11_cast_62 rfl rfl ?_
            refine T_callPi (pc := 63) (rest := []) (Rn_V (pc := 63) (as := [.int p1]) (rest := []) (ctX4_coatOf r6.2 p1) rfl rfl mv_X4_coatOf hw1286 rfl ⟨Nat.le_of_ble_eq_true rfl, Nat.le_of_ble_eq_true rfl⟩ (Nat.le_of_ble_eq_true rfl) dX11_cast_63 rfl) rfl (fun x7 => ?_)
            exact T_ireturn (pc := 66) rfl dX11_cast_66 rfl
          · refine T_iload (pc := 53) 4 dX11_cast_53 rfl ?_
            refine T_goto (pc := 55) 66 dX11_cast_55 (by decide) ?_
            exact T_ireturn (pc := 66) rfl dX11_cast_66 rfl
        · refine T_iconst (pc := 35) (v := -1) dX11_cast_35 (by decide) ?_
          exact T_ireturn (pc := 36) rfl dX11_cast_36 rfl
set_option maxRecDepth 100000 in
set_option maxHeartbeats 4000000 in
theorem ctX4_isCrew (σ : St) (p0 : Int32) : Ct yX4_isCrew kX4_isCrew [.int p0] σ (cPz σ) (fX4_isCrew p0) := by
  refine Ct.of (by decide +kernel) rfl rfl (Nat.le_of_ble_eq_true rfl) ?_
  unfold fX4_isCrew
  show T _ _ _ 0 [(0, .int p0)] [] _
  refine T_iload_n (pc := 0) 0 dX4_isCrew_0 rfl rfl ?_
  refine T_if_lt (pc := 1) 14 dX4_isCrew_1 (by decide) (fun _ => ?_) (fun _ => ?_)
  · refine T_iconst (pc := 14) (v := 0) dX4_isCrew_14 (by decide) ?_
    exact T_zreturn (pc := 15) false rfl dX4_isCrew_15 rfl rfl
  · refine T_iload_n (pc := 4) 0 dX4_isCrew_4 rfl rfl ?_
    refine T_bipush (pc := 5) (v := 10) dX4_isCrew_5 (by decide) ?_
    refine T_icmp_gt (pc := 7) 14 dX4_isCrew_7 (by decide) (fun _ => ?_) (fun _ => ?_)
    · refine T_iconst (pc := 14) (v := 0) dX4_isCrew_14 (by decide) ?_
      exact T_zreturn (pc := 15) false rfl dX4_isCrew_15 rfl rfl
    · refine T_iconst (pc := 10) (v := 1) dX4_isCrew_10 (by decide) ?_
      refine T_goto (pc := 11) 15 dX4_isCrew_11 (by decide) ?_
      exact T_zreturn (pc := 15) true rfl dX4_isCrew_15 rfl rfl
set_option maxRecDepth 100000 in
set_option maxHeartbeats 4000000 in
theorem ctX4_suffice (σ : St) (p0 : Int32) (p1 : Int32) (p2 : Int32) (p3 : Int32) : Ct yX4_suffice kX4_suffice [.ref 9, .int p0, .int p1, .int p2, .int p3] σ cSz (fX4_suffice σ p0 p1 p2 p3) := by
  refine Ct.of (by decide +kernel) rfl rfl (Nat.le_of_ble_eq_true rfl) ?_
  unfold fX4_suffice
  show T _ _ _ 0 [(0, .ref 9), (1, .int p0), (2, .int p1), (3, .int p2), (4, .int p3)] [] _
  refine T_aload_n (pc := 0) 0 dX4_suffice_0 rfl rfl ?_
  refine T_iload_n (pc := 1) 1 dX4_suffice_1 rfl rfl ?_
  refine T_iload_n (pc := 2) 2 dX4_suffice_2 rfl rfl ?_
  refine T_callSv (pc := 3) (rest := []) (Rn_V (pc := 3) (as := [.int p0, .int p1]) (rest := []) (ctX4_layClashes σ p0 p1) rfl rfl mv_X4_layClashes hw1272 rfl ⟨Nat.le_of_ble_eq_true rfl, Nat.le_of_ble_eq_true rfl⟩ (Nat.le_of_ble_eq_true rfl) dX4_suffice_3 rfl) rfl (fun s1 => ?_)
  refine T_aload_n (pc := 6) 0 dX4_suffice_6 rfl rfl ?_
  refine T_iload_n (pc := 7) 1 dX4_suffice_7 rfl rfl ?_
  refine T_callPi (pc := 8) (rest := []) (Rn_V (pc := 8) (as := [.int p0]) (rest := []) (ctX4_partsOf s1 p0) rfl rfl mv_X4_partsOf hw1250 rfl ⟨Nat.le_of_ble_eq_true rfl, Nat.le_of_ble_eq_true rfl⟩ (Nat.le_of_ble_eq_true rfl) dX4_suffice_8 rfl) rfl (fun x2 => ?_)
  refine T_istore (pc := 11) (lv' := [(0, .ref 9), (1, .int p0), (2, .int p1), (3, .int p2), (4, .int p3), (5, .int x2)]) dX4_suffice_11 (Nat.le_of_ble_eq_true rfl) rfl ?_
  refine T_aload_n (pc := 13) 0 dX4_suffice_13 rfl rfl ?_
  refine T_iload (pc := 14) 5 dX4_suffice_14 rfl ?_
  refine T_aload_n (pc := 16) 0 dX4_suffice_16 rfl rfl ?_
  refine T_getI (pc := 17) fd_9_6 hw423 dX4_suffice_17 ?_
  refine T_iconst (pc := 20) (v := -1) dX4_suffice_20 (by decide) ?_
  refine T_ixor (pc := 21) dX4_suffice_21 ?_
  refine T_iand (pc := 22) dX4_suffice_22 ?_
  refine T_callSi (pc := 23) (rest := []) (Rn_V (pc := 23) (as := [.int (x2 &&& ((zI s1 29) ^^^ (-1 : Int32)))]) (rest := []) (ctX4_fewestCoats s1 (x2 &&& ((zI s1 29) ^^^ (-1 : Int32)))) rfl rfl mv_X4_fewestCoats hw1276 rfl ⟨Nat.le_of_ble_eq_true rfl, Nat.le_of_ble_eq_true rfl⟩ (Nat.le_of_ble_eq_true rfl) dX4_suffice_23 rfl) rfl (fun r3 => ?_)
  refine T_iload_n (pc := 26) 3 dX4_suffice_26 rfl rfl ?_
  refine T_icmp_gt (pc := 27) 50 dX4_suffice_27 (by decide) (fun _ => ?_) (fun _ => ?_)
  · refine T_iconst (pc := 50) (v := 0) dX4_suffice_50 (by decide) ?_
    exact T_zreturn (pc := 51) false rfl dX4_suffice_51 rfl rfl
  · refine T_aload_n (pc := 30) 0 dX4_suffice_30 rfl rfl ?_
    refine T_iload (pc := 31) 5 dX4_suffice_31 rfl ?_
    refine T_aload_n (pc := 33) 0 dX4_suffice_33 rfl rfl ?_
    refine T_getI (pc := 34) fd_9_6 hw423 dX4_suffice_34 ?_
    refine T_iand (pc := 37) dX4_suffice_37 ?_
    refine T_callSi (pc := 38) (rest := []) (Rn_V (pc := 38) (as := [.int (x2 &&& (zI r3.2 29))]) (rest := []) (ctX4_fewestCoats r3.2 (x2 &&& (zI r3.2 29))) rfl rfl mv_X4_fewestCoats hw1276 rfl ⟨Nat.le_of_ble_eq_true rfl, Nat.le_of_ble_eq_true rfl⟩ (Nat.le_of_ble_eq_true rfl) dX4_suffice_38 rfl) rfl (fun r4 => ?_)
    refine T_iload (pc := 41) 4 dX4_suffice_41 rfl ?_
    refine T_icmp_gt (pc := 43) 50 dX4_suffice_43 (by decide) (fun _ => ?_) (fun _ => ?_)
    · refine T_iconst (pc := 50) (v := 0) dX4_suffice_50 (by decide) ?_
      exact T_zreturn (pc := 51) false rfl dX4_suffice_51 rfl rfl
    · refine T_iconst (pc := 46) (v := 1) dX4_suffice_46 (by decide) ?_
      refine T_goto (pc := 47) 51 dX4_suffice_47 (by decide) ?_
      exact T_zreturn (pc := 51) true rfl dX4_suffice_51 rfl rfl
set_option maxRecDepth 100000 in
set_option maxHeartbeats 4000000 in
theorem ctX11_could (σ : St) (p0 : Int32) (p1 : Int32) (p2 : Int32) (p3 : Int32) : Ct yX11_could kX11_could [.ref 0, .int p0, .int p1, .int p2, .int p3] σ cSi (fX11_could σ p0 p1 p2 p3) := by
  refine Ct.of (by decide +kernel) rfl rfl (Nat.le_of_ble_eq_true rfl) ?_
  unfold fX11_could
  show T _ _ _ 0 [(0, .ref 0), (1, .int p0), (2, .int p1), (3, .int p2), (4, .int p3)] [] _
  refine T_aload_n (pc := 0) 0 dX11_could_0 rfl rfl ?_
  refine T_getA (pc := 1) fd_0_8 hw447 dX11_could_1 ?_
  refine T_iload_n (pc := 4) 1 dX11_could_4 rfl rfl ?_
  refine T_callPz (pc := 5) (rest := []) (Rn_V (pc := 5) (as := [.int p0]) (rest := []) (ctX4_has σ p0) rfl rfl mv_X4_has hw1222 rfl ⟨Nat.le_of_ble_eq_true rfl, Nat.le_of_ble_eq_true rfl⟩ (Nat.le_of_ble_eq_true rfl) dX11_could_5 rfl) rfl (fun x1 => ?_)
  refine T_if_eq (pc := 8) 33 dX11_could_8 (by decide) (fun _ => ?_) (fun _ => ?_)
  · refine T_iconst (pc := 33) (v := -1) dX11_could_33 (by decide) ?_
    exact T_ireturn (pc := 34) rfl dX11_could_34 rfl
  · refine T_iload_n (pc := 11) 2 dX11_could_11 rfl rfl ?_
    refine T_callPz (pc := 12) (rest := []) (Rn_S (pc := 12) (as := [.int p1]) (rest := []) (ctX4_isChange σ p1) ms_X4_isChange hw1243 rfl ⟨Nat.le_of_ble_eq_true rfl, Nat.le_of_ble_eq_true rfl⟩ (Nat.le_of_ble_eq_true rfl) dX11_could_12 rfl) rfl (fun x2 => ?_)
    refine T_if_eq (pc := 15) 33 dX11_could_15 (by decide) (fun _ => ?_) (fun _ => ?_)
    · refine T_iconst (pc := 33) (v := -1) dX11_could_33 (by decide) ?_
      exact T_ireturn (pc := 34) rfl dX11_could_34 rfl
    · refine T_iload_n (pc := 18) 3 dX11_could_18 rfl rfl ?_
      refine T_callPz (pc := 19) (rest := []) (Rn_S (pc := 19) (as := [.int p2]) (rest := []) (ctX4_isCrew σ p2) ms_X4_isCrew hw1309 rfl ⟨Nat.le_of_ble_eq_true rfl, Nat.le_of_ble_eq_true rfl⟩ (Nat.le_of_ble_eq_true rfl) dX11_could_19 rfl) rfl (fun x3 => ?_)
      refine T_if_eq (pc := 22) 33 dX11_could_22 (by decide) (fun _ => ?_) (fun _ => ?_)
      · refine T_iconst (pc := 33) (v := -1) dX11_could_33 (by decide) ?_
        exact T_ireturn (pc := 34) rfl dX11_could_34 rfl
      · refine T_iload (pc := 25) 4 dX11_could_25 rfl ?_
        refine T_callPz (pc := 27) (rest := []) (Rn_S (pc := 27) (as := [.int p3]) (rest := []) (ctX4_isCrew σ p3) ms_X4_isCrew hw1309 rfl ⟨Nat.le_of_ble_eq_true rfl, Nat.le_of_ble_eq_true rfl⟩ (Nat.le_of_ble_eq_true rfl) dX11_could_27 rfl) rfl (fun x4 => ?_)
        refine T_if_ne (pc := 30) 35 dX11_could_30 (by decide) (fun _ => ?_) (fun _ => ?_)
        · refine T_aload_n (pc := 35) 0 dX11_could_35 rfl rfl ?_
          refine T_getA (pc := 36) fd_0_8 hw447 dX11_could_36 ?_
          refine T_iload_n (pc := 39) 1 dX11_could_39 rfl rfl ?_
          refine T_iload_n (pc := 40) 2 dX11_could_40 rfl rfl ?_
          refine T_iload_n (pc := 41) 3 dX11_could_41 rfl rfl ?_
          refine T_iload (pc := 42) 4 dX11_could_42 rfl ?_
          refine T_callSz (pc := 44) (rest := []) (Rn_V (pc := 44) (as := [.int p0, .int p1, .int p2, .int p3]) (rest := []) (ctX4_suffice σ p0 p1 p2 p3) rfl rfl mv_X4_suffice hw1312 rfl ⟨Nat.le_of_ble_eq_true rfl, Nat.le_of_ble_eq_true rfl⟩ (Nat.le_of_ble_eq_true rfl) dX11_could_44 rfl) rfl (fun r5 => ?_)
          refine T_if_eq (pc := 47) 54 dX11_could_47 (by decide) (fun _ => ?_) (fun _ => ?_)
          · refine T_iconst (pc := 54) (v := 0) dX11_could_54 (by decide) ?_
            exact T_ireturn (pc := 55) rfl dX11_could_55 rfl
          · refine T_iconst (pc := 50) (v := 1) dX11_could_50 (by decide) ?_
            refine T_goto (pc := 51) 55 dX11_could_51 (by decide) ?_
            exact T_ireturn (pc := 55) rfl dX11_could_55 rfl
        · refine T_iconst (pc := 33) (v := -1) dX11_could_33 (by decide) ?_
          exact T_ireturn (pc := 34) rfl dX11_could_34 rfl
set_option maxRecDepth 100000 in
set_option maxHeartbeats 4000000 in
theorem ctX4_number (σ : St) : Ct yX4_number kX4_number [.ref 9] σ (cPi σ) (fX4_number σ) := by
  refine Ct.of (by decide +kernel) rfl rfl (Nat.le_of_ble_eq_true rfl) ?_
  unfold fX4_number
  show T _ _ _ 0 [(0, .ref 9)] [] _
  refine T_aload_n (pc := 0) 0 dX4_number_0 rfl rfl ?_
  refine T_getI (pc := 1) fd_9_5 hw422 dX4_number_1 ?_
  exact T_ireturn (pc := 4) rfl dX4_number_4 rfl
set_option maxRecDepth 100000 in
set_option maxHeartbeats 4000000 in
theorem ctX1_number (σ : St) : Ct yX1_number kX1_number [.ref 4] σ (cPi σ) (fX1_number σ) := by
  refine Ct.of (by decide +kernel) rfl rfl (Nat.le_of_ble_eq_true rfl) ?_
  unfold fX1_number
  show T _ _ _ 0 [(0, .ref 4)] [] _
  refine T_aload_n (pc := 0) 0 dX1_number_0 rfl rfl ?_
  refine T_getI (pc := 1) fd_4_6 hw290 dX1_number_1 ?_
  exact T_ireturn (pc := 4) rfl dX1_number_4 rfl
set_option maxRecDepth 100000 in
set_option maxHeartbeats 4000000 in
theorem ctX9_size (σ : St) : Ct yX9_size kX9_size [.ref 1] σ (cPi σ) (fX9_size σ) := by
  refine Ct.of (by decide +kernel) rfl rfl (Nat.le_of_ble_eq_true rfl) ?_
  unfold fX9_size
  show T _ _ _ 0 [(0, .ref 1)] [] _
  refine T_aload_n (pc := 0) 0 dX9_size_0 rfl rfl ?_
  refine T_getI (pc := 1) fd_1_1 hw216 dX9_size_1 ?_
  exact T_ireturn (pc := 4) rfl dX9_size_4 rfl
set_option maxRecDepth 100000 in
set_option maxHeartbeats 4000000 in
theorem ctX4_boysNow (σ : St) : Ct yX4_boysNow kX4_boysNow [.ref 9] σ (cPi σ) (fX4_boysNow σ) := by
  refine Ct.of (by decide +kernel) rfl rfl (Nat.le_of_ble_eq_true rfl) ?_
  unfold fX4_boysNow
  show T _ _ _ 0 [(0, .ref 9)] [] _
  refine T_aload_n (pc := 0) 0 dX4_boysNow_0 rfl rfl ?_
  refine T_getI (pc := 1) fd_9_6 hw423 dX4_boysNow_1 ?_
  exact T_ireturn (pc := 4) rfl dX4_boysNow_4 rfl
set_option maxRecDepth 100000 in
set_option maxHeartbeats 4000000 in
theorem ctX11_count (σ : St) (p0 : Int32) : Ct yX11_count kX11_count [.ref 0, .int p0] σ (cPi σ) (fX11_count σ p0) := by
  refine Ct.of (by decide +kernel) rfl rfl (Nat.le_of_ble_eq_true rfl) ?_
  unfold fX11_count
  show T _ _ _ 0 [(0, .ref 0), (1, .int p0)] [] _
  refine T_iload_n (pc := 0) 1 dX11_count_0 rfl rfl ?_
  refine T_ite (fun h0 => ?_) (fun h0 => ?_)
  · refine T_tabIn (pc := 1) (off := 43) 44 dX11_count_1 (by rw [h0]; decide) (by rw [h0]; decide) (by rw [h0]; rfl) (by decide) ?_
    refine T_aload_n (pc := 44) 0 dX11_count_44 rfl rfl ?_
    refine T_getA (pc := 45) fd_0_4 hw443 dX11_count_45 ?_
    refine T_callPi (pc := 48) (rest := []) (Rn_V (pc := 48) (as := []) (rest := []) (ctX7_number σ) rfl rfl mv_X7_number hw1384 rfl ⟨Nat.le_of_ble_eq_true rfl, Nat.le_of_ble_eq_true rfl⟩ (Nat.le_of_ble_eq_true rfl) dX11_count_48 rfl) rfl (fun x1 => ?_)
    exact T_ireturn (pc := 51) rfl dX11_count_51 rfl
  · refine T_ite (fun h1 => ?_) (fun h1 => ?_)
    · refine T_tabIn (pc := 1) (off := 51) 52 dX11_count_1 (by rw [h1]; decide) (by rw [h1]; decide) (by rw [h1]; rfl) (by decide) ?_
      refine T_aload_n (pc := 52) 0 dX11_count_52 rfl rfl ?_
      refine T_getA (pc := 53) fd_0_8 hw447 dX11_count_53 ?_
      refine T_callPi (pc := 56) (rest := []) (Rn_V (pc := 56) (as := []) (rest := []) (ctX4_number σ) rfl rfl mv_X4_number hw1401 rfl ⟨Nat.le_of_ble_eq_true rfl, Nat.le_of_ble_eq_true rfl⟩ (Nat.le_of_ble_eq_true rfl) dX11_count_56 rfl) rfl (fun x2 => ?_)
      exact T_ireturn (pc := 59) rfl dX11_count_59 rfl
    · refine T_ite (fun h2 => ?_) (fun h2 => ?_)
      · refine T_tabIn (pc := 1) (off := 59) 60 dX11_count_1 (by rw [h2]; decide) (by rw [h2]; decide) (by rw [h2]; rfl) (by decide) ?_
        refine T_aload_n (pc := 60) 0 dX11_count_60 rfl rfl ?_
        refine T_getA (pc := 61) fd_0_3 hw442 dX11_count_61 ?_
        refine T_callPi (pc := 64) (rest := []) (Rn_V (pc := 64) (as := []) (rest := []) (ctX1_number σ) rfl rfl mv_X1_number hw1405 rfl ⟨Nat.le_of_ble_eq_true rfl, Nat.le_of_ble_eq_true rfl⟩ (Nat.le_of_ble_eq_true rfl) dX11_count_64 rfl) rfl (fun x3 => ?_)
        exact T_ireturn (pc := 67) rfl dX11_count_67 rfl
      · refine T_ite (fun h3 => ?_) (fun h3 => ?_)
        · refine T_tabIn (pc := 1) (off := 67) 68 dX11_count_1 (by rw [h3]; decide) (by rw [h3]; decide) (by rw [h3]; rfl) (by decide) ?_
          refine T_aload_n (pc := 68) 0 dX11_count_68 rfl rfl ?_
          refine T_getA (pc := 69) fd_0_4 hw443 dX11_count_69 ?_
          refine T_callPi (pc := 72) (rest := []) (Rn_V (pc := 72) (as := []) (rest := []) (ctX7_speeches σ) rfl rfl mv_X7_speeches hw1409 rfl ⟨Nat.le_of_ble_eq_true rfl, Nat.le_of_ble_eq_true rfl⟩ (Nat.le_of_ble_eq_true rfl) dX11_count_72 rfl) rfl (fun x4 => ?_)
          exact T_ireturn (pc := 75) rfl dX11_count_75 rfl
        · refine T_ite (fun h4 => ?_) (fun h4 => ?_)
          · refine T_tabIn (pc := 1) (off := 75) 76 dX11_count_1 (by rw [h4]; decide) (by rw [h4]; decide) (by rw [h4]; rfl) (by decide) ?_
            refine T_aload_n (pc := 76) 0 dX11_count_76 rfl rfl ?_
            refine T_getA (pc := 77) fd_0_0 hw439 dX11_count_77 ?_
            refine T_callPi (pc := 80) (rest := []) (Rn_V (pc := 80) (as := []) (rest := []) (ctX9_size σ) rfl rfl mv_X9_size hw480 rfl ⟨Nat.le_of_ble_eq_true rfl, Nat.le_of_ble_eq_true rfl⟩ (Nat.le_of_ble_eq_true rfl) dX11_count_80 rfl) rfl (fun x5 => ?_)
            exact T_ireturn (pc := 83) rfl dX11_count_83 rfl
          · refine T_ite (fun h5 => ?_) (fun h5 => ?_)
            · refine T_tabIn (pc := 1) (off := 83) 84 dX11_count_1 (by rw [h5]; decide) (by rw [h5]; decide) (by rw [h5]; rfl) (by decide) ?_
              refine T_aload_n (pc := 84) 0 dX11_count_84 rfl rfl ?_
              refine T_getA (pc := 85) fd_0_5 hw444 dX11_count_85 ?_
              refine T_callPi (pc := 88) (rest := []) (Rn_V (pc := 88) (as := []) (rest := []) (ctX0_limitNow σ) rfl rfl mv_X0_limitNow hw1410 rfl ⟨Nat.le_of_ble_eq_true rfl, Nat.le_of_ble_eq_true rfl⟩ (Nat.le_of_ble_eq_true rfl) dX11_count_88 rfl) rfl (fun x6 => ?_)
              exact T_ireturn (pc := 91) rfl dX11_count_91 rfl
            · refine T_ite (fun h6 => ?_) (fun h6 => ?_)
              · refine T_tabIn (pc := 1) (off := 91) 92 dX11_count_1 (by rw [h6]; decide) (by rw [h6]; decide) (by rw [h6]; rfl) (by decide) ?_
                refine T_aload_n (pc := 92) 0 dX11_count_92 rfl rfl ?_
                refine T_getA (pc := 93) fd_0_8 hw447 dX11_count_93 ?_
                refine T_callPi (pc := 96) (rest := []) (Rn_V (pc := 96) (as := []) (rest := []) (ctX4_boysNow σ) rfl rfl mv_X4_boysNow hw1414 rfl ⟨Nat.le_of_ble_eq_true rfl, Nat.le_of_ble_eq_true rfl⟩ (Nat.le_of_ble_eq_true rfl) dX11_count_96 rfl) rfl (fun x7 => ?_)
                exact T_ireturn (pc := 99) rfl dX11_count_99 rfl
              · refine T_tabOut (pc := 1) 100 dX11_count_1 (by have a0 := i32_ne (n := 0) h0 rfl; have a1 := i32_ne (n := 1) h1 rfl; have a2 := i32_ne (n := 2) h2 rfl; have a3 := i32_ne (n := 3) h3 rfl; have a4 := i32_ne (n := 4) h4 rfl; have a5 := i32_ne (n := 5) h5 rfl; have a6 := i32_ne (n := 6) h6 rfl; omega) (by decide) ?_
                refine T_iconst (pc := 100) (v := -1) dX11_count_100 (by decide) ?_
                exact T_ireturn (pc := 101) rfl dX11_count_101 rfl
