/-! methods X11_feed .. X2_firstAt: by program (wip/gen) -/
set_option maxRecDepth 100000 in
set_option maxHeartbeats 4000000 in
theorem ctX11_feed (σ : St) (p0 : Int32) (p1 : Int32) (p2 : Int32) (p3 : Int32) (p4 : Int32) : Ct yX11_feed kX11_feed [.ref 0, .int p0, .int p1, .int p2, .int p3, .int p4] σ cSi (fX11_feed σ p0 p1 p2 p3 p4) := by
  refine Ct.of (by decide +kernel) rfl rfl (Nat.le_of_ble_eq_true rfl) ?_
  unfold fX11_feed
  show T _ _ _ 0 [(0, .ref 0), (1, .int p0), (2, .int p1), (3, .int p2), (4, .int p3), (5, .int p4)] [] _
  refine T_iload_n (pc := 0) 1 dX11_feed_0 rfl rfl ?_
  refine T_callPi (pc := 1) (rest := []) (Rn_S (pc := 1) (as := [.int p0]) (rest := []) (ctX9_told σ p0) ms_X9_told hw477 rfl ⟨Nat.le_of_ble_eq_true rfl, Nat.le_of_ble_eq_true rfl⟩ (Nat.le_of_ble_eq_true rfl) dX11_feed_1 rfl) rfl (fun x1 => ?_)
  refine T_iload_n (pc := 4) 2 dX11_feed_4 rfl rfl ?_
  refine T_callPi (pc := 5) (rest := [.int x1]) (Rn_S (pc := 5) (as := [.int p1]) (rest := [.int x1]) (ctX9_told σ p1) ms_X9_told hw477 rfl ⟨Nat.le_of_ble_eq_true rfl, Nat.le_of_ble_eq_true rfl⟩ (Nat.le_of_ble_eq_true rfl) dX11_feed_5 rfl) rfl (fun x2 => ?_)
  refine T_iadd (pc := 8) dX11_feed_8 ?_
  refine T_iload_n (pc := 9) 3 dX11_feed_9 rfl rfl ?_
  refine T_callPi (pc := 10) (rest := [.int (x1 + x2)]) (Rn_S (pc := 10) (as := [.int p2]) (rest := [.int (x1 + x2)]) (ctX9_told σ p2) ms_X9_told hw477 rfl ⟨Nat.le_of_ble_eq_true rfl, Nat.le_of_ble_eq_true rfl⟩ (Nat.le_of_ble_eq_true rfl) dX11_feed_10 rfl) rfl (fun x3 => ?_)
  refine T_iadd (pc := 13) dX11_feed_13 ?_
  refine T_iload (pc := 14) 4 dX11_feed_14 rfl ?_
  refine T_callPi (pc := 16) (rest := [.int ((x1 + x2) + x3)]) (Rn_S (pc := 16) (as := [.int p3]) (rest := [.int ((x1 + x2) + x3)]) (ctX9_told σ p3) ms_X9_told hw477 rfl ⟨Nat.le_of_ble_eq_true rfl, Nat.le_of_ble_eq_true rfl⟩ (Nat.le_of_ble_eq_true rfl) dX11_feed_16 rfl) rfl (fun x4 => ?_)
  refine T_iadd (pc := 19) dX11_feed_19 ?_
  refine T_iload (pc := 20) 5 dX11_feed_20 rfl ?_
  refine T_callPi (pc := 22) (rest := [.int (((x1 + x2) + x3) + x4)]) (Rn_S (pc := 22) (as := [.int p4]) (rest := [.int (((x1 + x2) + x3) + x4)]) (ctX9_told σ p4) ms_X9_told hw477 rfl ⟨Nat.le_of_ble_eq_true rfl, Nat.le_of_ble_eq_true rfl⟩ (Nat.le_of_ble_eq_true rfl) dX11_feed_22 rfl) rfl (fun x5 => ?_)
  refine T_iadd (pc := 25) dX11_feed_25 ?_
  refine T_letI (fun x6 => ?_)
  refine T_istore (pc := 26) (lv' := [(0, .ref 0), (1, .int p0), (2, .int p1), (3, .int p2), (4, .int p3), (5, .int p4), (6, .int x6)]) dX11_feed_26 (Nat.le_of_ble_eq_true rfl) rfl ?_
  refine T_aload_n (pc := 28) 0 dX11_feed_28 rfl rfl ?_
  refine T_getA (pc := 29) fd_0_0 hw439 dX11_feed_29 ?_
  refine T_callPi (pc := 32) (rest := []) (Rn_V (pc := 32) (as := []) (rest := []) (ctX9_size σ) rfl rfl mv_X9_size hw480 rfl ⟨Nat.le_of_ble_eq_true rfl, Nat.le_of_ble_eq_true rfl⟩ (Nat.le_of_ble_eq_true rfl) dX11_feed_32 rfl) rfl (fun x7 => ?_)
  refine T_iload (pc := 35) 6 dX11_feed_35 rfl ?_
  refine T_iadd (pc := 37) dX11_feed_37 ?_
  refine T_sipush (pc := 38) (v := 200) dX11_feed_38 (by decide) ?_
  refine T_icmp_le (pc := 41) 46 dX11_feed_41 (by decide) (fun _ => ?_) (fun _ => ?_)
  · refine T_aload_n (pc := 46) 0 dX11_feed_46 rfl rfl ?_
    refine T_getA (pc := 47) fd_0_0 hw439 dX11_feed_47 ?_
    refine T_iload_n (pc := 50) 1 dX11_feed_50 rfl rfl ?_
    refine T_callSv (pc := 51) (rest := []) (Rn_V (pc := 51) (as := [.int p0]) (rest := []) (ctX9_put σ p0) rfl rfl mv_X9_put hw484 rfl ⟨Nat.le_of_ble_eq_true rfl, Nat.le_of_ble_eq_true rfl⟩ (Nat.le_of_ble_eq_true rfl) dX11_feed_51 rfl) rfl (fun s8 => ?_)
    refine T_aload_n (pc := 54) 0 dX11_feed_54 rfl rfl ?_
    refine T_getA (pc := 55) fd_0_0 hw439 dX11_feed_55 ?_
    refine T_iload_n (pc := 58) 2 dX11_feed_58 rfl rfl ?_
    refine T_callSv (pc := 59) (rest := []) (Rn_V (pc := 59) (as := [.int p1]) (rest := []) (ctX9_put s8 p1) rfl rfl mv_X9_put hw484 rfl ⟨Nat.le_of_ble_eq_true rfl, Nat.le_of_ble_eq_true rfl⟩ (Nat.le_of_ble_eq_true rfl) dX11_feed_59 rfl) rfl (fun s9 => ?_)
    refine T_aload_n (pc := 62) 0 dX11_feed_62 rfl rfl ?_
    refine T_getA (pc := 63) fd_0_0 hw439 dX11_feed_63 ?_
    refine T_iload_n (pc := 66) 3 dX11_feed_66 rfl rfl ?_
    refine T_callSv (pc := 67) (rest := []) (Rn_V (pc := 67) (as := [.int p2]) (rest := []) (ctX9_put s9 p2) rfl rfl mv_X9_put hw484 rfl ⟨Nat.le_of_ble_eq_true rfl, Nat.le_of_ble_eq_true rfl⟩ (Nat.le_of_ble_eq_true rfl) dX11_feed_67 rfl) rfl (fun s10 => ?_)
    refine T_aload_n (pc := 70) 0 dX11_feed_70 rfl rfl ?_
    refine T_getA (pc := 71) fd_0_0 hw439 dX11_feed_71 ?_
    refine T_iload (pc := 74) 4 dX11_feed_74 rfl ?_
    refine T_callSv (pc := 76) (rest := []) (Rn_V (pc := 76) (as := [.int p3]) (rest := []) (ctX9_put s10 p3) rfl rfl mv_X9_put hw484 rfl ⟨Nat.le_of_ble_eq_true rfl, Nat.le_of_ble_eq_true rfl⟩ (Nat.le_of_ble_eq_true rfl) dX11_feed_76 rfl) rfl (fun s11 => ?_)
    refine T_aload_n (pc := 79) 0 dX11_feed_79 rfl rfl ?_
    refine T_getA (pc := 80) fd_0_0 hw439 dX11_feed_80 ?_
    refine T_iload (pc := 83) 5 dX11_feed_83 rfl ?_
    refine T_callSv (pc := 85) (rest := []) (Rn_V (pc := 85) (as := [.int p4]) (rest := []) (ctX9_put s11 p4) rfl rfl mv_X9_put hw484 rfl ⟨Nat.le_of_ble_eq_true rfl, Nat.le_of_ble_eq_true rfl⟩ (Nat.le_of_ble_eq_true rfl) dX11_feed_85 rfl) rfl (fun s12 => ?_)
    refine T_aload_n (pc := 88) 0 dX11_feed_88 rfl rfl ?_
    refine T_getA (pc := 89) fd_0_0 hw439 dX11_feed_89 ?_
    refine T_callPi (pc := 92) (rest := []) (Rn_V (pc := 92) (as := []) (rest := []) (ctX9_size s12) rfl rfl mv_X9_size hw480 rfl ⟨Nat.le_of_ble_eq_true rfl, Nat.le_of_ble_eq_true rfl⟩ (Nat.le_of_ble_eq_true rfl) dX11_feed_92 rfl) rfl (fun x13 => ?_)
    exact T_ireturn (pc := 95) rfl dX11_feed_95 rfl
  · refine T_iconst (pc := 44) (v := -1) dX11_feed_44 (by decide) ?_
    exact T_ireturn (pc := 45) rfl dX11_feed_45 rfl
set_option maxRecDepth 100000 in
set_option maxHeartbeats 4000000 in
theorem ctX7_haveAll (σ : St) (p0 : Int32) : Ct yX7_haveAll kX7_haveAll [.ref 5, .int p0] σ (cPz σ) (fX7_haveAll σ p0) := by
  refine Ct.of (by decide +kernel) rfl rfl (Nat.le_of_ble_eq_true rfl) ?_
  unfold fX7_haveAll
  show T _ _ _ 0 [(0, .ref 5), (1, .int p0)] [] _
  refine T_iload_n (pc := 0) 1 dX7_haveAll_0 rfl rfl ?_
  refine T_if_le (pc := 1) 18 dX7_haveAll_1 (by decide) (fun _ => ?_) (fun _ => ?_)
  · refine T_iconst (pc := 18) (v := 0) dX7_haveAll_18 (by decide) ?_
    exact T_zreturn (pc := 19) false rfl dX7_haveAll_19 rfl rfl
  · refine T_iload_n (pc := 4) 1 dX7_haveAll_4 rfl rfl ?_
    refine T_iconst (pc := 5) (v := 1) dX7_haveAll_5 (by decide) ?_
    refine T_aload_n (pc := 6) 0 dX7_haveAll_6 rfl rfl ?_
    refine T_getI (pc := 7) fd_5_8 hw155 dX7_haveAll_7 ?_
    refine T_ishl (pc := 10) dX7_haveAll_10 ?_
    refine T_icmp_ge (pc := 11) 18 dX7_haveAll_11 (by decide) (fun _ => ?_) (fun _ => ?_)
    · refine T_iconst (pc := 18) (v := 0) dX7_haveAll_18 (by decide) ?_
      exact T_zreturn (pc := 19) false rfl dX7_haveAll_19 rfl rfl
    · refine T_iconst (pc := 14) (v := 1) dX7_haveAll_14 (by decide) ?_
      refine T_goto (pc := 15) 19 dX7_haveAll_15 (by decide) ?_
      exact T_zreturn (pc := 19) true rfl dX7_haveAll_19 rfl rfl
set_option maxRecDepth 100000 in
set_option maxHeartbeats 4000000 in
theorem fX2_layOut_L14_T (v1 : Int32) (σ : St) {k1 : St → Int32 → Option (Bool × St)} {kb : St → Int32 → Int32 → Option (Bool × St)} (hk1 : ∀ (σ' : St) (w2 : Int32), T kX2_layOut cSz σ' 135 [(0, .ref 7), (2, .int w2)] [] (k1 σ' w2)) (hkb : ∀ (σ' : St) (w2 : Int32) (w3 : Int32), T kX2_layOut cSz σ' 14 [(0, .ref 7), (1, .int v1), (2, .int w2), (3, .int w3)] [] (kb σ' w2 w3)) (v2 : Int32) (v3 : Int32) : T kX2_layOut cSz σ 14 [(0, .ref 7), (1, .int v1), (2, .int v2), (3, .int v3)] [] (fX2_layOut_L14 v1 k1 kb σ v2 v3) := by
  unfold fX2_layOut_L14
  refine T_iload_n (pc := 14) 3 dX2_layOut_14 rfl rfl ?_
  refine T_bipush (pc := 15) (v := 8) dX2_layOut_15 (by decide) ?_
  refine T_icmp_ge (pc := 17) 135 dX2_layOut_17 (by decide) (fun _ => ?_) (fun _ => ?_)
  · refine T_pick (lv' := [(0, .ref 7), (2, .int v2)]) [0, 2] rfl ?_
    exact hk1 σ v2
  · refine T_iload_n (pc := 20) 3 dX2_layOut_20 rfl rfl ?_
    refine T_iload_n (pc := 21) 1 dX2_layOut_21 rfl rfl ?_
    refine T_callPz (pc := 22) (rest := []) (Rn_S (pc := 22) (as := [.int v3, .int v1]) (rest := []) (ctX7_isIn σ v3 v1) ms_X7_isIn hw937 rfl ⟨Nat.le_of_ble_eq_true rfl, Nat.le_of_ble_eq_true rfl⟩ (Nat.le_of_ble_eq_true rfl) dX2_layOut_22 rfl) rfl (fun x3 => ?_)
    refine T_if_eq (pc := 25) 129 dX2_layOut_25 (by decide) (fun _ => ?_) (fun _ => ?_)
    · refine T_iinc (pc := 129) (y := 1) (lv' := [(0, .ref 7), (1, .int v1), (2, .int v2), (3, .int (v3 + (1 : Int32)))]) 3 dX2_layOut_129 (by decide) rfl (Nat.le_of_ble_eq_true rfl) rfl ?_
      refine T_goto (pc := 132) 14 dX2_layOut_132 (by decide) ?_
      exact hkb σ v2 (v3 + (1 : Int32))
    · refine T_aload_n (pc := 28) 0 dX2_layOut_28 rfl rfl ?_
      refine T_getI (pc := 29) fd_7_12 hw337 dX2_layOut_29 ?_
      refine T_bipush (pc := 32) (v := 8) dX2_layOut_32 (by decide) ?_
      refine T_icmp_ge (pc := 34) 129 dX2_layOut_34 (by decide) (fun _ => ?_) (fun _ => ?_)
      · refine T_iinc (pc := 129) (y := 1) (lv' := [(0, .ref 7), (1, .int v1), (2, .int v2), (3, .int (v3 + (1 : Int32)))]) 3 dX2_layOut_129 (by decide) rfl (Nat.le_of_ble_eq_true rfl) rfl ?_
        refine T_goto (pc := 132) 14 dX2_layOut_132 (by decide) ?_
        exact hkb σ v2 (v3 + (1 : Int32))
      · refine T_aload_n (pc := 37) 0 dX2_layOut_37 rfl rfl ?_
        refine T_getA (pc := 38) fd_7_2 hw327 dX2_layOut_38 ?_
        refine T_aload_n (pc := 41) 0 dX2_layOut_41 rfl rfl ?_
        refine T_getI (pc := 42) fd_7_12 hw337 dX2_layOut_42 ?_
        refine T_iload_n (pc := 45) 3 dX2_layOut_45 rfl rfl ?_
        refine T_iast (pc := 46) rfl dX2_layOut_46 ?_
        refine T_letS (fun s4 => ?_)
        refine T_aload_n (pc := 47) 0 dX2_layOut_47 rfl rfl ?_
        refine T_getA (pc := 48) fd_7_3 hw328 dX2_layOut_48 ?_
        refine T_aload_n (pc := 51) 0 dX2_layOut_51 rfl rfl ?_
        refine T_getI (pc := 52) fd_7_12 hw337 dX2_layOut_52 ?_
        refine T_aload_n (pc := 55) 0 dX2_layOut_55 rfl rfl ?_
        refine T_getA (pc := 56) fd_7_0 hw325 dX2_layOut_56 ?_
        refine T_iload_n (pc := 59) 3 dX2_layOut_59 rfl rfl ?_
        refine T_callPi (pc := 60) (rest := [.int (zI s4 21), .ref 36]) (Rn_V (pc := 60) (as := [.int v3]) (rest := [.int (zI s4 21), .ref 36]) (ctX7_sizeOf s4 v3) rfl rfl mv_X7_sizeOf hw938 rfl ⟨Nat.le_of_ble_eq_true rfl, Nat.le_of_ble_eq_true rfl⟩ (Nat.le_of_ble_eq_true rfl) dX2_layOut_60 rfl) rfl (fun x5 => ?_)
        refine T_iast (pc := 63) rfl dX2_layOut_63 ?_
        refine T_letS (fun s6 => ?_)
        refine T_aload_n (pc := 64) 0 dX2_layOut_64 rfl rfl ?_
        refine T_getA (pc := 65) fd_7_4 hw329 dX2_layOut_65 ?_
        refine T_aload_n (pc := 68) 0 dX2_layOut_68 rfl rfl ?_
        refine T_getI (pc := 69) fd_7_12 hw337 dX2_layOut_69 ?_
        refine T_aload_n (pc := 72) 0 dX2_layOut_72 rfl rfl ?_
        refine T_getI (pc := 73) fd_7_13 hw338 dX2_layOut_73 ?_
        refine T_iast (pc := 76) rfl dX2_layOut_76 ?_
        refine T_letS (fun s7 => ?_)
        refine T_aload_n (pc := 77) 0 dX2_layOut_77 rfl rfl ?_
        refine T_getA (pc := 78) fd_7_5 hw330 dX2_layOut_78 ?_
        refine T_aload_n (pc := 81) 0 dX2_layOut_81 rfl rfl ?_
        refine T_getI (pc := 82) fd_7_12 hw337 dX2_layOut_82 ?_
        refine T_iload_n (pc := 85) 2 dX2_layOut_85 rfl rfl ?_
        refine T_iast (pc := 86) rfl dX2_layOut_86 ?_
        refine T_letS (fun s8 => ?_)
        refine T_iload_n (pc := 87) 2 dX2_layOut_87 rfl rfl ?_
        refine T_aload_n (pc := 88) 0 dX2_layOut_88 rfl rfl ?_
        refine T_getA (pc := 89) fd_7_3 hw328 dX2_layOut_89 ?_
        refine T_aload_n (pc := 92) 0 dX2_layOut_92 rfl rfl ?_
        refine T_getI (pc := 93) fd_7_12 hw337 dX2_layOut_93 ?_
        refine T_iald (pc := 96) rfl dX2_layOut_96 (fun x9 => ?_)
        refine T_iadd (pc := 97) dX2_layOut_97 ?_
        refine T_letI (fun x10 => ?_)
        refine T_istore_n (pc := 98) (lv' := [(0, .ref 7), (1, .int v1), (2, .int x10), (3, .int v3)]) dX2_layOut_98 rfl (Nat.le_of_ble_eq_true rfl) rfl ?_
        refine T_aload_n (pc := 99) 0 dX2_layOut_99 rfl rfl ?_
        refine T_dup_a (pc := 100) dX2_layOut_100 ?_
        refine T_getI (pc := 101) fd_7_13 hw338 dX2_layOut_101 ?_
        refine T_aload_n (pc := 104) 0 dX2_layOut_104 rfl rfl ?_
        refine T_getA (pc := 105) fd_7_3 hw328 dX2_layOut_105 ?_
        refine T_aload_n (pc := 108) 0 dX2_layOut_108 rfl rfl ?_
        refine T_getI (pc := 109) fd_7_12 hw337 dX2_layOut_109 ?_
        refine T_iald (pc := 112) rfl dX2_layOut_112 (fun x11 => ?_)
        refine T_iconst (pc := 113) (v := 1) dX2_layOut_113 (by decide) ?_
        refine T_iadd (pc := 114) dX2_layOut_114 ?_
        refine T_imul (pc := 115) dX2_layOut_115 ?_
        refine T_putI (pc := 116) fd_7_13 hw338 dX2_layOut_116 ?_
        refine T_letS (fun s12 => ?_)
        refine T_aload_n (pc := 119) 0 dX2_layOut_119 rfl rfl ?_
        refine T_dup_a (pc := 120) dX2_layOut_120 ?_
        refine T_getI (pc := 121) fd_7_12 hw337 dX2_layOut_121 ?_
        refine T_iconst (pc := 124) (v := 1) dX2_layOut_124 (by decide) ?_
        refine T_iadd (pc := 125) dX2_layOut_125 ?_
        refine T_putI (pc := 126) fd_7_12 hw337 dX2_layOut_126 ?_
        refine T_letS (fun s13 => ?_)
        refine T_iinc (pc := 129) (y := 1) (lv' := [(0, .ref 7), (1, .int v1), (2, .int x10), (3, .int (v3 + (1 : Int32)))]) 3 dX2_layOut_129 (by decide) rfl (Nat.le_of_ble_eq_true rfl) rfl ?_
        refine T_goto (pc := 132) 14 dX2_layOut_132 (by decide) ?_
        exact hkb s13 x10 (v3 + (1 : Int32))
set_option maxRecDepth 100000 in
set_option maxHeartbeats 4000000 in
theorem fX2_layOut_P14_T (v1 : Int32) (σ : St) {k1 : St → Int32 → Option (Bool × St)} (hk1 : ∀ (σ' : St) (w2 : Int32), T kX2_layOut cSz σ' 135 [(0, .ref 7), (2, .int w2)] [] (k1 σ' w2)) (v2 : Int32) (v3 : Int32) : T kX2_layOut cSz σ 14 [(0, .ref 7), (1, .int v1), (2, .int v2), (3, .int v3)] [] (fX2_layOut_P14 v1 k1 σ v2 v3) :=
  it_T (S := (fun t : St × Int32 × Int32 => t.1)) (lv := fun t : St × Int32 × Int32 => [(0, .ref 7), (1, .int v1), (2, .int t.2.1), (3, .int t.2.2)]) (st := fun _ => []) (fun kb hkb t => fX2_layOut_L14_T v1 (hk1 := hk1) (hkb := fun σ v2 v3 => hkb (σ, v2, v3)) t.1 t.2.1 t.2.2) FU (σ, v2, v3)
set_option maxRecDepth 100000 in
set_option maxHeartbeats 4000000 in
theorem ctX2_layOut (σ : St) (p0 : Int32) : Ct yX2_layOut kX2_layOut [.ref 7, .int p0] σ cSz (fX2_layOut σ p0) := by
  refine Ct.of (by decide +kernel) rfl rfl (Nat.le_of_ble_eq_true rfl) ?_
  unfold fX2_layOut
  show T _ _ _ 0 [(0, .ref 7), (1, .int p0)] [] _
  refine T_aload_n (pc := 0) 0 dX2_layOut_0 rfl rfl ?_
  refine T_iconst (pc := 1) (v := 0) dX2_layOut_1 (by decide) ?_
  refine T_putI (pc := 2) fd_7_12 hw337 dX2_layOut_2 ?_
  refine T_letS (fun s1 => ?_)
  refine T_aload_n (pc := 5) 0 dX2_layOut_5 rfl rfl ?_
  refine T_iconst (pc := 6) (v := 1) dX2_layOut_6 (by decide) ?_
  refine T_putI (pc := 7) fd_7_13 hw338 dX2_layOut_7 ?_
  refine T_letS (fun s2 => ?_)
  refine T_iconst (pc := 10) (v := 0) dX2_layOut_10 (by decide) ?_
  refine T_istore_n (pc := 11) (lv' := [(0, .ref 7), (1, .int p0), (2, .int (0 : Int32))]) dX2_layOut_11 rfl (Nat.le_of_ble_eq_true rfl) rfl ?_
  refine T_iconst (pc := 12) (v := 0) dX2_layOut_12 (by decide) ?_
  refine T_istore_n (pc := 13) (lv' := [(0, .ref 7), (1, .int p0), (2, .int (0 : Int32)), (3, .int (0 : Int32))]) dX2_layOut_13 rfl (Nat.le_of_ble_eq_true rfl) rfl ?_
  refine fX2_layOut_P14_T p0 (hk1 := fun s14 x15 => ?_) s2 (0 : Int32) (0 : Int32)
  · refine T_iload_n (pc := 135) 1 dX2_layOut_135 rfl rfl ?_
    refine T_bipush (pc := 136) (v := 20) dX2_layOut_136 (by decide) ?_
    refine T_icmp_gt (pc := 138) 155 dX2_layOut_138 (by decide) (fun _ => ?_) (fun _ => ?_)
    · refine T_iconst (pc := 155) (v := 0) dX2_layOut_155 (by decide) ?_
      exact T_zreturn (pc := 156) false rfl dX2_layOut_156 rfl rfl
    · refine T_aload_n (pc := 141) 0 dX2_layOut_141 rfl rfl ?_
      refine T_getI (pc := 142) fd_7_13 hw338 dX2_layOut_142 ?_
      refine T_sipush (pc := 145) (v := 20000) dX2_layOut_145 (by decide) ?_
      refine T_icmp_gt (pc := 148) 155 dX2_layOut_148 (by decide) (fun _ => ?_) (fun _ => ?_)
      · refine T_iconst (pc := 155) (v := 0) dX2_layOut_155 (by decide) ?_
        exact T_zreturn (pc := 156) false rfl dX2_layOut_156 rfl rfl
      · refine T_iconst (pc := 151) (v := 1) dX2_layOut_151 (by decide) ?_
        refine T_goto (pc := 152) 156 dX2_layOut_152 (by decide) ?_
        exact T_zreturn (pc := 156) true rfl dX2_layOut_156 rfl rfl
set_option maxRecDepth 100000 in
set_option maxHeartbeats 4000000 in
theorem fX2_endedBy_L15_T (v1 : Int32) (v3 : Int32) (σ : St) {k1 : Int32 → Option Int32} {kb : Int32 → Int32 → Option Int32} (hk1 : ∀ (w2 : Int32), T kX2_endedBy (cPi σ) σ 86 [(0, .ref 7), (1, .int v1), (2, .int w2), (3, .int v3)] [] (k1 w2)) (hkb : ∀ (w2 : Int32) (w4 : Int32), T kX2_endedBy (cPi σ) σ 15 [(0, .ref 7), (1, .int v1), (2, .int w2), (3, .int v3), (4, .int w4)] [] (kb w2 w4)) (v2 : Int32) (v4 : Int32) : T kX2_endedBy (cPi σ) σ 15 [(0, .ref 7), (1, .int v1), (2, .int v2), (3, .int v3), (4, .int v4)] [] (fX2_endedBy_L15 v1 v3 k1 kb σ v2 v4) := by
  unfold fX2_endedBy_L15
  refine T_iload (pc := 15) 4 dX2_endedBy_15 rfl ?_
  refine T_aload_n (pc := 17) 0 dX2_endedBy_17 rfl rfl ?_
  refine T_getA (pc := 18) fd_7_3 hw328 dX2_endedBy_18 ?_
  refine T_iload_n (pc := 21) 3 dX2_endedBy_21 rfl rfl ?_
  refine T_iald (pc := 22) rfl dX2_endedBy_22 (fun x1 => ?_)
  refine T_icmp_ge (pc := 23) 86 dX2_endedBy_23 (by decide) (fun _ => ?_) (fun _ => ?_)
  · refine T_pick (lv' := [(0, .ref 7), (1, .int v1), (2, .int v2), (3, .int v3)]) [0, 1, 2, 3] rfl ?_
    exact hk1 v2
  · refine T_bipush (pc := 26) (v := 16) dX2_endedBy_26 (by decide) ?_
    refine T_aload_n (pc := 28) 0 dX2_endedBy_28 rfl rfl ?_
    refine T_getA (pc := 29) fd_7_2 hw327 dX2_endedBy_29 ?_
    refine T_iload_n (pc := 32) 3 dX2_endedBy_32 rfl rfl ?_
    refine T_iald (pc := 33) rfl dX2_endedBy_33 (fun x2 => ?_)
    refine T_imul (pc := 34) dX2_endedBy_34 ?_
    refine T_iload (pc := 35) 4 dX2_endedBy_35 rfl ?_
    refine T_iadd (pc := 37) dX2_endedBy_37 ?_
    refine T_letI (fun x3 => ?_)
    refine T_istore (pc := 38) (lv' := [(0, .ref 7), (1, .int v1), (2, .int v2), (3, .int v3), (4, .int v4), (5, .int x3)]) dX2_endedBy_38 (Nat.le_of_ble_eq_true rfl) rfl ?_
    refine T_iload_n (pc := 40) 1 dX2_endedBy_40 rfl rfl ?_
    refine T_callPi (pc := 41) (rest := []) (Rn_S (pc := 41) (as := [.int v1]) (rest := []) (ctX7_rollOf σ v1) ms_X7_rollOf hw948 rfl ⟨Nat.le_of_ble_eq_true rfl, Nat.le_of_ble_eq_true rfl⟩ (Nat.le_of_ble_eq_true rfl) dX2_endedBy_41 rfl) rfl (fun x4 => ?_)
    refine T_aload_n (pc := 44) 0 dX2_endedBy_44 rfl rfl ?_
    refine T_getA (pc := 45) fd_7_2 hw327 dX2_endedBy_45 ?_
    refine T_iload_n (pc := 48) 3 dX2_endedBy_48 rfl rfl ?_
    refine T_iald (pc := 49) rfl dX2_endedBy_49 (fun x5 => ?_)
    refine T_icmp_eq (pc := 50) 80 dX2_endedBy_50 (by decide) (fun _ => ?_) (fun _ => ?_)
    · refine T_iinc (pc := 80) (y := 1) (lv' := [(0, .ref 7), (1, .int v1), (2, .int v2), (3, .int v3), (4, .int (v4 + (1 : Int32))), (5, .int x3)]) 4 dX2_endedBy_80 (by decide) rfl (Nat.le_of_ble_eq_true rfl) rfl ?_
      refine T_goto (pc := 83) 15 dX2_endedBy_83 (by decide) ?_
      refine T_pick (lv' := [(0, .ref 7), (1, .int v1), (2, .int v2), (3, .int v3), (4, .int (v4 + (1 : Int32)))]) [0, 1, 2, 3, 4] rfl ?_
      exact hkb v2 (v4 + (1 : Int32))
    · refine T_aload_n (pc := 53) 0 dX2_endedBy_53 rfl rfl ?_
      refine T_getA (pc := 54) fd_7_1 hw326 dX2_endedBy_54 ?_
      refine T_iload_n (pc := 57) 1 dX2_endedBy_57 rfl rfl ?_
      refine T_iload (pc := 58) 5 dX2_endedBy_58 rfl ?_
      refine T_callPz (pc := 60) (rest := []) (Rn_V (pc := 60) (as := [.int v1, .int x3]) (rest := []) (ctX0_closes σ v1 x3) rfl rfl mv_X0_closes hw949 rfl ⟨Nat.le_of_ble_eq_true rfl, Nat.le_of_ble_eq_true rfl⟩ (Nat.le_of_ble_eq_true rfl) dX2_endedBy_60 rfl) rfl (fun x6 => ?_)
      refine T_if_eq (pc := 63) 80 dX2_endedBy_63 (by decide) (fun _ => ?_) (fun _ => ?_)
      · refine T_iinc (pc := 80) (y := 1) (lv' := [(0, .ref 7), (1, .int v1), (2, .int v2), (3, .int v3), (4, .int (v4 + (1 : Int32))), (5, .int x3)]) 4 dX2_endedBy_80 (by decide) rfl (Nat.le_of_ble_eq_true rfl) rfl ?_
        refine T_goto (pc := 83) 15 dX2_endedBy_83 (by decide) ?_
        refine T_pick (lv' := [(0, .ref 7), (1, .int v1), (2, .int v2), (3, .int v3), (4, .int (v4 + (1 : Int32)))]) [0, 1, 2, 3, 4] rfl ?_
        exact hkb v2 (v4 + (1 : Int32))
      · refine T_iload_n (pc := 66) 2 dX2_endedBy_66 rfl rfl ?_
        refine T_iconst (pc := 67) (v := 1) dX2_endedBy_67 (by decide) ?_
        refine T_aload_n (pc := 68) 0 dX2_endedBy_68 rfl rfl ?_
        refine T_getA (pc := 69) fd_7_5 hw330 dX2_endedBy_69 ?_
        refine T_iload_n (pc := 72) 3 dX2_endedBy_72 rfl rfl ?_
        refine T_iald (pc := 73) rfl dX2_endedBy_73 (fun x7 => ?_)
        refine T_iload (pc := 74) 4 dX2_endedBy_74 rfl ?_
        refine T_iadd (pc := 76) dX2_endedBy_76 ?_
        refine T_ishl (pc := 77) dX2_endedBy_77 ?_
        refine T_ior (pc := 78) dX2_endedBy_78 ?_
        refine T_letI (fun x8 => ?_)
        refine T_istore_n (pc := 79) (lv' := [(0, .ref 7), (1, .int v1), (2, .int x8), (3, .int v3), (4, .int v4), (5, .int x3)]) dX2_endedBy_79 rfl (Nat.le_of_ble_eq_true rfl) rfl ?_
        refine T_iinc (pc := 80) (y := 1) (lv' := [(0, .ref 7), (1, .int v1), (2, .int x8), (3, .int v3), (4, .int (v4 + (1 : Int32))), (5, .int x3)]) 4 dX2_endedBy_80 (by decide) rfl (Nat.le_of_ble_eq_true rfl) rfl ?_
        refine T_goto (pc := 83) 15 dX2_endedBy_83 (by decide) ?_
        refine T_pick (lv' := [(0, .ref 7), (1, .int v1), (2, .int x8), (3, .int v3), (4, .int (v4 + (1 : Int32)))]) [0, 1, 2, 3, 4] rfl ?_
        exact hkb x8 (v4 + (1 : Int32))
set_option maxRecDepth 100000 in
set_option maxHeartbeats 4000000 in
theorem fX2_endedBy_P15_T (v1 : Int32) (v3 : Int32) (σ : St) {k1 : Int32 → Option Int32} (hk1 : ∀ (w2 : Int32), T kX2_endedBy (cPi σ) σ 86 [(0, .ref 7), (1, .int v1), (2, .int w2), (3, .int v3)] [] (k1 w2)) (v2 : Int32) (v4 : Int32) : T kX2_endedBy (cPi σ) σ 15 [(0, .ref 7), (1, .int v1), (2, .int v2), (3, .int v3), (4, .int v4)] [] (fX2_endedBy_P15 v1 v3 k1 σ v2 v4) :=
  it_T (S := (fun _ : Int32 × Int32 => σ)) (lv := fun t : Int32 × Int32 => [(0, .ref 7), (1, .int v1), (2, .int t.1), (3, .int v3), (4, .int t.2)]) (st := fun _ => []) (fun kb hkb t => fX2_endedBy_L15_T v1 v3 (hk1 := hk1) (hkb := fun v2 v4 => hkb (v2, v4)) σ t.1 t.2) FU (v2, v4)
set_option maxRecDepth 100000 in
set_option maxHeartbeats 4000000 in
theorem fX2_endedBy_L4_T (v1 : Int32) (σ : St) {kb : Int32 → Int32 → Option Int32} (hkb : ∀ (w2 : Int32) (w3 : Int32), T kX2_endedBy (cPi σ) σ 4 [(0, .ref 7), (1, .int v1), (2, .int w2), (3, .int w3)] [] (kb w2 w3)) (v2 : Int32) (v3 : Int32) : T kX2_endedBy (cPi σ) σ 4 [(0, .ref 7), (1, .int v1), (2, .int v2), (3, .int v3)] [] (fX2_endedBy_L4 v1 kb σ v2 v3) := by
  unfold fX2_endedBy_L4
  refine T_iload_n (pc := 4) 3 dX2_endedBy_4 rfl rfl ?_
  refine T_aload_n (pc := 5) 0 dX2_endedBy_5 rfl rfl ?_
  refine T_getI (pc := 6) fd_7_12 hw337 dX2_endedBy_6 ?_
  refine T_icmp_ge (pc := 9) 92 dX2_endedBy_9 (by decide) (fun _ => ?_) (fun _ => ?_)
  · refine T_iload_n (pc := 92) 2 dX2_endedBy_92 rfl rfl ?_
    exact T_ireturn (pc := 93) rfl dX2_endedBy_93 rfl
  · refine T_iconst (pc := 12) (v := 0) dX2_endedBy_12 (by decide) ?_
    refine T_istore (pc := 13) (lv' := [(0, .ref 7), (1, .int v1), (2, .int v2), (3, .int v3), (4, .int (0 : Int32))]) dX2_endedBy_13 (Nat.le_of_ble_eq_true rfl) rfl ?_
    refine fX2_endedBy_P15_T v1 v3 (hk1 := fun x9 => ?_) σ v2 (0 : Int32)
    · refine T_iinc (pc := 86) (y := 1) (lv' := [(0, .ref 7), (1, .int v1), (2, .int x9), (3, .int (v3 + (1 : Int32)))]) 3 dX2_endedBy_86 (by decide) rfl (Nat.le_of_ble_eq_true rfl) rfl ?_
      refine T_goto (pc := 89) 4 dX2_endedBy_89 (by decide) ?_
      exact hkb x9 (v3 + (1 : Int32))
set_option maxRecDepth 100000 in
set_option maxHeartbeats 4000000 in
theorem fX2_endedBy_P4_T (v1 : Int32) (σ : St) (v2 : Int32) (v3 : Int32) : T kX2_endedBy (cPi σ) σ 4 [(0, .ref 7), (1, .int v1), (2, .int v2), (3, .int v3)] [] (fX2_endedBy_P4 v1 σ v2 v3) :=
  it_T (S := (fun _ : Int32 × Int32 => σ)) (lv := fun t : Int32 × Int32 => [(0, .ref 7), (1, .int v1), (2, .int t.1), (3, .int t.2)]) (st := fun _ => []) (fun kb hkb t => fX2_endedBy_L4_T v1 (hkb := fun v2 v3 => hkb (v2, v3)) σ t.1 t.2) FU (v2, v3)
set_option maxRecDepth 100000 in
set_option maxHeartbeats 4000000 in
theorem ctX2_endedBy (σ : St) (p0 : Int32) : Ct yX2_endedBy kX2_endedBy [.ref 7, .int p0] σ (cPi σ) (fX2_endedBy σ p0) := by
  refine Ct.of (by decide +kernel) rfl rfl (Nat.le_of_ble_eq_true rfl) ?_
  unfold fX2_endedBy
  show T _ _ _ 0 [(0, .ref 7), (1, .int p0)] [] _
  refine T_iconst (pc := 0) (v := 0) dX2_endedBy_0 (by decide) ?_
  refine T_istore_n (pc := 1) (lv' := [(0, .ref 7), (1, .int p0), (2, .int (0 : Int32))]) dX2_endedBy_1 rfl (Nat.le_of_ble_eq_true rfl) rfl ?_
  refine T_iconst (pc := 2) (v := 0) dX2_endedBy_2 (by decide) ?_
  refine T_istore_n (pc := 3) (lv' := [(0, .ref 7), (1, .int p0), (2, .int (0 : Int32)), (3, .int (0 : Int32))]) dX2_endedBy_3 rfl (Nat.le_of_ble_eq_true rfl) rfl ?_
  exact fX2_endedBy_P4_T p0 σ (0 : Int32) (0 : Int32)
set_option maxRecDepth 100000 in
set_option maxHeartbeats 4000000 in
theorem fX2_seeWhatFollows_L12_T (v1 : Int32) (σ : St) {k1 : St → Option St} {kb : St → Int32 → Option St} (hk1 : ∀ (σ' : St), T kX2_seeWhatFollows cSv σ' 88 [(0, .ref 7), (1, .int v1)] [] (k1 σ')) (hkb : ∀ (σ' : St) (w2 : Int32), T kX2_seeWhatFollows cSv σ' 12 [(0, .ref 7), (1, .int v1), (2, .int w2)] [] (kb σ' w2)) (v2 : Int32) : T kX2_seeWhatFollows cSv σ 12 [(0, .ref 7), (1, .int v1), (2, .int v2)] [] (fX2_seeWhatFollows_L12 v1 k1 kb σ v2) := by
  unfold fX2_seeWhatFollows_L12
  refine T_iload_n (pc := 12) 2 dX2_seeWhatFollows_12 rfl rfl ?_
  refine T_aload_n (pc := 13) 0 dX2_seeWhatFollows_13 rfl rfl ?_
  refine T_getA (pc := 14) fd_7_3 hw328 dX2_seeWhatFollows_14 ?_
  refine T_iload_n (pc := 17) 1 dX2_seeWhatFollows_17 rfl rfl ?_
  refine T_iald (pc := 18) rfl dX2_seeWhatFollows_18 (fun x1 => ?_)
  refine T_icmp_ge (pc := 19) 88 dX2_seeWhatFollows_19 (by decide) (fun _ => ?_) (fun _ => ?_)
  · refine T_pick (lv' := [(0, .ref 7), (1, .int v1)]) [0, 1] rfl ?_
    exact hk1 σ
  · refine T_aload_n (pc := 22) 0 dX2_seeWhatFollows_22 rfl rfl ?_
    refine T_getA (pc := 23) fd_7_5 hw330 dX2_seeWhatFollows_23 ?_
    refine T_iload_n (pc := 26) 1 dX2_seeWhatFollows_26 rfl rfl ?_
    refine T_iald (pc := 27) rfl dX2_seeWhatFollows_27 (fun x2 => ?_)
    refine T_iload_n (pc := 28) 2 dX2_seeWhatFollows_28 rfl rfl ?_
    refine T_iadd (pc := 29) dX2_seeWhatFollows_29 ?_
    refine T_letI (fun x3 => ?_)
    refine T_istore_n (pc := 30) (lv' := [(0, .ref 7), (1, .int v1), (2, .int v2), (3, .int x3)]) dX2_seeWhatFollows_30 rfl (Nat.le_of_ble_eq_true rfl) rfl ?_
    refine T_bipush (pc := 31) (v := 16) dX2_seeWhatFollows_31 (by decide) ?_
    refine T_aload_n (pc := 33) 0 dX2_seeWhatFollows_33 rfl rfl ?_
    refine T_getA (pc := 34) fd_7_2 hw327 dX2_seeWhatFollows_34 ?_
    refine T_iload_n (pc := 37) 1 dX2_seeWhatFollows_37 rfl rfl ?_
    refine T_iald (pc := 38) rfl dX2_seeWhatFollows_38 (fun x4 => ?_)
    refine T_imul (pc := 39) dX2_seeWhatFollows_39 ?_
    refine T_iload_n (pc := 40) 2 dX2_seeWhatFollows_40 rfl rfl ?_
    refine T_iadd (pc := 41) dX2_seeWhatFollows_41 ?_
    refine T_letI (fun x5 => ?_)
    refine T_istore (pc := 42) (lv' := [(0, .ref 7), (1, .int v1), (2, .int v2), (3, .int x3), (4, .int x5)]) dX2_seeWhatFollows_42 (Nat.le_of_ble_eq_true rfl) rfl ?_
    refine T_iload_n (pc := 44) 3 dX2_seeWhatFollows_44 rfl rfl ?_
    refine T_aload_n (pc := 45) 0 dX2_seeWhatFollows_45 rfl rfl ?_
    refine T_getA (pc := 46) fd_7_6 hw331 dX2_seeWhatFollows_46 ?_
    refine T_alen (pc := 49) (v := 20) rfl (by decide) dX2_seeWhatFollows_49 ?_
    refine T_icmp_ge (pc := 50) 82 dX2_seeWhatFollows_50 (by decide) (fun _ => ?_) (fun _ => ?_)
    · refine T_iinc (pc := 82) (y := 1) (lv' := [(0, .ref 7), (1, .int v1), (2, .int (v2 + (1 : Int32))), (3, .int x3), (4, .int x5)]) 2 dX2_seeWhatFollows_82 (by decide) rfl (Nat.le_of_ble_eq_true rfl) rfl ?_
      refine T_goto (pc := 85) 12 dX2_seeWhatFollows_85 (by decide) ?_
      refine T_pick (lv' := [(0, .ref 7), (1, .int v1), (2, .int (v2 + (1 : Int32)))]) [0, 1, 2] rfl ?_
      exact hkb σ (v2 + (1 : Int32))
    · refine T_aload_n (pc := 53) 0 dX2_seeWhatFollows_53 rfl rfl ?_
      refine T_getA (pc := 54) fd_7_6 hw331 dX2_seeWhatFollows_54 ?_
      refine T_iload_n (pc := 57) 3 dX2_seeWhatFollows_57 rfl rfl ?_
      refine T_aload_n (pc := 58) 0 dX2_seeWhatFollows_58 rfl rfl ?_
      refine T_getA (pc := 59) fd_7_0 hw325 dX2_seeWhatFollows_59 ?_
      refine T_iload (pc := 62) 4 dX2_seeWhatFollows_62 rfl ?_
      refine T_callPz (pc := 64) (rest := [.int x3, .ref 39]) (Rn_V (pc := 64) (as := [.int x5]) (rest := [.int x3, .ref 39]) (ctX7_hasCue σ x5) rfl rfl mv_X7_hasCue hw943 rfl ⟨Nat.le_of_ble_eq_true rfl, Nat.le_of_ble_eq_true rfl⟩ (Nat.le_of_ble_eq_true rfl) dX2_seeWhatFollows_64 rfl) rfl (fun x6 => ?_)
      refine T_if_eq (pc := 67) 79 dX2_seeWhatFollows_67 (by decide) (fun _ => ?_) (fun _ => ?_)
      · refine T_ldc (pc := 79) hw950 dX2_seeWhatFollows_79 ?_
        refine T_iast (pc := 81) rfl dX2_seeWhatFollows_81 ?_
        refine T_letS (fun s7 => ?_)
        refine T_iinc (pc := 82) (y := 1) (lv' := [(0, .ref 7), (1, .int v1), (2, .int (v2 + (1 : Int32))), (3, .int x3), (4, .int x5)]) 2 dX2_seeWhatFollows_82 (by decide) rfl (Nat.le_of_ble_eq_true rfl) rfl ?_
        refine T_goto (pc := 85) 12 dX2_seeWhatFollows_85 (by decide) ?_
        refine T_pick (lv' := [(0, .ref 7), (1, .int v1), (2, .int (v2 + (1 : Int32)))]) [0, 1, 2] rfl ?_
        exact hkb s7 (v2 + (1 : Int32))
      · refine T_aload_n (pc := 70) 0 dX2_seeWhatFollows_70 rfl rfl ?_
        refine T_iload (pc := 71) 4 dX2_seeWhatFollows_71 rfl ?_
        refine T_callPi (pc := 73) (rest := [.int x3, .ref 39]) (Rn_V (pc := 73) (as := [.int x5]) (rest := [.int x3, .ref 39]) (ctX2_endedBy σ x5) rfl rfl mv_X2_endedBy hw944 rfl ⟨Nat.le_of_ble_eq_true rfl, Nat.le_of_ble_eq_true rfl⟩ (Nat.le_of_ble_eq_true rfl) dX2_seeWhatFollows_73 rfl) rfl (fun x8 => ?_)
        refine T_goto (pc := 76) 81 dX2_seeWhatFollows_76 (by decide) ?_
        refine T_iast (pc := 81) rfl dX2_seeWhatFollows_81 ?_
        refine T_letS (fun s9 => ?_)
        refine T_iinc (pc := 82) (y := 1) (lv' := [(0, .ref 7), (1, .int v1), (2, .int (v2 + (1 : Int32))), (3, .int x3), (4, .int x5)]) 2 dX2_seeWhatFollows_82 (by decide) rfl (Nat.le_of_ble_eq_true rfl) rfl ?_
        refine T_goto (pc := 85) 12 dX2_seeWhatFollows_85 (by decide) ?_
        refine T_pick (lv' := [(0, .ref 7), (1, .int v1), (2, .int (v2 + (1 : Int32)))]) [0, 1, 2] rfl ?_
        exact hkb s9 (v2 + (1 : Int32))
set_option maxRecDepth 100000 in
set_option maxHeartbeats 4000000 in
theorem fX2_seeWhatFollows_P12_T (v1 : Int32) (σ : St) {k1 : St → Option St} (hk1 : ∀ (σ' : St), T kX2_seeWhatFollows cSv σ' 88 [(0, .ref 7), (1, .int v1)] [] (k1 σ')) (v2 : Int32) : T kX2_seeWhatFollows cSv σ 12 [(0, .ref 7), (1, .int v1), (2, .int v2)] [] (fX2_seeWhatFollows_P12 v1 k1 σ v2) :=
  it_T (S := (fun t : St × Int32 => t.1)) (lv := fun t : St × Int32 => [(0, .ref 7), (1, .int v1), (2, .int t.2)]) (st := fun _ => []) (fun kb hkb t => fX2_seeWhatFollows_L12_T v1 (hk1 := hk1) (hkb := fun σ v2 => hkb (σ, v2)) t.1 t.2) FU (σ, v2)
set_option maxRecDepth 100000 in
set_option maxHeartbeats 4000000 in
theorem fX2_seeWhatFollows_L2_T (σ : St) {kb : St → Int32 → Option St} (hkb : ∀ (σ' : St) (w1 : Int32), T kX2_seeWhatFollows cSv σ' 2 [(0, .ref 7), (1, .int w1)] [] (kb σ' w1)) (v1 : Int32) : T kX2_seeWhatFollows cSv σ 2 [(0, .ref 7), (1, .int v1)] [] (fX2_seeWhatFollows_L2 kb σ v1) := by
  unfold fX2_seeWhatFollows_L2
  refine T_iload_n (pc := 2) 1 dX2_seeWhatFollows_2 rfl rfl ?_
  refine T_aload_n (pc := 3) 0 dX2_seeWhatFollows_3 rfl rfl ?_
  refine T_getI (pc := 4) fd_7_12 hw337 dX2_seeWhatFollows_4 ?_
  refine T_icmp_ge (pc := 7) 94 dX2_seeWhatFollows_7 (by decide) (fun _ => ?_) (fun _ => ?_)
  · exact T_return (pc := 94) rfl dX2_seeWhatFollows_94 rfl
  · refine T_iconst (pc := 10) (v := 0) dX2_seeWhatFollows_10 (by decide) ?_
    refine T_istore_n (pc := 11) (lv' := [(0, .ref 7), (1, .int v1), (2, .int (0 : Int32))]) dX2_seeWhatFollows_11 rfl (Nat.le_of_ble_eq_true rfl) rfl ?_
    refine fX2_seeWhatFollows_P12_T v1 (hk1 := fun s10 => ?_) σ (0 : Int32)
    · refine T_iinc (pc := 88) (y := 1) (lv' := [(0, .ref 7), (1, .int (v1 + (1 : Int32)))]) 1 dX2_seeWhatFollows_88 (by decide) rfl (Nat.le_of_ble_eq_true rfl) rfl ?_
      refine T_goto (pc := 91) 2 dX2_seeWhatFollows_91 (by decide) ?_
      exact hkb s10 (v1 + (1 : Int32))
set_option maxRecDepth 100000 in
set_option maxHeartbeats 4000000 in
theorem fX2_seeWhatFollows_P2_T (σ : St) (v1 : Int32) : T kX2_seeWhatFollows cSv σ 2 [(0, .ref 7), (1, .int v1)] [] (fX2_seeWhatFollows_P2 σ v1) :=
  it_T (S := (fun t : St × Int32 => t.1)) (lv := fun t : St × Int32 => [(0, .ref 7), (1, .int t.2)]) (st := fun _ => []) (fun kb hkb t => fX2_seeWhatFollows_L2_T (hkb := fun σ v1 => hkb (σ, v1)) t.1 t.2) FU (σ, v1)
set_option maxRecDepth 100000 in
set_option maxHeartbeats 4000000 in
theorem ctX2_seeWhatFollows (σ : St) : Ct yX2_seeWhatFollows kX2_seeWhatFollows [.ref 7] σ cSv (fX2_seeWhatFollows σ) := by
  refine Ct.of (by decide +kernel) rfl rfl (Nat.le_of_ble_eq_true rfl) ?_
  unfold fX2_seeWhatFollows
  show T _ _ _ 0 [(0, .ref 7)] [] _
  refine T_iconst (pc := 0) (v := 0) dX2_seeWhatFollows_0 (by decide) ?_
  refine T_istore_n (pc := 1) (lv' := [(0, .ref 7), (1, .int (0 : Int32))]) dX2_seeWhatFollows_1 rfl (Nat.le_of_ble_eq_true rfl) rfl ?_
  exact fX2_seeWhatFollows_P2_T σ (0 : Int32)
set_option maxRecDepth 100000 in
set_option maxHeartbeats 4000000 in
theorem ctX2_startSlot (σ : St) : Ct yX2_startSlot kX2_startSlot [.ref 7] σ (cPi σ) (fX2_startSlot σ) := by
  refine Ct.of (by decide +kernel) rfl rfl (Nat.le_of_ble_eq_true rfl) ?_
  unfold fX2_startSlot
  show T _ _ _ 0 [(0, .ref 7)] [] _
  refine T_aload_n (pc := 0) 0 dX2_startSlot_0 rfl rfl ?_
  refine T_getI (pc := 1) fd_7_13 hw338 dX2_startSlot_1 ?_
  refine T_aload_n (pc := 4) 0 dX2_startSlot_4 rfl rfl ?_
  refine T_getI (pc := 5) fd_7_12 hw337 dX2_startSlot_5 ?_
  refine T_imul (pc := 8) dX2_startSlot_8 ?_
  exact T_ireturn (pc := 9) rfl dX2_startSlot_9 rfl
set_option maxRecDepth 100000 in
set_option maxHeartbeats 4000000 in
theorem ctX2_makeRoom (σ : St) : Ct yX2_makeRoom kX2_makeRoom [.ref 7] σ cSv (fX2_makeRoom σ) := by
  refine Ct.of (by decide +kernel) rfl rfl (Nat.le_of_ble_eq_true rfl) ?_
  unfold fX2_makeRoom
  show T _ _ _ 0 [(0, .ref 7)] [] _
  refine T_aload_n (pc := 0) 0 dX2_makeRoom_0 rfl rfl ?_
  refine T_callPi (pc := 1) (rest := []) (Rn_V (pc := 1) (as := []) (rest := []) (ctX2_startSlot σ) rfl rfl mv_X2_startSlot hw955 rfl ⟨Nat.le_of_ble_eq_true rfl, Nat.le_of_ble_eq_true rfl⟩ (Nat.le_of_ble_eq_true rfl) dX2_makeRoom_1 rfl) rfl (fun x1 => ?_)
  refine T_iconst (pc := 4) (v := 1) dX2_makeRoom_4 (by decide) ?_
  refine T_iadd (pc := 5) dX2_makeRoom_5 ?_
  refine T_letI (fun x2 => ?_)
  refine T_istore_n (pc := 6) (lv' := [(0, .ref 7), (1, .int x2)]) dX2_makeRoom_6 rfl (Nat.le_of_ble_eq_true rfl) rfl ?_
  refine T_iload_n (pc := 7) 1 dX2_makeRoom_7 rfl rfl ?_
  refine T_aload_n (pc := 8) 0 dX2_makeRoom_8 rfl rfl ?_
  refine T_getA (pc := 9) fd_7_17 hw342 dX2_makeRoom_9 ?_
  refine T_alenN (pc := 12) rfl dX2_makeRoom_12 ?_
  refine T_icmp_le (pc := 13) 44 dX2_makeRoom_13 (by decide) (fun _ => ?_) (fun _ => ?_)
  · exact T_return (pc := 44) rfl dX2_makeRoom_44 rfl
  · refine T_iload_n (pc := 16) 1 dX2_makeRoom_16 rfl rfl ?_
    refine T_ldc (pc := 17) hw959 dX2_makeRoom_17 ?_
    refine T_icmp_gt (pc := 19) 44 dX2_makeRoom_19 (by decide) (fun _ => ?_) (fun _ => ?_)
    · exact T_return (pc := 44) rfl dX2_makeRoom_44 rfl
    · refine T_aload_n (pc := 22) 0 dX2_makeRoom_22 rfl rfl ?_
      refine T_iload_n (pc := 23) 1 dX2_makeRoom_23 rfl rfl ?_
      refine T_iconst (pc := 24) (v := 2) dX2_makeRoom_24 (by decide) ?_
      refine T_aload_n (pc := 25) 0 dX2_makeRoom_25 rfl rfl ?_
      refine T_getA (pc := 26) fd_7_17 hw342 dX2_makeRoom_26 ?_
      refine T_alenN (pc := 29) rfl dX2_makeRoom_29 ?_
      refine T_imul (pc := 30) dX2_makeRoom_30 ?_
      refine T_ldc (pc := 31) hw959 dX2_makeRoom_31 ?_
      refine T_callPi (pc := 33) (rest := [.int x2, .ref 7]) (Rn_S (pc := 33) (as := [.int ((2 : Int32) * (Int32.ofNat (zN σ 45))), .int (160001 : Int32)]) (rest := [.int x2, .ref 7]) (ctJ9_min_7cf53 σ ((2 : Int32) * (Int32.ofNat (zN σ 45))) (160001 : Int32)) ms_J9_min_7cf53 hw960 rfl ⟨Nat.le_of_ble_eq_true rfl, Nat.le_of_ble_eq_true rfl⟩ (Nat.le_of_ble_eq_true rfl) dX2_makeRoom_33 rfl) rfl (fun x3 => ?_)
      refine T_callPi (pc := 36) (rest := [.ref 7]) (Rn_S (pc := 36) (as := [.int x2, .int x3]) (rest := [.ref 7]) (ctJ9_max_7cf53 σ x2 x3) ms_J9_max_7cf53 hw961 rfl ⟨Nat.le_of_ble_eq_true rfl, Nat.le_of_ble_eq_true rfl⟩ (Nat.le_of_ble_eq_true rfl) dX2_makeRoom_36 rfl) rfl (fun x4 => ?_)
      refine T_newL2 (pc := 39) (id := 45) (j := 17) rfl rfl (by decide) hw179 fd_7_17 hw342 dX2_makeRoom_39 dX2_makeRoom_41 rfl ?_
      refine T_letS (fun s5 => ?_)
      exact T_return (pc := 44) rfl dX2_makeRoom_44 rfl
set_option maxRecDepth 100000 in
set_option maxHeartbeats 4000000 in
theorem ctX2_slotBehind (σ : St) (p0 : Int32) (p1 : Int32) : Ct yX2_slotBehind kX2_slotBehind [.ref 7, .int p0, .int p1] σ (cPi σ) (fX2_slotBehind σ p0 p1) := by
  refine Ct.of (by decide +kernel) rfl rfl (Nat.le_of_ble_eq_true rfl) ?_
  unfold fX2_slotBehind
  show T _ _ _ 0 [(0, .ref 7), (1, .int p0), (2, .int p1)] [] _
  refine T_iload_n (pc := 0) 1 dX2_slotBehind_0 rfl rfl ?_
  refine T_aload_n (pc := 1) 0 dX2_slotBehind_1 rfl rfl ?_
  refine T_getA (pc := 2) fd_7_4 hw329 dX2_slotBehind_2 ?_
  refine T_iload_n (pc := 5) 2 dX2_slotBehind_5 rfl rfl ?_
  refine T_iald (pc := 6) rfl dX2_slotBehind_6 (fun x1 => ?_)
  refine T_iadd (pc := 7) dX2_slotBehind_7 ?_
  refine T_aload_n (pc := 8) 0 dX2_slotBehind_8 rfl rfl ?_
  refine T_getI (pc := 9) fd_7_12 hw337 dX2_slotBehind_9 ?_
  refine T_imul (pc := 12) dX2_slotBehind_12 ?_
  refine T_iload_n (pc := 13) 2 dX2_slotBehind_13 rfl rfl ?_
  refine T_iadd (pc := 14) dX2_slotBehind_14 ?_
  exact T_ireturn (pc := 15) rfl dX2_slotBehind_15 rfl
set_option maxRecDepth 100000 in
set_option maxHeartbeats 4000000 in
theorem ctX2_gapsAt (σ : St) (p0 : Int32) : Ct yX2_gapsAt kX2_gapsAt [.ref 7, .int p0] σ (cPi σ) (fX2_gapsAt σ p0) := by
  refine Ct.of (by decide +kernel) rfl rfl (Nat.le_of_ble_eq_true rfl) ?_
  unfold fX2_gapsAt
  show T _ _ _ 0 [(0, .ref 7), (1, .int p0)] [] _
  refine T_iload_n (pc := 0) 1 dX2_gapsAt_0 rfl rfl ?_
  refine T_if_lt (pc := 1) 27 dX2_gapsAt_1 (by decide) (fun _ => ?_) (fun _ => ?_)
  · refine T_iconst (pc := 27) (v := 0) dX2_gapsAt_27 (by decide) ?_
    exact T_ireturn (pc := 28) rfl dX2_gapsAt_28 rfl
  · refine T_iload_n (pc := 4) 1 dX2_gapsAt_4 rfl rfl ?_
    refine T_aload_n (pc := 5) 0 dX2_gapsAt_5 rfl rfl ?_
    refine T_getA (pc := 6) fd_7_17 hw342 dX2_gapsAt_6 ?_
    refine T_alenN (pc := 9) rfl dX2_gapsAt_9 ?_
    refine T_icmp_ge (pc := 10) 27 dX2_gapsAt_10 (by decide) (fun _ => ?_) (fun _ => ?_)
    · refine T_iconst (pc := 27) (v := 0) dX2_gapsAt_27 (by decide) ?_
      exact T_ireturn (pc := 28) rfl dX2_gapsAt_28 rfl
    · refine T_aload_n (pc := 13) 0 dX2_gapsAt_13 rfl rfl ?_
      refine T_getA (pc := 14) fd_7_17 hw342 dX2_gapsAt_14 ?_
      refine T_iload_n (pc := 17) 1 dX2_gapsAt_17 rfl rfl ?_
      refine T_laldN (pc := 18) rfl dX2_gapsAt_18 (fun x1 => ?_)
      refine T_ldc2 (pc := 19) hw978 dX2_gapsAt_19 ?_
      refine T_land (pc := 22) dX2_gapsAt_22 ?_
      refine T_l2i (pc := 23) dX2_gapsAt_23 ?_
      refine T_goto (pc := 24) 28 dX2_gapsAt_24 (by decide) ?_
      exact T_ireturn (pc := 28) rfl dX2_gapsAt_28 rfl
set_option maxRecDepth 100000 in
set_option maxHeartbeats 4000000 in
theorem ctX2_waysAt (σ : St) (p0 : Int32) : Ct yX2_waysAt kX2_waysAt [.ref 7, .int p0] σ (cPl σ) (fX2_waysAt σ p0) := by
  refine Ct.of (by decide +kernel) rfl rfl (Nat.le_of_ble_eq_true rfl) ?_
  unfold fX2_waysAt
  show T _ _ _ 0 [(0, .ref 7), (1, .int p0)] [] _
  refine T_iload_n (pc := 0) 1 dX2_waysAt_0 rfl rfl ?_
  refine T_if_lt (pc := 1) 24 dX2_waysAt_1 (by decide) (fun _ => ?_) (fun _ => ?_)
  · refine T_lconst (pc := 24) (v := 0) dX2_waysAt_24 (by decide) ?_
    exact T_lreturn (pc := 25) rfl dX2_waysAt_25 rfl
  · refine T_iload_n (pc := 4) 1 dX2_waysAt_4 rfl rfl ?_
    refine T_aload_n (pc := 5) 0 dX2_waysAt_5 rfl rfl ?_
    refine T_getA (pc := 6) fd_7_17 hw342 dX2_waysAt_6 ?_
    refine T_alenN (pc := 9) rfl dX2_waysAt_9 ?_
    refine T_icmp_ge (pc := 10) 24 dX2_waysAt_10 (by decide) (fun _ => ?_) (fun _ => ?_)
    · refine T_lconst (pc := 24) (v := 0) dX2_waysAt_24 (by decide) ?_
      exact T_lreturn (pc := 25) rfl dX2_waysAt_25 rfl
    · refine T_aload_n (pc := 13) 0 dX2_waysAt_13 rfl rfl ?_
      refine T_getA (pc := 14) fd_7_17 hw342 dX2_waysAt_14 ?_
      refine T_iload_n (pc := 17) 1 dX2_waysAt_17 rfl rfl ?_
      refine T_laldN (pc := 18) rfl dX2_waysAt_18 (fun x1 => ?_)
      refine T_iconst (pc := 19) (v := 5) dX2_waysAt_19 (by decide) ?_
      refine T_lushr (pc := 20) dX2_waysAt_20 ?_
      refine T_goto (pc := 21) 25 dX2_waysAt_21 (by decide) ?_
      exact T_lreturn (pc := 25) rfl dX2_waysAt_25 rfl
set_option maxRecDepth 100000 in
set_option maxHeartbeats 4000000 in
theorem fX2_lookAhead_L2_T (v1 : Int32) (σ : St) {kb : St → Int32 → Option St} (hkb : ∀ (σ' : St) (w2 : Int32), T kX2_lookAhead cSv σ' 2 [(0, .ref 7), (1, .int v1), (2, .int w2)] [] (kb σ' w2)) (v2 : Int32) : T kX2_lookAhead cSv σ 2 [(0, .ref 7), (1, .int v1), (2, .int v2)] [] (fX2_lookAhead_L2 v1 kb σ v2) := by
  unfold fX2_lookAhead_L2
  refine T_iload_n (pc := 2) 2 dX2_lookAhead_2 rfl rfl ?_
  refine T_aload_n (pc := 3) 0 dX2_lookAhead_3 rfl rfl ?_
  refine T_getI (pc := 4) fd_7_12 hw337 dX2_lookAhead_4 ?_
  refine T_icmp_ge (pc := 7) 109 dX2_lookAhead_7 (by decide) (fun _ => ?_) (fun _ => ?_)
  · exact T_return (pc := 109) rfl dX2_lookAhead_109 rfl
  · refine T_aload_n (pc := 10) 0 dX2_lookAhead_10 rfl rfl ?_
    refine T_getA (pc := 11) fd_7_5 hw330 dX2_lookAhead_11 ?_
    refine T_iload_n (pc := 14) 2 dX2_lookAhead_14 rfl rfl ?_
    refine T_iald (pc := 15) rfl dX2_lookAhead_15 (fun x1 => ?_)
    refine T_aload_n (pc := 16) 0 dX2_lookAhead_16 rfl rfl ?_
    refine T_getA (pc := 17) fd_7_7 hw332 dX2_lookAhead_17 ?_
    refine T_iload_n (pc := 20) 2 dX2_lookAhead_20 rfl rfl ?_
    refine T_iald (pc := 21) rfl dX2_lookAhead_21 (fun x2 => ?_)
    refine T_iadd (pc := 22) dX2_lookAhead_22 ?_
    refine T_letI (fun x3 => ?_)
    refine T_istore_n (pc := 23) (lv' := [(0, .ref 7), (1, .int v1), (2, .int v2), (3, .int x3)]) dX2_lookAhead_23 rfl (Nat.le_of_ble_eq_true rfl) rfl ?_
    refine T_aload_n (pc := 24) 0 dX2_lookAhead_24 rfl rfl ?_
    refine T_getA (pc := 25) fd_7_8 hw333 dX2_lookAhead_25 ?_
    refine T_iload_n (pc := 28) 2 dX2_lookAhead_28 rfl rfl ?_
    refine T_sipush (pc := 29) (v := 1000) dX2_lookAhead_29 (by decide) ?_
    refine T_iast (pc := 32) rfl dX2_lookAhead_32 ?_
    refine T_letS (fun s4 => ?_)
    refine T_aload_n (pc := 33) 0 dX2_lookAhead_33 rfl rfl ?_
    refine T_getA (pc := 34) fd_7_7 hw332 dX2_lookAhead_34 ?_
    refine T_iload_n (pc := 37) 2 dX2_lookAhead_37 rfl rfl ?_
    refine T_iald (pc := 38) rfl dX2_lookAhead_38 (fun x5 => ?_)
    refine T_aload_n (pc := 39) 0 dX2_lookAhead_39 rfl rfl ?_
    refine T_getA (pc := 40) fd_7_3 hw328 dX2_lookAhead_40 ?_
    refine T_iload_n (pc := 43) 2 dX2_lookAhead_43 rfl rfl ?_
    refine T_iald (pc := 44) rfl dX2_lookAhead_44 (fun x6 => ?_)
    refine T_icmp_ge (pc := 45) 103 dX2_lookAhead_45 (by decide) (fun _ => ?_) (fun _ => ?_)
    · refine T_iinc (pc := 103) (y := 1) (lv' := [(0, .ref 7), (1, .int v1), (2, .int (v2 + (1 : Int32))), (3, .int x3)]) 2 dX2_lookAhead_103 (by decide) rfl (Nat.le_of_ble_eq_true rfl) rfl ?_
      refine T_goto (pc := 106) 2 dX2_lookAhead_106 (by decide) ?_
      refine T_pick (lv' := [(0, .ref 7), (1, .int v1), (2, .int (v2 + (1 : Int32)))]) [0, 1, 2] rfl ?_
      exact hkb s4 (v2 + (1 : Int32))
    · refine T_iload_n (pc := 48) 3 dX2_lookAhead_48 rfl rfl ?_
      refine T_aload_n (pc := 49) 0 dX2_lookAhead_49 rfl rfl ?_
      refine T_getA (pc := 50) fd_7_6 hw331 dX2_lookAhead_50 ?_
      refine T_alen (pc := 53) (v := 20) rfl (by decide) dX2_lookAhead_53 ?_
      refine T_icmp_ge (pc := 54) 103 dX2_lookAhead_54 (by decide) (fun _ => ?_) (fun _ => ?_)
      · refine T_iinc (pc := 103) (y := 1) (lv' := [(0, .ref 7), (1, .int v1), (2, .int (v2 + (1 : Int32))), (3, .int x3)]) 2 dX2_lookAhead_103 (by decide) rfl (Nat.le_of_ble_eq_true rfl) rfl ?_
        refine T_goto (pc := 106) 2 dX2_lookAhead_106 (by decide) ?_
        refine T_pick (lv' := [(0, .ref 7), (1, .int v1), (2, .int (v2 + (1 : Int32)))]) [0, 1, 2] rfl ?_
        exact hkb s4 (v2 + (1 : Int32))
      · refine T_aload_n (pc := 57) 0 dX2_lookAhead_57 rfl rfl ?_
        refine T_iload_n (pc := 58) 1 dX2_lookAhead_58 rfl rfl ?_
        refine T_iload_n (pc := 59) 2 dX2_lookAhead_59 rfl rfl ?_
        refine T_callPi (pc := 60) (rest := []) (Rn_V (pc := 60) (as := [.int v1, .int v2]) (rest := []) (ctX2_slotBehind s4 v1 v2) rfl rfl mv_X2_slotBehind hw970 rfl ⟨Nat.le_of_ble_eq_true rfl, Nat.le_of_ble_eq_true rfl⟩ (Nat.le_of_ble_eq_true rfl) dX2_lookAhead_60 rfl) rfl (fun x7 => ?_)
        refine T_istore (pc := 63) (lv' := [(0, .ref 7), (1, .int v1), (2, .int v2), (3, .int x3), (4, .int x7)]) dX2_lookAhead_63 (Nat.le_of_ble_eq_true rfl) rfl ?_
        refine T_aload_n (pc := 65) 0 dX2_lookAhead_65 rfl rfl ?_
        refine T_getA (pc := 66) fd_7_8 hw333 dX2_lookAhead_66 ?_
        refine T_iload_n (pc := 69) 2 dX2_lookAhead_69 rfl rfl ?_
        refine T_iconst (pc := 70) (v := 1) dX2_lookAhead_70 (by decide) ?_
        refine T_aload_n (pc := 71) 0 dX2_lookAhead_71 rfl rfl ?_
        refine T_iload (pc := 72) 4 dX2_lookAhead_72 rfl ?_
        refine T_callPi (pc := 74) (rest := [.int (1 : Int32), .int v2, .ref 41]) (Rn_V (pc := 74) (as := [.int x7]) (rest := [.int (1 : Int32), .int v2, .ref 41]) (ctX2_gapsAt s4 x7) rfl rfl mv_X2_gapsAt hw974 rfl ⟨Nat.le_of_ble_eq_true rfl, Nat.le_of_ble_eq_true rfl⟩ (Nat.le_of_ble_eq_true rfl) dX2_lookAhead_74 rfl) rfl (fun x8 => ?_)
        refine T_iadd (pc := 77) dX2_lookAhead_77 ?_
        refine T_iast (pc := 78) rfl dX2_lookAhead_78 ?_
        refine T_letS (fun s9 => ?_)
        refine T_aload_n (pc := 79) 0 dX2_lookAhead_79 rfl rfl ?_
        refine T_getA (pc := 80) fd_7_10 hw335 dX2_lookAhead_80 ?_
        refine T_iload_n (pc := 83) 2 dX2_lookAhead_83 rfl rfl ?_
        refine T_aload_n (pc := 84) 0 dX2_lookAhead_84 rfl rfl ?_
        refine T_iload (pc := 85) 4 dX2_lookAhead_85 rfl ?_
        refine T_callPl (pc := 87) (rest := [.int v2, .ref 43]) (Rn_V (pc := 87) (as := [.int x7]) (rest := [.int v2, .ref 43]) (ctX2_waysAt s9 x7) rfl rfl mv_X2_waysAt hw979 rfl ⟨Nat.le_of_ble_eq_true rfl, Nat.le_of_ble_eq_true rfl⟩ (Nat.le_of_ble_eq_true rfl) dX2_lookAhead_87 rfl) rfl (fun x10 => ?_)
        refine T_last (pc := 90) rfl dX2_lookAhead_90 ?_
        refine T_letS (fun s11 => ?_)
        refine T_aload_n (pc := 91) 0 dX2_lookAhead_91 rfl rfl ?_
        refine T_getA (pc := 92) fd_7_9 hw334 dX2_lookAhead_92 ?_
        refine T_iload_n (pc := 95) 2 dX2_lookAhead_95 rfl rfl ?_
        refine T_aload_n (pc := 96) 0 dX2_lookAhead_96 rfl rfl ?_
        refine T_getA (pc := 97) fd_7_6 hw331 dX2_lookAhead_97 ?_
        refine T_iload_n (pc := 100) 3 dX2_lookAhead_100 rfl rfl ?_
        refine T_iald (pc := 101) rfl dX2_lookAhead_101 (fun x12 => ?_)
        refine T_iast (pc := 102) rfl dX2_lookAhead_102 ?_
        refine T_letS (fun s13 => ?_)
        refine T_iinc (pc := 103) (y := 1) (lv' := [(0, .ref 7), (1, .int v1), (2, .int (v2 + (1 : Int32))), (3, .int x3), (4, .int x7)]) 2 dX2_lookAhead_103 (by decide) rfl (Nat.le_of_ble_eq_true rfl) rfl ?_
        refine T_goto (pc := 106) 2 dX2_lookAhead_106 (by decide) ?_
        refine T_pick (lv' := [(0, .ref 7), (1, .int v1), (2, .int (v2 + (1 : Int32)))]) [0, 1, 2] rfl ?_
        exact hkb s13 (v2 + (1 : Int32))
set_option maxRecDepth 100000 in
set_option maxHeartbeats 4000000 in
theorem fX2_lookAhead_P2_T (v1 : Int32) (σ : St) (v2 : Int32) : T kX2_lookAhead cSv σ 2 [(0, .ref 7), (1, .int v1), (2, .int v2)] [] (fX2_lookAhead_P2 v1 σ v2) :=
  it_T (S := (fun t : St × Int32 => t.1)) (lv := fun t : St × Int32 => [(0, .ref 7), (1, .int v1), (2, .int t.2)]) (st := fun _ => []) (fun kb hkb t => fX2_lookAhead_L2_T v1 (hkb := fun σ v2 => hkb (σ, v2)) t.1 t.2) FU (σ, v2)
set_option maxRecDepth 100000 in
set_option maxHeartbeats 4000000 in
theorem ctX2_lookAhead (σ : St) (p0 : Int32) : Ct yX2_lookAhead kX2_lookAhead [.ref 7, .int p0] σ cSv (fX2_lookAhead σ p0) := by
  refine Ct.of (by decide +kernel) rfl rfl (Nat.le_of_ble_eq_true rfl) ?_
  unfold fX2_lookAhead
  show T _ _ _ 0 [(0, .ref 7), (1, .int p0)] [] _
  refine T_iconst (pc := 0) (v := 0) dX2_lookAhead_0 (by decide) ?_
  refine T_istore_n (pc := 1) (lv' := [(0, .ref 7), (1, .int p0), (2, .int (0 : Int32))]) dX2_lookAhead_1 rfl (Nat.le_of_ble_eq_true rfl) rfl ?_
  exact fX2_lookAhead_P2_T p0 σ (0 : Int32)
set_option maxRecDepth 100000 in
set_option maxHeartbeats 4000000 in
theorem ctX2_gapsIfNext (σ : St) (p0 : Int32) (p1 : Int32) : Ct yX2_gapsIfNext kX2_gapsIfNext [.ref 7, .int p0, .int p1] σ (cPi σ) (fX2_gapsIfNext σ p0 p1) := by
  refine Ct.of (by decide +kernel) rfl rfl (Nat.le_of_ble_eq_true rfl) ?_
  unfold fX2_gapsIfNext
  show T _ _ _ 0 [(0, .ref 7), (1, .int p0), (2, .int p1)] [] _
  refine T_aload_n (pc := 0) 0 dX2_gapsIfNext_0 rfl rfl ?_
  refine T_getA (pc := 1) fd_7_8 hw333 dX2_gapsIfNext_1 ?_
  refine T_iload_n (pc := 4) 1 dX2_gapsIfNext_4 rfl rfl ?_
  refine T_iald (pc := 5) rfl dX2_gapsIfNext_5 (fun x1 => ?_)
  refine T_sipush (pc := 6) (v := 1000) dX2_gapsIfNext_6 (by decide) ?_
  refine T_icmp_ge (pc := 9) 32 dX2_gapsIfNext_9 (by decide) (fun _ => ?_) (fun _ => ?_)
  · refine T_sipush (pc := 32) (v := 1000) dX2_gapsIfNext_32 (by decide) ?_
    exact T_ireturn (pc := 35) rfl dX2_gapsIfNext_35 rfl
  · refine T_aload_n (pc := 12) 0 dX2_gapsIfNext_12 rfl rfl ?_
    refine T_getA (pc := 13) fd_7_8 hw333 dX2_gapsIfNext_13 ?_
    refine T_iload_n (pc := 16) 1 dX2_gapsIfNext_16 rfl rfl ?_
    refine T_iald (pc := 17) rfl dX2_gapsIfNext_17 (fun x2 => ?_)
    refine T_aload_n (pc := 18) 0 dX2_gapsIfNext_18 rfl rfl ?_
    refine T_getA (pc := 19) fd_7_9 hw334 dX2_gapsIfNext_19 ?_
    refine T_iload_n (pc := 22) 1 dX2_gapsIfNext_22 rfl rfl ?_
    refine T_iald (pc := 23) rfl dX2_gapsIfNext_23 (fun x3 => ?_)
    refine T_iload_n (pc := 24) 2 dX2_gapsIfNext_24 rfl rfl ?_
    refine T_ishr (pc := 25) dX2_gapsIfNext_25 ?_
    refine T_iconst (pc := 26) (v := 1) dX2_gapsIfNext_26 (by decide) ?_
    refine T_iand (pc := 27) dX2_gapsIfNext_27 ?_
    refine T_isub (pc := 28) dX2_gapsIfNext_28 ?_
    refine T_goto (pc := 29) 35 dX2_gapsIfNext_29 (by decide) ?_
    exact T_ireturn (pc := 35) rfl dX2_gapsIfNext_35 rfl
set_option maxRecDepth 100000 in
set_option maxHeartbeats 4000000 in
theorem fX2_settle_L10_T (v1 : Int32) (v2 : Int32) (σ : St) {k1 : Int32 → Int64 → Option St} {kb : Int32 → Int64 → Int32 → Option St} (hk1 : ∀ (w3 : Int32) (w4 : Int64), T kX2_settle cSv σ 81 [(0, .ref 7), (2, .int v2), (3, .int w3), (4, .long w4)] [] (k1 w3 w4)) (hkb : ∀ (w3 : Int32) (w4 : Int64) (w6 : Int32), T kX2_settle cSv σ 10 [(0, .ref 7), (1, .int v1), (2, .int v2), (3, .int w3), (4, .long w4), (6, .int w6)] [] (kb w3 w4 w6)) (v3 : Int32) (v4 : Int64) (v6 : Int32) : T kX2_settle cSv σ 10 [(0, .ref 7), (1, .int v1), (2, .int v2), (3, .int v3), (4, .long v4), (6, .int v6)] [] (fX2_settle_L10 v1 v2 k1 kb σ v3 v4 v6) := by
  unfold fX2_settle_L10
  refine T_iload (pc := 10) 5 dX2_settle_10 rfl ?_
  refine T_aload_n (pc := 12) 0 dX2_settle_12 rfl rfl ?_
  refine T_getI (pc := 13) fd_7_12 hw337 dX2_settle_13 ?_
  refine T_icmp_ge (pc := 16) 81 dX2_settle_16 (by decide) (fun _ => ?_) (fun _ => ?_)
  · refine T_pick (lv' := [(0, .ref 7), (2, .int v2), (3, .int v3), (4, .long v4)]) [0, 2, 3, 4] rfl ?_
    exact hk1 v3 v4
  · refine T_aload_n (pc := 19) 0 dX2_settle_19 rfl rfl ?_
    refine T_iload (pc := 20) 5 dX2_settle_20 rfl ?_
    refine T_iload_n (pc := 22) 1 dX2_settle_22 rfl rfl ?_
    refine T_callPi (pc := 23) (rest := []) (Rn_V (pc := 23) (as := [.int v6, .int v1]) (rest := []) (ctX2_gapsIfNext σ v6 v1) rfl rfl mv_X2_gapsIfNext hw987 rfl ⟨Nat.le_of_ble_eq_true rfl, Nat.le_of_ble_eq_true rfl⟩ (Nat.le_of_ble_eq_true rfl) dX2_settle_23 rfl) rfl (fun x1 => ?_)
    refine T_istore (pc := 26) (lv' := [(0, .ref 7), (1, .int v1), (2, .int v2), (3, .int v3), (4, .long v4), (6, .int v6), (7, .int x1)]) dX2_settle_26 (Nat.le_of_ble_eq_true rfl) rfl ?_
    refine T_iload (pc := 28) 6 dX2_settle_28 rfl ?_
    refine T_iload_n (pc := 30) 3 dX2_settle_30 rfl rfl ?_
    refine T_icmp_ge (pc := 31) 49 dX2_settle_31 (by decide) (fun _ => ?_) (fun _ => ?_)
    · refine T_iload (pc := 49) 6 dX2_settle_49 rfl ?_
      refine T_iload_n (pc := 51) 3 dX2_settle_51 rfl rfl ?_
      refine T_icmp_ne (pc := 52) 75 dX2_settle_52 (by decide) (fun _ => ?_) (fun _ => ?_)
      · refine T_iinc (pc := 75) (y := 1) (lv' := [(0, .ref 7), (1, .int v1), (2, .int v2), (3, .int v3), (4, .long v4), (6, .int (v6 + (1 : Int32))), (7, .int x1)]) 5 dX2_settle_75 (by decide) rfl (Nat.le_of_ble_eq_true rfl) rfl ?_
        refine T_goto (pc := 78) 10 dX2_settle_78 (by decide) ?_
        refine T_pick (lv' := [(0, .ref 7), (1, .int v1), (2, .int v2), (3, .int v3), (4, .long v4), (6, .int (v6 + (1 : Int32)))]) [0, 1, 2, 3, 4, 5] rfl ?_
        exact hkb v3 v4 (v6 + (1 : Int32))
      · refine T_iload (pc := 55) 6 dX2_settle_55 rfl ?_
        refine T_sipush (pc := 57) (v := 1000) dX2_settle_57 (by decide) ?_
        refine T_icmp_ge (pc := 60) 75 dX2_settle_60 (by decide) (fun _ => ?_) (fun _ => ?_)
        · refine T_iinc (pc := 75) (y := 1) (lv' := [(0, .ref 7), (1, .int v1), (2, .int v2), (3, .int v3), (4, .long v4), (6, .int (v6 + (1 : Int32))), (7, .int x1)]) 5 dX2_settle_75 (by decide) rfl (Nat.le_of_ble_eq_true rfl) rfl ?_
          refine T_goto (pc := 78) 10 dX2_settle_78 (by decide) ?_
          refine T_pick (lv' := [(0, .ref 7), (1, .int v1), (2, .int v2), (3, .int v3), (4, .long v4), (6, .int (v6 + (1 : Int32)))]) [0, 1, 2, 3, 4, 5] rfl ?_
          exact hkb v3 v4 (v6 + (1 : Int32))
        · refine T_lload (pc := 63) 4 dX2_settle_63 rfl ?_
          refine T_aload_n (pc := 65) 0 dX2_settle_65 rfl rfl ?_
          refine T_getA (pc := 66) fd_7_10 hw335 dX2_settle_66 ?_
          refine T_iload (pc := 69) 5 dX2_settle_69 rfl ?_
          refine T_lald (pc := 71) rfl dX2_settle_71 (fun x2 => ?_)
          refine T_ladd (pc := 72) dX2_settle_72 ?_
          refine T_letL (fun x3 => ?_)
          refine T_lstore (pc := 73) (lv' := [(0, .ref 7), (1, .int v1), (2, .int v2), (3, .int v3), (4, .long x3), (6, .int v6), (7, .int x1)]) dX2_settle_73 (Nat.le_of_ble_eq_true rfl) rfl ?_
          refine T_iinc (pc := 75) (y := 1) (lv' := [(0, .ref 7), (1, .int v1), (2, .int v2), (3, .int v3), (4, .long x3), (6, .int (v6 + (1 : Int32))), (7, .int x1)]) 5 dX2_settle_75 (by decide) rfl (Nat.le_of_ble_eq_true rfl) rfl ?_
          refine T_goto (pc := 78) 10 dX2_settle_78 (by decide) ?_
          refine T_pick (lv' := [(0, .ref 7), (1, .int v1), (2, .int v2), (3, .int v3), (4, .long x3), (6, .int (v6 + (1 : Int32)))]) [0, 1, 2, 3, 4, 5] rfl ?_
          exact hkb v3 x3 (v6 + (1 : Int32))
    · refine T_iload (pc := 34) 6 dX2_settle_34 rfl ?_
      refine T_istore_n (pc := 36) (lv' := [(0, .ref 7), (1, .int v1), (2, .int v2), (3, .int x1), (4, .long v4), (6, .int v6), (7, .int x1)]) dX2_settle_36 rfl (Nat.le_of_ble_eq_true rfl) rfl ?_
      refine T_aload_n (pc := 37) 0 dX2_settle_37 rfl rfl ?_
      refine T_getA (pc := 38) fd_7_10 hw335 dX2_settle_38 ?_
      refine T_iload (pc := 41) 5 dX2_settle_41 rfl ?_
      refine T_lald (pc := 43) rfl dX2_settle_43 (fun x4 => ?_)
      refine T_lstore (pc := 44) (lv' := [(0, .ref 7), (1, .int v1), (2, .int v2), (3, .int x1), (4, .long x4), (6, .int v6), (7, .int x1)]) dX2_settle_44 (Nat.le_of_ble_eq_true rfl) rfl ?_
      refine T_goto (pc := 46) 75 dX2_settle_46 (by decide) ?_
      refine T_iinc (pc := 75) (y := 1) (lv' := [(0, .ref 7), (1, .int v1), (2, .int v2), (3, .int x1), (4, .long x4), (6, .int (v6 + (1 : Int32))), (7, .int x1)]) 5 dX2_settle_75 (by decide) rfl (Nat.le_of_ble_eq_true rfl) rfl ?_
      refine T_goto (pc := 78) 10 dX2_settle_78 (by decide) ?_
      refine T_pick (lv' := [(0, .ref 7), (1, .int v1), (2, .int v2), (3, .int x1), (4, .long x4), (6, .int (v6 + (1 : Int32)))]) [0, 1, 2, 3, 4, 5] rfl ?_
      exact hkb x1 x4 (v6 + (1 : Int32))
set_option maxRecDepth 100000 in
set_option maxHeartbeats 4000000 in
theorem fX2_settle_P10_T (v1 : Int32) (v2 : Int32) (σ : St) {k1 : Int32 → Int64 → Option St} (hk1 : ∀ (w3 : Int32) (w4 : Int64), T kX2_settle cSv σ 81 [(0, .ref 7), (2, .int v2), (3, .int w3), (4, .long w4)] [] (k1 w3 w4)) (v3 : Int32) (v4 : Int64) (v6 : Int32) : T kX2_settle cSv σ 10 [(0, .ref 7), (1, .int v1), (2, .int v2), (3, .int v3), (4, .long v4), (6, .int v6)] [] (fX2_settle_P10 v1 v2 k1 σ v3 v4 v6) :=
  it_T (S := (fun _ : Int32 × Int64 × Int32 => σ)) (lv := fun t : Int32 × Int64 × Int32 => [(0, .ref 7), (1, .int v1), (2, .int v2), (3, .int t.1), (4, .long t.2.1), (6, .int t.2.2)]) (st := fun _ => []) (fun kb hkb t => fX2_settle_L10_T v1 v2 (hk1 := hk1) (hkb := fun v3 v4 v6 => hkb (v3, v4, v6)) σ t.1 t.2.1 t.2.2) FU (v3, v4, v6)
set_option maxRecDepth 100000 in
set_option maxHeartbeats 4000000 in
theorem ctX2_settle (σ : St) (p0 : Int32) (p1 : Int32) : Ct yX2_settle kX2_settle [.ref 7, .int p0, .int p1] σ cSv (fX2_settle σ p0 p1) := by
  refine Ct.of (by decide +kernel) rfl rfl (Nat.le_of_ble_eq_true rfl) ?_
  unfold fX2_settle
  show T _ _ _ 0 [(0, .ref 7), (1, .int p0), (2, .int p1)] [] _
  refine T_sipush (pc := 0) (v := 1000) dX2_settle_0 (by decide) ?_
  refine T_istore_n (pc := 3) (lv' := [(0, .ref 7), (1, .int p0), (2, .int p1), (3, .int (1000 : Int32))]) dX2_settle_3 rfl (Nat.le_of_ble_eq_true rfl) rfl ?_
  refine T_lconst (pc := 4) (v := 0) dX2_settle_4 (by decide) ?_
  refine T_lstore (pc := 5) (lv' := [(0, .ref 7), (1, .int p0), (2, .int p1), (3, .int (1000 : Int32)), (4, .long (0 : Int64))]) dX2_settle_5 (Nat.le_of_ble_eq_true rfl) rfl ?_
  refine T_iconst (pc := 7) (v := 0) dX2_settle_7 (by decide) ?_
  refine T_istore (pc := 8) (lv' := [(0, .ref 7), (1, .int p0), (2, .int p1), (3, .int (1000 : Int32)), (4, .long (0 : Int64)), (6, .int (0 : Int32))]) dX2_settle_8 (Nat.le_of_ble_eq_true rfl) rfl ?_
  refine fX2_settle_P10_T p0 p1 (hk1 := fun x5 x6 => ?_) σ (1000 : Int32) (0 : Int64) (0 : Int32)
  · refine T_iload_n (pc := 81) 1 dX2_settle_81 rfl rfl ?_
    refine T_if_lt (pc := 82) 120 dX2_settle_82 (by decide) (fun _ => ?_) (fun _ => ?_)
    · exact T_return (pc := 120) rfl dX2_settle_120 rfl
    · refine T_iload_n (pc := 85) 1 dX2_settle_85 rfl rfl ?_
      refine T_aload_n (pc := 86) 0 dX2_settle_86 rfl rfl ?_
      refine T_getA (pc := 87) fd_7_17 hw342 dX2_settle_87 ?_
      refine T_alenN (pc := 90) rfl dX2_settle_90 ?_
      refine T_icmp_ge (pc := 91) 120 dX2_settle_91 (by decide) (fun _ => ?_) (fun _ => ?_)
      · exact T_return (pc := 120) rfl dX2_settle_120 rfl
      · refine T_aload_n (pc := 94) 0 dX2_settle_94 rfl rfl ?_
        refine T_getA (pc := 95) fd_7_17 hw342 dX2_settle_95 ?_
        refine T_iload_n (pc := 98) 1 dX2_settle_98 rfl rfl ?_
        refine T_iload_n (pc := 99) 2 dX2_settle_99 rfl rfl ?_
        refine T_sipush (pc := 100) (v := 1000) dX2_settle_100 (by decide) ?_
        refine T_icmp_ne (pc := 103) 112 dX2_settle_103 (by decide) (fun _ => ?_) (fun _ => ?_)
        · refine T_lload (pc := 112) 3 dX2_settle_112 rfl ?_
          refine T_iconst (pc := 114) (v := 5) dX2_settle_114 (by decide) ?_
          refine T_lshl (pc := 115) dX2_settle_115 ?_
          refine T_iload_n (pc := 116) 2 dX2_settle_116 rfl rfl ?_
          refine T_i2l (pc := 117) dX2_settle_117 ?_
          refine T_lor (pc := 118) dX2_settle_118 ?_
          refine T_lastN (pc := 119) rfl dX2_settle_119 ?_
          refine T_letS (fun s7 => ?_)
          exact T_return (pc := 120) rfl dX2_settle_120 rfl
        · refine T_ldc2 (pc := 106) hw991 dX2_settle_106 ?_
          refine T_goto (pc := 109) 119 dX2_settle_109 (by decide) ?_
          refine T_lastN (pc := 119) rfl dX2_settle_119 ?_
          refine T_letS (fun s8 => ?_)
          exact T_return (pc := 120) rfl dX2_settle_120 rfl
set_option maxRecDepth 100000 in
set_option maxHeartbeats 4000000 in
theorem fX2_stepBack_L2_T (σ : St) {k1 : St → Int32 → Option St} {kb : St → Int32 → Option St} (hk1 : ∀ (σ' : St) (w1 : Int32), T kX2_stepBack cSv σ' 19 [(0, .ref 7), (1, .int w1)] [] (k1 σ' w1)) (hkb : ∀ (σ' : St) (w1 : Int32), T kX2_stepBack cSv σ' 2 [(0, .ref 7), (1, .int w1)] [] (kb σ' w1)) (v1 : Int32) : T kX2_stepBack cSv σ 2 [(0, .ref 7), (1, .int v1)] [] (fX2_stepBack_L2 k1 kb σ v1) := by
  unfold fX2_stepBack_L2
  refine T_iload_n (pc := 2) 1 dX2_stepBack_2 rfl rfl ?_
  refine T_aload_n (pc := 3) 0 dX2_stepBack_3 rfl rfl ?_
  refine T_getI (pc := 4) fd_7_12 hw337 dX2_stepBack_4 ?_
  refine T_icmp_ge (pc := 7) 48 dX2_stepBack_7 (by decide) (fun _ => ?_) (fun _ => ?_)
  · exact T_return (pc := 48) rfl dX2_stepBack_48 rfl
  · refine T_aload_n (pc := 10) 0 dX2_stepBack_10 rfl rfl ?_
    refine T_getA (pc := 11) fd_7_7 hw332 dX2_stepBack_11 ?_
    refine T_iload_n (pc := 14) 1 dX2_stepBack_14 rfl rfl ?_
    refine T_iald (pc := 15) rfl dX2_stepBack_15 (fun x1 => ?_)
    refine T_if_le (pc := 16) 30 dX2_stepBack_16 (by decide) (fun _ => ?_) (fun _ => ?_)
    · refine T_aload_n (pc := 30) 0 dX2_stepBack_30 rfl rfl ?_
      refine T_getA (pc := 31) fd_7_7 hw332 dX2_stepBack_31 ?_
      refine T_iload_n (pc := 34) 1 dX2_stepBack_34 rfl rfl ?_
      refine T_aload_n (pc := 35) 0 dX2_stepBack_35 rfl rfl ?_
      refine T_getA (pc := 36) fd_7_3 hw328 dX2_stepBack_36 ?_
      refine T_iload_n (pc := 39) 1 dX2_stepBack_39 rfl rfl ?_
      refine T_iald (pc := 40) rfl dX2_stepBack_40 (fun x2 => ?_)
      refine T_iast (pc := 41) rfl dX2_stepBack_41 ?_
      refine T_letS (fun s3 => ?_)
      refine T_iinc (pc := 42) (y := 1) (lv' := [(0, .ref 7), (1, .int (v1 + (1 : Int32)))]) 1 dX2_stepBack_42 (by decide) rfl (Nat.le_of_ble_eq_true rfl) rfl ?_
      refine T_goto (pc := 45) 2 dX2_stepBack_45 (by decide) ?_
      exact hkb s3 (v1 + (1 : Int32))
    · exact hk1 σ v1
set_option maxRecDepth 100000 in
set_option maxHeartbeats 4000000 in
theorem fX2_stepBack_P2_T (σ : St) {k1 : St → Int32 → Option St} (hk1 : ∀ (σ' : St) (w1 : Int32), T kX2_stepBack cSv σ' 19 [(0, .ref 7), (1, .int w1)] [] (k1 σ' w1)) (v1 : Int32) : T kX2_stepBack cSv σ 2 [(0, .ref 7), (1, .int v1)] [] (fX2_stepBack_P2 k1 σ v1) :=
  it_T (S := (fun t : St × Int32 => t.1)) (lv := fun t : St × Int32 => [(0, .ref 7), (1, .int t.2)]) (st := fun _ => []) (fun kb hkb t => fX2_stepBack_L2_T (hk1 := hk1) (hkb := fun σ v1 => hkb (σ, v1)) t.1 t.2) FU (σ, v1)
set_option maxRecDepth 100000 in
set_option maxHeartbeats 4000000 in
theorem ctX2_stepBack (σ : St) : Ct yX2_stepBack kX2_stepBack [.ref 7] σ cSv (fX2_stepBack σ) := by
  refine Ct.of (by decide +kernel) rfl rfl (Nat.le_of_ble_eq_true rfl) ?_
  unfold fX2_stepBack
  show T _ _ _ 0 [(0, .ref 7)] [] _
  refine T_iconst (pc := 0) (v := 0) dX2_stepBack_0 (by decide) ?_
  refine T_istore_n (pc := 1) (lv' := [(0, .ref 7), (1, .int (0 : Int32))]) dX2_stepBack_1 rfl (Nat.le_of_ble_eq_true rfl) rfl ?_
  refine fX2_stepBack_P2_T (hk1 := fun s4 x5 => ?_) σ (0 : Int32)
  · refine T_aload_n (pc := 19) 0 dX2_stepBack_19 rfl rfl ?_
    refine T_getA (pc := 20) fd_7_7 hw332 dX2_stepBack_20 ?_
    refine T_iload_n (pc := 23) 1 dX2_stepBack_23 rfl rfl ?_
    refine T_dup2_ia (pc := 24) dX2_stepBack_24 ?_
    refine T_iald (pc := 25) rfl dX2_stepBack_25 (fun x6 => ?_)
    refine T_iconst (pc := 26) (v := 1) dX2_stepBack_26 (by decide) ?_
    refine T_isub (pc := 27) dX2_stepBack_27 ?_
    refine T_iast (pc := 28) rfl dX2_stepBack_28 ?_
    refine T_letS (fun s7 => ?_)
    exact T_return (pc := 29) rfl dX2_stepBack_29 rfl
set_option maxRecDepth 100000 in
set_option maxHeartbeats 4000000 in
theorem fX2_countBack_L2_T (σ : St) {k1 : St → Option St} {kb : St → Int32 → Option St} (hk1 : ∀ (σ' : St), T kX2_countBack cSv σ' 28 [(0, .ref 7)] [] (k1 σ')) (hkb : ∀ (σ' : St) (w1 : Int32), T kX2_countBack cSv σ' 2 [(0, .ref 7), (1, .int w1)] [] (kb σ' w1)) (v1 : Int32) : T kX2_countBack cSv σ 2 [(0, .ref 7), (1, .int v1)] [] (fX2_countBack_L2 k1 kb σ v1) := by
  unfold fX2_countBack_L2
  refine T_iload_n (pc := 2) 1 dX2_countBack_2 rfl rfl ?_
  refine T_aload_n (pc := 3) 0 dX2_countBack_3 rfl rfl ?_
  refine T_getI (pc := 4) fd_7_12 hw337 dX2_countBack_4 ?_
  refine T_icmp_ge (pc := 7) 28 dX2_countBack_7 (by decide) (fun _ => ?_) (fun _ => ?_)
  · refine T_pick (lv' := [(0, .ref 7)]) [0] rfl ?_
    exact hk1 σ
  · refine T_aload_n (pc := 10) 0 dX2_countBack_10 rfl rfl ?_
    refine T_getA (pc := 11) fd_7_7 hw332 dX2_countBack_11 ?_
    refine T_iload_n (pc := 14) 1 dX2_countBack_14 rfl rfl ?_
    refine T_aload_n (pc := 15) 0 dX2_countBack_15 rfl rfl ?_
    refine T_getA (pc := 16) fd_7_3 hw328 dX2_countBack_16 ?_
    refine T_iload_n (pc := 19) 1 dX2_countBack_19 rfl rfl ?_
    refine T_iald (pc := 20) rfl dX2_countBack_20 (fun x1 => ?_)
    refine T_iast (pc := 21) rfl dX2_countBack_21 ?_
    refine T_letS (fun s2 => ?_)
    refine T_iinc (pc := 22) (y := 1) (lv' := [(0, .ref 7), (1, .int (v1 + (1 : Int32)))]) 1 dX2_countBack_22 (by decide) rfl (Nat.le_of_ble_eq_true rfl) rfl ?_
    refine T_goto (pc := 25) 2 dX2_countBack_25 (by decide) ?_
    exact hkb s2 (v1 + (1 : Int32))
set_option maxRecDepth 100000 in
set_option maxHeartbeats 4000000 in
theorem fX2_countBack_P2_T (σ : St) {k1 : St → Option St} (hk1 : ∀ (σ' : St), T kX2_countBack cSv σ' 28 [(0, .ref 7)] [] (k1 σ')) (v1 : Int32) : T kX2_countBack cSv σ 2 [(0, .ref 7), (1, .int v1)] [] (fX2_countBack_P2 k1 σ v1) :=
  it_T (S := (fun t : St × Int32 => t.1)) (lv := fun t : St × Int32 => [(0, .ref 7), (1, .int t.2)]) (st := fun _ => []) (fun kb hkb t => fX2_countBack_L2_T (hk1 := hk1) (hkb := fun σ v1 => hkb (σ, v1)) t.1 t.2) FU (σ, v1)
set_option maxRecDepth 100000 in
set_option maxHeartbeats 4000000 in
theorem fX2_countBack_L46_T (v1 : Int32) (σ : St) {k1 : St → Option St} {kb : St → Int32 → Option St} (hk1 : ∀ (σ' : St), T kX2_countBack cSv σ' 96 [(0, .ref 7), (1, .int v1)] [] (k1 σ')) (hkb : ∀ (σ' : St) (w2 : Int32), T kX2_countBack cSv σ' 46 [(0, .ref 7), (1, .int v1), (2, .int w2)] [] (kb σ' w2)) (v2 : Int32) : T kX2_countBack cSv σ 46 [(0, .ref 7), (1, .int v1), (2, .int v2)] [] (fX2_countBack_L46 v1 k1 kb σ v2) := by
  unfold fX2_countBack_L46
  refine T_iload_n (pc := 46) 2 dX2_countBack_46 rfl rfl ?_
  refine T_aload_n (pc := 47) 0 dX2_countBack_47 rfl rfl ?_
  refine T_getI (pc := 48) fd_7_12 hw337 dX2_countBack_48 ?_
  refine T_icmp_ge (pc := 51) 96 dX2_countBack_51 (by decide) (fun _ => ?_) (fun _ => ?_)
  · refine T_pick (lv' := [(0, .ref 7), (1, .int v1)]) [0, 1] rfl ?_
    exact hk1 σ
  · refine T_aload_n (pc := 54) 0 dX2_countBack_54 rfl rfl ?_
    refine T_getA (pc := 55) fd_7_7 hw332 dX2_countBack_55 ?_
    refine T_iload_n (pc := 58) 2 dX2_countBack_58 rfl rfl ?_
    refine T_iald (pc := 59) rfl dX2_countBack_59 (fun x6 => ?_)
    refine T_if_le (pc := 60) 90 dX2_countBack_60 (by decide) (fun _ => ?_) (fun _ => ?_)
    · refine T_iinc (pc := 90) (y := 1) (lv' := [(0, .ref 7), (1, .int v1), (2, .int (v2 + (1 : Int32)))]) 2 dX2_countBack_90 (by decide) rfl (Nat.le_of_ble_eq_true rfl) rfl ?_
      refine T_goto (pc := 93) 46 dX2_countBack_93 (by decide) ?_
      exact hkb σ (v2 + (1 : Int32))
    · refine T_aload_n (pc := 63) 0 dX2_countBack_63 rfl rfl ?_
      refine T_aload_n (pc := 64) 0 dX2_countBack_64 rfl rfl ?_
      refine T_getA (pc := 65) fd_7_5 hw330 dX2_countBack_65 ?_
      refine T_iload_n (pc := 68) 2 dX2_countBack_68 rfl rfl ?_
      refine T_iald (pc := 69) rfl dX2_countBack_69 (fun x7 => ?_)
      refine T_aload_n (pc := 70) 0 dX2_countBack_70 rfl rfl ?_
      refine T_getA (pc := 71) fd_7_7 hw332 dX2_countBack_71 ?_
      refine T_iload_n (pc := 74) 2 dX2_countBack_74 rfl rfl ?_
      refine T_iald (pc := 75) rfl dX2_countBack_75 (fun x8 => ?_)
      refine T_iadd (pc := 76) dX2_countBack_76 ?_
      refine T_iconst (pc := 77) (v := 1) dX2_countBack_77 (by decide) ?_
      refine T_isub (pc := 78) dX2_countBack_78 ?_
      refine T_iload_n (pc := 79) 1 dX2_countBack_79 rfl rfl ?_
      refine T_aload_n (pc := 80) 0 dX2_countBack_80 rfl rfl ?_
      refine T_getI (pc := 81) fd_7_12 hw337 dX2_countBack_81 ?_
      refine T_imul (pc := 84) dX2_countBack_84 ?_
      refine T_iload_n (pc := 85) 2 dX2_countBack_85 rfl rfl ?_
      refine T_iadd (pc := 86) dX2_countBack_86 ?_
      refine T_callSv (pc := 87) (rest := []) (Rn_V (pc := 87) (as := [.int ((x7 + x8) - (1 : Int32)), .int ((v1 * (zI σ 21)) + v2)]) (rest := []) (ctX2_settle σ ((x7 + x8) - (1 : Int32)) ((v1 * (zI σ 21)) + v2)) rfl rfl mv_X2_settle hw983 rfl ⟨Nat.le_of_ble_eq_true rfl, Nat.le_of_ble_eq_true rfl⟩ (Nat.le_of_ble_eq_true rfl) dX2_countBack_87 rfl) rfl (fun s9 => ?_)
      refine T_iinc (pc := 90) (y := 1) (lv' := [(0, .ref 7), (1, .int v1), (2, .int (v2 + (1 : Int32)))]) 2 dX2_countBack_90 (by decide) rfl (Nat.le_of_ble_eq_true rfl) rfl ?_
      refine T_goto (pc := 93) 46 dX2_countBack_93 (by decide) ?_
      exact hkb s9 (v2 + (1 : Int32))
set_option maxRecDepth 100000 in
set_option maxHeartbeats 4000000 in
theorem fX2_countBack_P46_T (v1 : Int32) (σ : St) {k1 : St → Option St} (hk1 : ∀ (σ' : St), T kX2_countBack cSv σ' 96 [(0, .ref 7), (1, .int v1)] [] (k1 σ')) (v2 : Int32) : T kX2_countBack cSv σ 46 [(0, .ref 7), (1, .int v1), (2, .int v2)] [] (fX2_countBack_P46 v1 k1 σ v2) :=
  it_T (S := (fun t : St × Int32 => t.1)) (lv := fun t : St × Int32 => [(0, .ref 7), (1, .int v1), (2, .int t.2)]) (st := fun _ => []) (fun kb hkb t => fX2_countBack_L46_T v1 (hk1 := hk1) (hkb := fun σ v2 => hkb (σ, v2)) t.1 t.2) FU (σ, v2)
set_option maxRecDepth 100000 in
set_option maxHeartbeats 4000000 in
theorem fX2_countBack_L35_T (σ : St) {k1 : St → Option St} {kb : St → Int32 → Option St} (hk1 : ∀ (σ' : St), T kX2_countBack cSv σ' 106 [(0, .ref 7)] [] (k1 σ')) (hkb : ∀ (σ' : St) (w1 : Int32), T kX2_countBack cSv σ' 35 [(0, .ref 7), (1, .int w1)] [] (kb σ' w1)) (v1 : Int32) : T kX2_countBack cSv σ 35 [(0, .ref 7), (1, .int v1)] [] (fX2_countBack_L35 k1 kb σ v1) := by
  unfold fX2_countBack_L35
  refine T_iload_n (pc := 35) 1 dX2_countBack_35 rfl rfl ?_
  refine T_if_le (pc := 36) 106 dX2_countBack_36 (by decide) (fun _ => ?_) (fun _ => ?_)
  · refine T_pick (lv' := [(0, .ref 7)]) [0] rfl ?_
    exact hk1 σ
  · refine T_aload_n (pc := 39) 0 dX2_countBack_39 rfl rfl ?_
    refine T_iload_n (pc := 40) 1 dX2_countBack_40 rfl rfl ?_
    refine T_callSv (pc := 41) (rest := []) (Rn_V (pc := 41) (as := [.int v1]) (rest := []) (ctX2_lookAhead σ v1) rfl rfl mv_X2_lookAhead hw966 rfl ⟨Nat.le_of_ble_eq_true rfl, Nat.le_of_ble_eq_true rfl⟩ (Nat.le_of_ble_eq_true rfl) dX2_countBack_41 rfl) rfl (fun s5 => ?_)
    refine T_iconst (pc := 44) (v := 0) dX2_countBack_44 (by decide) ?_
    refine T_istore_n (pc := 45) (lv' := [(0, .ref 7), (1, .int v1), (2, .int (0 : Int32))]) dX2_countBack_45 rfl (Nat.le_of_ble_eq_true rfl) rfl ?_
    refine fX2_countBack_P46_T v1 (hk1 := fun s10 => ?_) s5 (0 : Int32)
    · refine T_aload_n (pc := 96) 0 dX2_countBack_96 rfl rfl ?_
      refine T_callSv (pc := 97) (rest := []) (Rn_V (pc := 97) (as := []) (rest := []) (ctX2_stepBack s10) rfl rfl mv_X2_stepBack hw992 rfl ⟨Nat.le_of_ble_eq_true rfl, Nat.le_of_ble_eq_true rfl⟩ (Nat.le_of_ble_eq_true rfl) dX2_countBack_97 rfl) rfl (fun s11 => ?_)
      refine T_iinc (pc := 100) (y := -1) (lv' := [(0, .ref 7), (1, .int (v1 + (-1 : Int32)))]) 1 dX2_countBack_100 (by decide) rfl (Nat.le_of_ble_eq_true rfl) rfl ?_
      refine T_goto (pc := 103) 35 dX2_countBack_103 (by decide) ?_
      exact hkb s11 (v1 + (-1 : Int32))
set_option maxRecDepth 100000 in
set_option maxHeartbeats 4000000 in
theorem fX2_countBack_P35_T (σ : St) {k1 : St → Option St} (hk1 : ∀ (σ' : St), T kX2_countBack cSv σ' 106 [(0, .ref 7)] [] (k1 σ')) (v1 : Int32) : T kX2_countBack cSv σ 35 [(0, .ref 7), (1, .int v1)] [] (fX2_countBack_P35 k1 σ v1) :=
  it_T (S := (fun t : St × Int32 => t.1)) (lv := fun t : St × Int32 => [(0, .ref 7), (1, .int t.2)]) (st := fun _ => []) (fun kb hkb t => fX2_countBack_L35_T (hk1 := hk1) (hkb := fun σ v1 => hkb (σ, v1)) t.1 t.2) FU (σ, v1)
set_option maxRecDepth 100000 in
set_option maxHeartbeats 4000000 in
theorem ctX2_countBack (σ : St) : Ct yX2_countBack kX2_countBack [.ref 7] σ cSv (fX2_countBack σ) := by
  refine Ct.of (by decide +kernel) rfl rfl (Nat.le_of_ble_eq_true rfl) ?_
  unfold fX2_countBack
  show T _ _ _ 0 [(0, .ref 7)] [] _
  refine T_iconst (pc := 0) (v := 0) dX2_countBack_0 (by decide) ?_
  refine T_istore_n (pc := 1) (lv' := [(0, .ref 7), (1, .int (0 : Int32))]) dX2_countBack_1 rfl (Nat.le_of_ble_eq_true rfl) rfl ?_
  refine fX2_countBack_P2_T (hk1 := fun s3 => ?_) σ (0 : Int32)
  · refine T_aload_n (pc := 28) 0 dX2_countBack_28 rfl rfl ?_
    refine T_getI (pc := 29) fd_7_13 hw338 dX2_countBack_29 ?_
    refine T_iconst (pc := 32) (v := 1) dX2_countBack_32 (by decide) ?_
    refine T_isub (pc := 33) dX2_countBack_33 ?_
    refine T_letI (fun x4 => ?_)
    refine T_istore_n (pc := 34) (lv' := [(0, .ref 7), (1, .int x4)]) dX2_countBack_34 rfl (Nat.le_of_ble_eq_true rfl) rfl ?_
    refine fX2_countBack_P35_T (hk1 := fun s12 => ?_) s3 x4
    · refine T_aload_n (pc := 106) 0 dX2_countBack_106 rfl rfl ?_
      refine T_iconst (pc := 107) (v := 0) dX2_countBack_107 (by decide) ?_
      refine T_callSv (pc := 108) (rest := []) (Rn_V (pc := 108) (as := [.int (0 : Int32)]) (rest := []) (ctX2_lookAhead s12 (0 : Int32)) rfl rfl mv_X2_lookAhead hw966 rfl ⟨Nat.le_of_ble_eq_true rfl, Nat.le_of_ble_eq_true rfl⟩ (Nat.le_of_ble_eq_true rfl) dX2_countBack_108 rfl) rfl (fun s13 => ?_)
      refine T_aload_n (pc := 111) 0 dX2_countBack_111 rfl rfl ?_
      refine T_bipush (pc := 112) (v := 20) dX2_countBack_112 (by decide) ?_
      refine T_aload_n (pc := 114) 0 dX2_countBack_114 rfl rfl ?_
      refine T_callPi (pc := 115) (rest := [.int (20 : Int32), .ref 7]) (Rn_V (pc := 115) (as := []) (rest := [.int (20 : Int32), .ref 7]) (ctX2_startSlot s13) rfl rfl mv_X2_startSlot hw955 rfl ⟨Nat.le_of_ble_eq_true rfl, Nat.le_of_ble_eq_true rfl⟩ (Nat.le_of_ble_eq_true rfl) dX2_countBack_115 rfl) rfl (fun x14 => ?_)
      refine T_callSv (pc := 118) (rest := []) (Rn_V (pc := 118) (as := [.int (20 : Int32), .int x14]) (rest := []) (ctX2_settle s13 (20 : Int32) x14) rfl rfl mv_X2_settle hw983 rfl ⟨Nat.le_of_ble_eq_true rfl, Nat.le_of_ble_eq_true rfl⟩ (Nat.le_of_ble_eq_true rfl) dX2_countBack_118 rfl) rfl (fun s15 => ?_)
      exact T_return (pc := 121) rfl dX2_countBack_121 rfl
set_option maxRecDepth 100000 in
set_option maxHeartbeats 4000000 in
theorem ctX7_changes (σ : St) : Ct yX7_changes kX7_changes [.ref 5] σ (cPi σ) (fX7_changes σ) := by
  refine Ct.of (by decide +kernel) rfl rfl (Nat.le_of_ble_eq_true rfl) ?_
  unfold fX7_changes
  show T _ _ _ 0 [(0, .ref 5)] [] _
  refine T_aload_n (pc := 0) 0 dX7_changes_0 rfl rfl ?_
  refine T_getI (pc := 1) fd_5_9 hw156 dX7_changes_1 ?_
  exact T_ireturn (pc := 4) rfl dX7_changes_4 rfl
set_option maxRecDepth 100000 in
set_option maxHeartbeats 4000000 in
theorem ctX2_areTold (σ : St) (p0 : Int32) : Ct yX2_areTold kX2_areTold [.ref 7, .int p0] σ cSz (fX2_areTold σ p0) := by
  refine Ct.of (by decide +kernel) rfl rfl (Nat.le_of_ble_eq_true rfl) ?_
  unfold fX2_areTold
  show T _ _ _ 0 [(0, .ref 7), (1, .int p0)] [] _
  refine T_aload_n (pc := 0) 0 dX2_areTold_0 rfl rfl ?_
  refine T_getA (pc := 1) fd_7_0 hw325 dX2_areTold_1 ?_
  refine T_iload_n (pc := 4) 1 dX2_areTold_4 rfl rfl ?_
  refine T_callPz (pc := 5) (rest := []) (Rn_V (pc := 5) (as := [.int p0]) (rest := []) (ctX7_haveAll σ p0) rfl rfl mv_X7_haveAll hw928 rfl ⟨Nat.le_of_ble_eq_true rfl, Nat.le_of_ble_eq_true rfl⟩ (Nat.le_of_ble_eq_true rfl) dX2_areTold_5 rfl) rfl (fun x1 => ?_)
  refine T_if_ne (pc := 8) 13 dX2_areTold_8 (by decide) (fun _ => ?_) (fun _ => ?_)
  · refine T_aload_n (pc := 13) 0 dX2_areTold_13 rfl rfl ?_
    refine T_getI (pc := 14) fd_7_14 hw339 dX2_areTold_14 ?_
    refine T_iload_n (pc := 17) 1 dX2_areTold_17 rfl rfl ?_
    refine T_icmp_ne (pc := 18) 37 dX2_areTold_18 (by decide) (fun _ => ?_) (fun _ => ?_)
    · refine T_aload_n (pc := 37) 0 dX2_areTold_37 rfl rfl ?_
      refine T_iconst (pc := 38) (v := 0) dX2_areTold_38 (by decide) ?_
      refine T_putI (pc := 39) fd_7_14 hw339 dX2_areTold_39 ?_
      refine T_letS (fun s2 => ?_)
      refine T_aload_n (pc := 42) 0 dX2_areTold_42 rfl rfl ?_
      refine T_iload_n (pc := 43) 1 dX2_areTold_43 rfl rfl ?_
      refine T_callSz (pc := 44) (rest := []) (Rn_V (pc := 44) (as := [.int p0]) (rest := []) (ctX2_layOut s2 p0) rfl rfl mv_X2_layOut hw933 rfl ⟨Nat.le_of_ble_eq_true rfl, Nat.le_of_ble_eq_true rfl⟩ (Nat.le_of_ble_eq_true rfl) dX2_areTold_44 rfl) rfl (fun r3 => ?_)
      refine T_if_ne (pc := 47) 52 dX2_areTold_47 (by decide) (fun _ => ?_) (fun _ => ?_)
      · refine T_aload_n (pc := 52) 0 dX2_areTold_52 rfl rfl ?_
        refine T_callSv (pc := 53) (rest := []) (Rn_V (pc := 53) (as := []) (rest := []) (ctX2_seeWhatFollows r3.2) rfl rfl mv_X2_seeWhatFollows hw939 rfl ⟨Nat.le_of_ble_eq_true rfl, Nat.le_of_ble_eq_true rfl⟩ (Nat.le_of_ble_eq_true rfl) dX2_areTold_53 rfl) rfl (fun s4 => ?_)
        refine T_aload_n (pc := 56) 0 dX2_areTold_56 rfl rfl ?_
        refine T_callSv (pc := 57) (rest := []) (Rn_V (pc := 57) (as := []) (rest := []) (ctX2_makeRoom s4) rfl rfl mv_X2_makeRoom hw951 rfl ⟨Nat.le_of_ble_eq_true rfl, Nat.le_of_ble_eq_true rfl⟩ (Nat.le_of_ble_eq_true rfl) dX2_areTold_57 rfl) rfl (fun s5 => ?_)
        refine T_aload_n (pc := 60) 0 dX2_areTold_60 rfl rfl ?_
        refine T_callSv (pc := 61) (rest := []) (Rn_V (pc := 61) (as := []) (rest := []) (ctX2_countBack s5) rfl rfl mv_X2_countBack hw962 rfl ⟨Nat.le_of_ble_eq_true rfl, Nat.le_of_ble_eq_true rfl⟩ (Nat.le_of_ble_eq_true rfl) dX2_areTold_61 rfl) rfl (fun s6 => ?_)
        refine T_aload_n (pc := 64) 0 dX2_areTold_64 rfl rfl ?_
        refine T_iload_n (pc := 65) 1 dX2_areTold_65 rfl rfl ?_
        refine T_putI (pc := 66) fd_7_14 hw339 dX2_areTold_66 ?_
        refine T_letS (fun s7 => ?_)
        refine T_aload_n (pc := 69) 0 dX2_areTold_69 rfl rfl ?_
        refine T_aload_n (pc := 70) 0 dX2_areTold_70 rfl rfl ?_
        refine T_getA (pc := 71) fd_7_0 hw325 dX2_areTold_71 ?_
        refine T_callPi (pc := 74) (rest := [.ref 7]) (Rn_V (pc := 74) (as := []) (rest := [.ref 7]) (ctX7_changes s7) rfl rfl mv_X7_changes hw929 rfl ⟨Nat.le_of_ble_eq_true rfl, Nat.le_of_ble_eq_true rfl⟩ (Nat.le_of_ble_eq_true rfl) dX2_areTold_74 rfl) rfl (fun x8 => ?_)
        refine T_putI (pc := 77) fd_7_15 hw340 dX2_areTold_77 ?_
        refine T_letS (fun s9 => ?_)
        refine T_aload_n (pc := 80) 0 dX2_areTold_80 rfl rfl ?_
        refine T_iconst (pc := 81) (v := 0) dX2_areTold_81 (by decide) ?_
        refine T_putZ (pc := 82) fd_7_16 hw341 dX2_areTold_82 rfl rfl ?_
        refine T_letS (fun s10 => ?_)
        refine T_iconst (pc := 85) (v := 1) dX2_areTold_85 (by decide) ?_
        exact T_zreturn (pc := 86) true rfl dX2_areTold_86 rfl rfl
      · refine T_iconst (pc := 50) (v := 0) dX2_areTold_50 (by decide) ?_
        exact T_zreturn (pc := 51) false rfl dX2_areTold_51 rfl rfl
    · refine T_aload_n (pc := 21) 0 dX2_areTold_21 rfl rfl ?_
      refine T_getI (pc := 22) fd_7_15 hw340 dX2_areTold_22 ?_
      refine T_aload_n (pc := 25) 0 dX2_areTold_25 rfl rfl ?_
      refine T_getA (pc := 26) fd_7_0 hw325 dX2_areTold_26 ?_
      refine T_callPi (pc := 29) (rest := [.int (zI σ 24)]) (Rn_V (pc := 29) (as := []) (rest := [.int (zI σ 24)]) (ctX7_changes σ) rfl rfl mv_X7_changes hw929 rfl ⟨Nat.le_of_ble_eq_true rfl, Nat.le_of_ble_eq_true rfl⟩ (Nat.le_of_ble_eq_true rfl) dX2_areTold_29 rfl) rfl (fun x11 => ?_)
      refine T_icmp_ne (pc := 32) 37 dX2_areTold_32 (by decide) (fun _ => ?_) (fun _ => ?_)
      · refine T_aload_n (pc := 37) 0 dX2_areTold_37 rfl rfl ?_
        refine T_iconst (pc := 38) (v := 0) dX2_areTold_38 (by decide) ?_
        refine T_putI (pc := 39) fd_7_14 hw339 dX2_areTold_39 ?_
        refine T_letS (fun s12 => ?_)
        refine T_aload_n (pc := 42) 0 dX2_areTold_42 rfl rfl ?_
        refine T_iload_n (pc := 43) 1 dX2_areTold_43 rfl rfl ?_
        refine T_callSz (pc := 44) (rest := []) (Rn_V (pc := 44) (as := [.int p0]) (rest := []) (ctX2_layOut s12 p0) rfl rfl mv_X2_layOut hw933 rfl ⟨Nat.le_of_ble_eq_true rfl, Nat.le_of_ble_eq_true rfl⟩ (Nat.le_of_ble_eq_true rfl) dX2_areTold_44 rfl) rfl (fun r13 => ?_)
        refine T_if_ne (pc := 47) 52 dX2_areTold_47 (by decide) (fun _ => ?_) (fun _ => ?_)
        · refine T_aload_n (pc := 52) 0 dX2_areTold_52 rfl rfl ?_
          refine T_callSv (pc := 53) (rest := []) (Rn_V (pc := 53) (as := []) (rest := []) (ctX2_seeWhatFollows r13.2) rfl rfl mv_X2_seeWhatFollows hw939 rfl ⟨Nat.le_of_ble_eq_true rfl, Nat.le_of_ble_eq_true rfl⟩ (Nat.le_of_ble_eq_true rfl) dX2_areTold_53 rfl) rfl (fun s14 => ?_)
          refine T_aload_n (pc := 56) 0 dX2_areTold_56 rfl rfl ?_
          refine T_callSv (pc := 57) (rest := []) (Rn_V (pc := 57) (as := []) (rest := []) (ctX2_makeRoom s14) rfl rfl mv_X2_makeRoom hw951 rfl ⟨Nat.le_of_ble_eq_true rfl, Nat.le_of_ble_eq_true rfl⟩ (Nat.le_of_ble_eq_true rfl) dX2_areTold_57 rfl) rfl (fun s15 => ?_)
          refine T_aload_n (pc := 60) 0 dX2_areTold_60 rfl rfl ?_
          refine T_callSv (pc := 61) (rest := []) (Rn_V (pc := 61) (as := []) (rest := []) (ctX2_countBack s15) rfl rfl mv_X2_countBack hw962 rfl ⟨Nat.le_of_ble_eq_true rfl, Nat.le_of_ble_eq_true rfl⟩ (Nat.le_of_ble_eq_true rfl) dX2_areTold_61 rfl) rfl (fun s16 => ?_)
          refine T_aload_n (pc := 64) 0 dX2_areTold_64 rfl rfl ?_
          refine T_iload_n (pc := 65) 1 dX2_areTold_65 rfl rfl ?_
          refine T_putI (pc := 66) fd_7_14 hw339 dX2_areTold_66 ?_
          refine T_letS (fun s17 => ?_)
          refine T_aload_n (pc := 69) 0 dX2_areTold_69 rfl rfl ?_
          refine T_aload_n (pc := 70) 0 dX2_areTold_70 rfl rfl ?_
          refine T_getA (pc := 71) fd_7_0 hw325 dX2_areTold_71 ?_
          refine T_callPi (pc := 74) (rest := [.ref 7]) (Rn_V (pc := 74) (as := []) (rest := [.ref 7]) (ctX7_changes s17) rfl rfl mv_X7_changes hw929 rfl ⟨Nat.le_of_ble_eq_true rfl, Nat.le_of_ble_eq_true rfl⟩ (Nat.le_of_ble_eq_true rfl) dX2_areTold_74 rfl) rfl (fun x18 => ?_)
          refine T_putI (pc := 77) fd_7_15 hw340 dX2_areTold_77 ?_
          refine T_letS (fun s19 => ?_)
          refine T_aload_n (pc := 80) 0 dX2_areTold_80 rfl rfl ?_
          refine T_iconst (pc := 81) (v := 0) dX2_areTold_81 (by decide) ?_
          refine T_putZ (pc := 82) fd_7_16 hw341 dX2_areTold_82 rfl rfl ?_
          refine T_letS (fun s20 => ?_)
          refine T_iconst (pc := 85) (v := 1) dX2_areTold_85 (by decide) ?_
          exact T_zreturn (pc := 86) true rfl dX2_areTold_86 rfl rfl
        · refine T_iconst (pc := 50) (v := 0) dX2_areTold_50 (by decide) ?_
          exact T_zreturn (pc := 51) false rfl dX2_areTold_51 rfl rfl
      · refine T_iconst (pc := 35) (v := 1) dX2_areTold_35 (by decide) ?_
        exact T_zreturn (pc := 36) true rfl dX2_areTold_36 rfl rfl
  · refine T_iconst (pc := 11) (v := 0) dX2_areTold_11 (by decide) ?_
    exact T_zreturn (pc := 12) false rfl dX2_areTold_12 rfl rfl
set_option maxRecDepth 100000 in
set_option maxHeartbeats 4000000 in
theorem ctX2_speeches (σ : St) : Ct yX2_speeches kX2_speeches [.ref 7] σ (cPi σ) (fX2_speeches σ) := by
  refine Ct.of (by decide +kernel) rfl rfl (Nat.le_of_ble_eq_true rfl) ?_
  unfold fX2_speeches
  show T _ _ _ 0 [(0, .ref 7)] [] _
  refine T_aload_n (pc := 0) 0 dX2_speeches_0 rfl rfl ?_
  refine T_getI (pc := 1) fd_7_12 hw337 dX2_speeches_1 ?_
  refine T_if_le (pc := 4) 42 dX2_speeches_4 (by decide) (fun _ => ?_) (fun _ => ?_)
  · refine T_iconst (pc := 42) (v := 0) dX2_speeches_42 (by decide) ?_
    exact T_ireturn (pc := 43) rfl dX2_speeches_43 rfl
  · refine T_aload_n (pc := 7) 0 dX2_speeches_7 rfl rfl ?_
    refine T_getI (pc := 8) fd_7_12 hw337 dX2_speeches_8 ?_
    refine T_bipush (pc := 11) (v := 8) dX2_speeches_11 (by decide) ?_
    refine T_icmp_gt (pc := 13) 42 dX2_speeches_13 (by decide) (fun _ => ?_) (fun _ => ?_)
    · refine T_iconst (pc := 42) (v := 0) dX2_speeches_42 (by decide) ?_
      exact T_ireturn (pc := 43) rfl dX2_speeches_43 rfl
    · refine T_aload_n (pc := 16) 0 dX2_speeches_16 rfl rfl ?_
      refine T_getA (pc := 17) fd_7_5 hw330 dX2_speeches_17 ?_
      refine T_aload_n (pc := 20) 0 dX2_speeches_20 rfl rfl ?_
      refine T_getI (pc := 21) fd_7_12 hw337 dX2_speeches_21 ?_
      refine T_iconst (pc := 24) (v := 1) dX2_speeches_24 (by decide) ?_
      refine T_isub (pc := 25) dX2_speeches_25 ?_
      refine T_iald (pc := 26) rfl dX2_speeches_26 (fun x1 => ?_)
      refine T_aload_n (pc := 27) 0 dX2_speeches_27 rfl rfl ?_
      refine T_getA (pc := 28) fd_7_3 hw328 dX2_speeches_28 ?_
      refine T_aload_n (pc := 31) 0 dX2_speeches_31 rfl rfl ?_
      refine T_getI (pc := 32) fd_7_12 hw337 dX2_speeches_32 ?_
      refine T_iconst (pc := 35) (v := 1) dX2_speeches_35 (by decide) ?_
      refine T_isub (pc := 36) dX2_speeches_36 ?_
      refine T_iald (pc := 37) rfl dX2_speeches_37 (fun x2 => ?_)
      refine T_iadd (pc := 38) dX2_speeches_38 ?_
      refine T_goto (pc := 39) 43 dX2_speeches_39 (by decide) ?_
      exact T_ireturn (pc := 43) rfl dX2_speeches_43 rfl
set_option maxRecDepth 100000 in
set_option maxHeartbeats 4000000 in
theorem fX2_clearSaid_L2_T (σ : St) {kb : St → Int32 → Option St} (hkb : ∀ (σ' : St) (w1 : Int32), T kX2_clearSaid cSv σ' 2 [(0, .ref 7), (1, .int w1)] [] (kb σ' w1)) (v1 : Int32) : T kX2_clearSaid cSv σ 2 [(0, .ref 7), (1, .int v1)] [] (fX2_clearSaid_L2 kb σ v1) := by
  unfold fX2_clearSaid_L2
  refine T_iload_n (pc := 2) 1 dX2_clearSaid_2 rfl rfl ?_
  refine T_aload_n (pc := 3) 0 dX2_clearSaid_3 rfl rfl ?_
  refine T_getA (pc := 4) fd_7_7 hw332 dX2_clearSaid_4 ?_
  refine T_alen (pc := 7) (v := 8) rfl (by decide) dX2_clearSaid_7 ?_
  refine T_icmp_ge (pc := 8) 24 dX2_clearSaid_8 (by decide) (fun _ => ?_) (fun _ => ?_)
  · exact T_return (pc := 24) rfl dX2_clearSaid_24 rfl
  · refine T_aload_n (pc := 11) 0 dX2_clearSaid_11 rfl rfl ?_
    refine T_getA (pc := 12) fd_7_7 hw332 dX2_clearSaid_12 ?_
    refine T_iload_n (pc := 15) 1 dX2_clearSaid_15 rfl rfl ?_
    refine T_iconst (pc := 16) (v := 0) dX2_clearSaid_16 (by decide) ?_
    refine T_iast (pc := 17) rfl dX2_clearSaid_17 ?_
    refine T_letS (fun s1 => ?_)
    refine T_iinc (pc := 18) (y := 1) (lv' := [(0, .ref 7), (1, .int (v1 + (1 : Int32)))]) 1 dX2_clearSaid_18 (by decide) rfl (Nat.le_of_ble_eq_true rfl) rfl ?_
    refine T_goto (pc := 21) 2 dX2_clearSaid_21 (by decide) ?_
    exact hkb s1 (v1 + (1 : Int32))
set_option maxRecDepth 100000 in
set_option maxHeartbeats 4000000 in
theorem fX2_clearSaid_P2_T (σ : St) (v1 : Int32) : T kX2_clearSaid cSv σ 2 [(0, .ref 7), (1, .int v1)] [] (fX2_clearSaid_P2 σ v1) :=
  it_T (S := (fun t : St × Int32 => t.1)) (lv := fun t : St × Int32 => [(0, .ref 7), (1, .int t.2)]) (st := fun _ => []) (fun kb hkb t => fX2_clearSaid_L2_T (hkb := fun σ v1 => hkb (σ, v1)) t.1 t.2) FU (σ, v1)
set_option maxRecDepth 100000 in
set_option maxHeartbeats 4000000 in
theorem ctX2_clearSaid (σ : St) : Ct yX2_clearSaid kX2_clearSaid [.ref 7] σ cSv (fX2_clearSaid σ) := by
  refine Ct.of (by decide +kernel) rfl rfl (Nat.le_of_ble_eq_true rfl) ?_
  unfold fX2_clearSaid
  show T _ _ _ 0 [(0, .ref 7)] [] _
  refine T_iconst (pc := 0) (v := 0) dX2_clearSaid_0 (by decide) ?_
  refine T_istore_n (pc := 1) (lv' := [(0, .ref 7), (1, .int (0 : Int32))]) dX2_clearSaid_1 rfl (Nat.le_of_ble_eq_true rfl) rfl ?_
  exact fX2_clearSaid_P2_T σ (0 : Int32)
set_option maxRecDepth 100000 in
set_option maxHeartbeats 4000000 in
theorem fX2_lowestBest_L8_T (v2 : Int32) (v3 : Int32) (σ : St) {kb : Int32 → Option (Int32 × St)} (hkb : ∀ (w4 : Int32), T kX2_lowestBest cSi σ 8 [(0, .ref 7), (2, .int v2), (3, .int v3), (4, .int w4)] [] (kb w4)) (v4 : Int32) : T kX2_lowestBest cSi σ 8 [(0, .ref 7), (2, .int v2), (3, .int v3), (4, .int v4)] [] (fX2_lowestBest_L8 v2 v3 kb σ v4) := by
  unfold fX2_lowestBest_L8
  refine T_iload (pc := 8) 3 dX2_lowestBest_8 rfl ?_
  refine T_aload_n (pc := 10) 0 dX2_lowestBest_10 rfl rfl ?_
  refine T_getI (pc := 11) fd_7_12 hw337 dX2_lowestBest_11 ?_
  refine T_icmp_ge (pc := 14) 41 dX2_lowestBest_14 (by decide) (fun _ => ?_) (fun _ => ?_)
  · refine T_iconst (pc := 41) (v := 0) dX2_lowestBest_41 (by decide) ?_
    exact T_ireturn (pc := 42) rfl dX2_lowestBest_42 rfl
  · refine T_aload_n (pc := 17) 0 dX2_lowestBest_17 rfl rfl ?_
    refine T_iload (pc := 18) 3 dX2_lowestBest_18 rfl ?_
    refine T_iload_n (pc := 20) 1 dX2_lowestBest_20 rfl rfl ?_
    refine T_callPi (pc := 21) (rest := []) (Rn_V (pc := 21) (as := [.int v4, .int v2]) (rest := []) (ctX2_gapsIfNext σ v4 v2) rfl rfl mv_X2_gapsIfNext hw987 rfl ⟨Nat.le_of_ble_eq_true rfl, Nat.le_of_ble_eq_true rfl⟩ (Nat.le_of_ble_eq_true rfl) dX2_lowestBest_21 rfl) rfl (fun x2 => ?_)
    refine T_aload_n (pc := 24) 0 dX2_lowestBest_24 rfl rfl ?_
    refine T_iload_n (pc := 25) 2 dX2_lowestBest_25 rfl rfl ?_
    refine T_callPi (pc := 26) (rest := [.int x2]) (Rn_V (pc := 26) (as := [.int v3]) (rest := [.int x2]) (ctX2_gapsAt σ v3) rfl rfl mv_X2_gapsAt hw974 rfl ⟨Nat.le_of_ble_eq_true rfl, Nat.le_of_ble_eq_true rfl⟩ (Nat.le_of_ble_eq_true rfl) dX2_lowestBest_26 rfl) rfl (fun x3 => ?_)
    refine T_icmp_ne (pc := 29) 35 dX2_lowestBest_29 (by decide) (fun _ => ?_) (fun _ => ?_)
    · refine T_iinc (pc := 35) (y := 1) (lv' := [(0, .ref 7), (2, .int v2), (3, .int v3), (4, .int (v4 + (1 : Int32)))]) 3 dX2_lowestBest_35 (by decide) rfl (Nat.le_of_ble_eq_true rfl) rfl ?_
      refine T_goto (pc := 38) 8 dX2_lowestBest_38 (by decide) ?_
      exact hkb (v4 + (1 : Int32))
    · refine T_iload (pc := 32) 3 dX2_lowestBest_32 rfl ?_
      exact T_ireturn (pc := 34) rfl dX2_lowestBest_34 rfl
set_option maxRecDepth 100000 in
set_option maxHeartbeats 4000000 in
theorem fX2_lowestBest_P8_T (v2 : Int32) (v3 : Int32) (σ : St) (v4 : Int32) : T kX2_lowestBest cSi σ 8 [(0, .ref 7), (2, .int v2), (3, .int v3), (4, .int v4)] [] (fX2_lowestBest_P8 v2 v3 σ v4) :=
  it_T (S := (fun _ : Int32 => σ)) (lv := fun t : Int32 => [(0, .ref 7), (2, .int v2), (3, .int v3), (4, .int t)]) (st := fun _ => []) (fun kb hkb t => fX2_lowestBest_L8_T v2 v3 (hkb := fun v4 => hkb v4) σ t) FU v4
set_option maxRecDepth 100000 in
set_option maxHeartbeats 4000000 in
theorem ctX2_lowestBest (σ : St) (p0 : Int32) (p1 : Int32) (p2 : Int32) : Ct yX2_lowestBest kX2_lowestBest [.ref 7, .int p0, .int p1, .int p2] σ cSi (fX2_lowestBest σ p0 p1 p2) := by
  refine Ct.of (by decide +kernel) rfl rfl (Nat.le_of_ble_eq_true rfl) ?_
  unfold fX2_lowestBest
  show T _ _ _ 0 [(0, .ref 7), (1, .int p0), (2, .int p1), (3, .int p2)] [] _
  refine T_aload_n (pc := 0) 0 dX2_lowestBest_0 rfl rfl ?_
  refine T_iload_n (pc := 1) 1 dX2_lowestBest_1 rfl rfl ?_
  refine T_callSv (pc := 2) (rest := []) (Rn_V (pc := 2) (as := [.int p0]) (rest := []) (ctX2_lookAhead σ p0) rfl rfl mv_X2_lookAhead hw966 rfl ⟨Nat.le_of_ble_eq_true rfl, Nat.le_of_ble_eq_true rfl⟩ (Nat.le_of_ble_eq_true rfl) dX2_lowestBest_2 rfl) rfl (fun s1 => ?_)
  refine T_iconst (pc := 5) (v := 0) dX2_lowestBest_5 (by decide) ?_
  refine T_istore (pc := 6) (lv' := [(0, .ref 7), (1, .int p0), (2, .int p1), (3, .int p2), (4, .int (0 : Int32))]) dX2_lowestBest_6 (Nat.le_of_ble_eq_true rfl) rfl ?_
  refine T_pick (lv' := [(0, .ref 7), (2, .int p1), (3, .int p2), (4, .int (0 : Int32))]) [0, 2, 3, 4] rfl ?_
  exact fX2_lowestBest_P8_T p1 p2 s1 (0 : Int32)
set_option maxRecDepth 100000 in
set_option maxHeartbeats 4000000 in
theorem fX2_firstAt_L35_T (v1 : Int32) (σ : St) {kb : St → Int32 → Int32 → Int32 → Int32 → Int32 → Option (Int32 × St)} (hkb : ∀ (σ' : St) (w2 : Int32) (w3 : Int32) (w4 : Int32) (w5 : Int32) (w6 : Int32), T kX2_firstAt cSi σ' 35 [(0, .ref 7), (1, .int v1), (2, .int w2), (3, .int w3), (4, .int w4), (5, .int w5), (6, .int w6)] [] (kb σ' w2 w3 w4 w5 w6)) (v2 : Int32) (v3 : Int32) (v4 : Int32) (v5 : Int32) (v6 : Int32) : T kX2_firstAt cSi σ 35 [(0, .ref 7), (1, .int v1), (2, .int v2), (3, .int v3), (4, .int v4), (5, .int v5), (6, .int v6)] [] (fX2_firstAt_L35 v1 kb σ v2 v3 v4 v5 v6) := by
  unfold fX2_firstAt_L35
  refine T_iload (pc := 35) 6 dX2_firstAt_35 rfl ?_
  refine T_iload_n (pc := 37) 1 dX2_firstAt_37 rfl rfl ?_
  refine T_icmp_gt (pc := 38) 123 dX2_firstAt_38 (by decide) (fun _ => ?_) (fun _ => ?_)
  · refine T_iload (pc := 123) 5 dX2_firstAt_123 rfl ?_
    exact T_ireturn (pc := 125) rfl dX2_firstAt_125 rfl
  · refine T_aload_n (pc := 41) 0 dX2_firstAt_41 rfl rfl ?_
    refine T_iload_n (pc := 42) 2 dX2_firstAt_42 rfl rfl ?_
    refine T_iload_n (pc := 43) 3 dX2_firstAt_43 rfl rfl ?_
    refine T_iload (pc := 44) 4 dX2_firstAt_44 rfl ?_
    refine T_callSi (pc := 46) (rest := []) (Rn_V (pc := 46) (as := [.int v2, .int v3, .int v4]) (rest := []) (ctX2_lowestBest σ v2 v3 v4) rfl rfl mv_X2_lowestBest hw1025 rfl ⟨Nat.le_of_ble_eq_true rfl, Nat.le_of_ble_eq_true rfl⟩ (Nat.le_of_ble_eq_true rfl) dX2_firstAt_46 rfl) rfl (fun r4 => ?_)
    refine T_istore (pc := 49) (lv' := [(0, .ref 7), (1, .int v1), (2, .int v2), (3, .int v3), (4, .int v4), (5, .int v5), (6, .int v6), (7, .int r4.1)]) dX2_firstAt_49 (Nat.le_of_ble_eq_true rfl) rfl ?_
    refine T_bipush (pc := 51) (v := 16) dX2_firstAt_51 (by decide) ?_
    refine T_aload_n (pc := 53) 0 dX2_firstAt_53 rfl rfl ?_
    refine T_getA (pc := 54) fd_7_2 hw327 dX2_firstAt_54 ?_
    refine T_iload (pc := 57) 7 dX2_firstAt_57 rfl ?_
    refine T_iald (pc := 59) rfl dX2_firstAt_59 (fun x5 => ?_)
    refine T_imul (pc := 60) dX2_firstAt_60 ?_
    refine T_aload_n (pc := 61) 0 dX2_firstAt_61 rfl rfl ?_
    refine T_getA (pc := 62) fd_7_7 hw332 dX2_firstAt_62 ?_
    refine T_iload (pc := 65) 7 dX2_firstAt_65 rfl ?_
    refine T_iald (pc := 67) rfl dX2_firstAt_67 (fun x6 => ?_)
    refine T_iadd (pc := 68) dX2_firstAt_68 ?_
    refine T_letI (fun x7 => ?_)
    refine T_istore (pc := 69) (lv' := [(0, .ref 7), (1, .int v1), (2, .int v2), (3, .int v3), (4, .int v4), (5, .int x7), (6, .int v6), (7, .int r4.1)]) dX2_firstAt_69 (Nat.le_of_ble_eq_true rfl) rfl ?_
    refine T_aload_n (pc := 71) 0 dX2_firstAt_71 rfl rfl ?_
    refine T_getA (pc := 72) fd_7_5 hw330 dX2_firstAt_72 ?_
    refine T_iload (pc := 75) 7 dX2_firstAt_75 rfl ?_
    refine T_iald (pc := 77) rfl dX2_firstAt_77 (fun x8 => ?_)
    refine T_aload_n (pc := 78) 0 dX2_firstAt_78 rfl rfl ?_
    refine T_getA (pc := 79) fd_7_7 hw332 dX2_firstAt_79 ?_
    refine T_iload (pc := 82) 7 dX2_firstAt_82 rfl ?_
    refine T_iald (pc := 84) rfl dX2_firstAt_84 (fun x9 => ?_)
    refine T_iadd (pc := 85) dX2_firstAt_85 ?_
    refine T_letI (fun x10 => ?_)
    refine T_istore_n (pc := 86) (lv' := [(0, .ref 7), (1, .int v1), (2, .int v2), (3, .int x10), (4, .int v4), (5, .int x7), (6, .int v6), (7, .int r4.1)]) dX2_firstAt_86 rfl (Nat.le_of_ble_eq_true rfl) rfl ?_
    refine T_aload_n (pc := 87) 0 dX2_firstAt_87 rfl rfl ?_
    refine T_iload_n (pc := 88) 2 dX2_firstAt_88 rfl rfl ?_
    refine T_iload (pc := 89) 7 dX2_firstAt_89 rfl ?_
    refine T_callPi (pc := 91) (rest := []) (Rn_V (pc := 91) (as := [.int v2, .int r4.1]) (rest := []) (ctX2_slotBehind r4.2 v2 r4.1) rfl rfl mv_X2_slotBehind hw970 rfl ⟨Nat.le_of_ble_eq_true rfl, Nat.le_of_ble_eq_true rfl⟩ (Nat.le_of_ble_eq_true rfl) dX2_firstAt_91 rfl) rfl (fun x11 => ?_)
    refine T_istore (pc := 94) (lv' := [(0, .ref 7), (1, .int v1), (2, .int v2), (3, .int x10), (4, .int x11), (5, .int x7), (6, .int v6), (7, .int r4.1)]) dX2_firstAt_94 (Nat.le_of_ble_eq_true rfl) rfl ?_
    refine T_iload_n (pc := 96) 2 dX2_firstAt_96 rfl rfl ?_
    refine T_aload_n (pc := 97) 0 dX2_firstAt_97 rfl rfl ?_
    refine T_getA (pc := 98) fd_7_4 hw329 dX2_firstAt_98 ?_
    refine T_iload (pc := 101) 7 dX2_firstAt_101 rfl ?_
    refine T_iald (pc := 103) rfl dX2_firstAt_103 (fun x12 => ?_)
    refine T_iadd (pc := 104) dX2_firstAt_104 ?_
    refine T_letI (fun x13 => ?_)
    refine T_istore_n (pc := 105) (lv' := [(0, .ref 7), (1, .int v1), (2, .int x13), (3, .int x10), (4, .int x11), (5, .int x7), (6, .int v6), (7, .int r4.1)]) dX2_firstAt_105 rfl (Nat.le_of_ble_eq_true rfl) rfl ?_
    refine T_aload_n (pc := 106) 0 dX2_firstAt_106 rfl rfl ?_
    refine T_getA (pc := 107) fd_7_7 hw332 dX2_firstAt_107 ?_
    refine T_iload (pc := 110) 7 dX2_firstAt_110 rfl ?_
    refine T_dup2_ia (pc := 112) dX2_firstAt_112 ?_
    refine T_iald (pc := 113) rfl dX2_firstAt_113 (fun x14 => ?_)
    refine T_iconst (pc := 114) (v := 1) dX2_firstAt_114 (by decide) ?_
    refine T_iadd (pc := 115) dX2_firstAt_115 ?_
    refine T_iast (pc := 116) rfl dX2_firstAt_116 ?_
    refine T_letS (fun s15 => ?_)
    refine T_iinc (pc := 117) (y := 1) (lv' := [(0, .ref 7), (1, .int v1), (2, .int x13), (3, .int x10), (4, .int x11), (5, .int x7), (6, .int (v6 + (1 : Int32))), (7, .int r4.1)]) 6 dX2_firstAt_117 (by decide) rfl (Nat.le_of_ble_eq_true rfl) rfl ?_
    refine T_goto (pc := 120) 35 dX2_firstAt_120 (by decide) ?_
    refine T_pick (lv' := [(0, .ref 7), (1, .int v1), (2, .int x13), (3, .int x10), (4, .int x11), (5, .int x7), (6, .int (v6 + (1 : Int32)))]) [0, 1, 2, 3, 4, 5, 6] rfl ?_
    exact hkb s15 x13 x10 x11 x7 (v6 + (1 : Int32))
set_option maxRecDepth 100000 in
set_option maxHeartbeats 4000000 in
theorem fX2_firstAt_P35_T (v1 : Int32) (σ : St) (v2 : Int32) (v3 : Int32) (v4 : Int32) (v5 : Int32) (v6 : Int32) : T kX2_firstAt cSi σ 35 [(0, .ref 7), (1, .int v1), (2, .int v2), (3, .int v3), (4, .int v4), (5, .int v5), (6, .int v6)] [] (fX2_firstAt_P35 v1 σ v2 v3 v4 v5 v6) :=
  it_T (S := (fun t : St × Int32 × Int32 × Int32 × Int32 × Int32 => t.1)) (lv := fun t : St × Int32 × Int32 × Int32 × Int32 × Int32 => [(0, .ref 7), (1, .int v1), (2, .int t.2.1), (3, .int t.2.2.1), (4, .int t.2.2.2.1), (5, .int t.2.2.2.2.1), (6, .int t.2.2.2.2.2)]) (st := fun _ => []) (fun kb hkb t => fX2_firstAt_L35_T v1 (hkb := fun σ v2 v3 v4 v5 v6 => hkb (σ, v2, v3, v4, v5, v6)) t.1 t.2.1 t.2.2.1 t.2.2.2.1 t.2.2.2.2.1 t.2.2.2.2.2) FU (σ, v2, v3, v4, v5, v6)
set_option maxRecDepth 100000 in
set_option maxHeartbeats 4000000 in
theorem ctX2_firstAt (σ : St) (p0 : Int32) : Ct yX2_firstAt kX2_firstAt [.ref 7, .int p0] σ cSi (fX2_firstAt σ p0) := by
  refine Ct.of (by decide +kernel) rfl rfl (Nat.le_of_ble_eq_true rfl) ?_
  unfold fX2_firstAt
  show T _ _ _ 0 [(0, .ref 7), (1, .int p0)] [] _
  refine T_iload_n (pc := 0) 1 dX2_firstAt_0 rfl rfl ?_
  refine T_if_lt (pc := 1) 12 dX2_firstAt_1 (by decide) (fun _ => ?_) (fun _ => ?_)
  · refine T_iconst (pc := 12) (v := -1) dX2_firstAt_12 (by decide) ?_
    exact T_ireturn (pc := 13) rfl dX2_firstAt_13 rfl
  · refine T_iload_n (pc := 4) 1 dX2_firstAt_4 rfl rfl ?_
    refine T_aload_n (pc := 5) 0 dX2_firstAt_5 rfl rfl ?_
    refine T_callPi (pc := 6) (rest := [.int p0]) (Rn_V (pc := 6) (as := []) (rest := [.int p0]) (ctX2_speeches σ) rfl rfl mv_X2_speeches hw1017 rfl ⟨Nat.le_of_ble_eq_true rfl, Nat.le_of_ble_eq_true rfl⟩ (Nat.le_of_ble_eq_true rfl) dX2_firstAt_6 rfl) rfl (fun x1 => ?_)
    refine T_icmp_lt (pc := 9) 14 dX2_firstAt_9 (by decide) (fun _ => ?_) (fun _ => ?_)
    · refine T_aload_n (pc := 14) 0 dX2_firstAt_14 rfl rfl ?_
      refine T_callSv (pc := 15) (rest := []) (Rn_V (pc := 15) (as := []) (rest := []) (ctX2_clearSaid σ) rfl rfl mv_X2_clearSaid hw1021 rfl ⟨Nat.le_of_ble_eq_true rfl, Nat.le_of_ble_eq_true rfl⟩ (Nat.le_of_ble_eq_true rfl) dX2_firstAt_15 rfl) rfl (fun s2 => ?_)
      refine T_iconst (pc := 18) (v := 0) dX2_firstAt_18 (by decide) ?_
      refine T_istore_n (pc := 19) (lv' := [(0, .ref 7), (1, .int p0), (2, .int (0 : Int32))]) dX2_firstAt_19 rfl (Nat.le_of_ble_eq_true rfl) rfl ?_
      refine T_bipush (pc := 20) (v := 20) dX2_firstAt_20 (by decide) ?_
      refine T_istore_n (pc := 22) (lv' := [(0, .ref 7), (1, .int p0), (2, .int (0 : Int32)), (3, .int (20 : Int32))]) dX2_firstAt_22 rfl (Nat.le_of_ble_eq_true rfl) rfl ?_
      refine T_aload_n (pc := 23) 0 dX2_firstAt_23 rfl rfl ?_
      refine T_callPi (pc := 24) (rest := []) (Rn_V (pc := 24) (as := []) (rest := []) (ctX2_startSlot s2) rfl rfl mv_X2_startSlot hw955 rfl ⟨Nat.le_of_ble_eq_true rfl, Nat.le_of_ble_eq_true rfl⟩ (Nat.le_of_ble_eq_true rfl) dX2_firstAt_24 rfl) rfl (fun x3 => ?_)
      refine T_istore (pc := 27) (lv' := [(0, .ref 7), (1, .int p0), (2, .int (0 : Int32)), (3, .int (20 : Int32)), (4, .int x3)]) dX2_firstAt_27 (Nat.le_of_ble_eq_true rfl) rfl ?_
      refine T_iconst (pc := 29) (v := -1) dX2_firstAt_29 (by decide) ?_
      refine T_istore (pc := 30) (lv' := [(0, .ref 7), (1, .int p0), (2, .int (0 : Int32)), (3, .int (20 : Int32)), (4, .int x3), (5, .int (-1 : Int32))]) dX2_firstAt_30 (Nat.le_of_ble_eq_true rfl) rfl ?_
      refine T_iconst (pc := 32) (v := 0) dX2_firstAt_32 (by decide) ?_
      refine T_istore (pc := 33) (lv' := [(0, .ref 7), (1, .int p0), (2, .int (0 : Int32)), (3, .int (20 : Int32)), (4, .int x3), (5, .int (-1 : Int32)), (6, .int (0 : Int32))]) dX2_firstAt_33 (Nat.le_of_ble_eq_true rfl) rfl ?_
      exact fX2_firstAt_P35_T p0 s2 (0 : Int32) (20 : Int32) x3 (-1 : Int32) (0 : Int32)
    · refine T_iconst (pc := 12) (v := -1) dX2_firstAt_12 (by decide) ?_
      exact T_ireturn (pc := 13) rfl dX2_firstAt_13 rfl
