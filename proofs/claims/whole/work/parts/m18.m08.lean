/-! methods X7_add .. X12_isRoll: by program (wip/gen) -/
set_option maxRecDepth 100000 in
set_option maxHeartbeats 4000000 in
theorem fX7_add_L24_T (σ : St) {k1 : St → Option (Int32 × St)} {kb : St → Int32 → Option (Int32 × St)} (hk1 : ∀ (σ' : St), T kX7_add cSi σ' 106 [(0, .ref 5), (1, .ref 2)] [] (k1 σ')) (hkb : ∀ (σ' : St) (w2 : Int32), T kX7_add cSi σ' 24 [(0, .ref 5), (1, .ref 2), (2, .int w2)] [] (kb σ' w2)) (v2 : Int32) : T kX7_add cSi σ 24 [(0, .ref 5), (1, .ref 2), (2, .int v2)] [] (fX7_add_L24 k1 kb σ v2) := by
  unfold fX7_add_L24
  refine T_iload_n (pc := 24) 2 dX7_add_24 rfl rfl ?_
  refine T_aload_n (pc := 25) 1 dX7_add_25 rfl rfl ?_
  refine T_callPi (pc := 26) (rest := [.int v2]) (Rn_V (pc := 26) (as := []) (rest := [.int v2]) (ctX6_items σ) rfl rfl mv_X6_items hw732 rfl ⟨Nat.le_of_ble_eq_true rfl, Nat.le_of_ble_eq_true rfl⟩ (Nat.le_of_ble_eq_true rfl) dX7_add_26 rfl) rfl (fun x1 => ?_)
  refine T_icmp_ge (pc := 29) 106 dX7_add_29 (by decide) (fun _ => ?_) (fun _ => ?_)
  · refine T_pick (lv' := [(0, .ref 5), (1, .ref 2)]) [0, 1] rfl ?_
    exact hk1 σ
  · refine T_iload_n (pc := 32) 2 dX7_add_32 rfl rfl ?_
    refine T_bipush (pc := 33) (v := 12) dX7_add_33 (by decide) ?_
    refine T_icmp_ge (pc := 35) 106 dX7_add_35 (by decide) (fun _ => ?_) (fun _ => ?_)
    · refine T_pick (lv' := [(0, .ref 5), (1, .ref 2)]) [0, 1] rfl ?_
      exact hk1 σ
    · refine T_aload_n (pc := 38) 0 dX7_add_38 rfl rfl ?_
      refine T_bipush (pc := 39) (v := 16) dX7_add_39 (by decide) ?_
      refine T_aload_n (pc := 41) 0 dX7_add_41 rfl rfl ?_
      refine T_getI (pc := 42) fd_5_8 hw155 dX7_add_42 ?_
      refine T_imul (pc := 45) dX7_add_45 ?_
      refine T_iload_n (pc := 46) 2 dX7_add_46 rfl rfl ?_
      refine T_iadd (pc := 47) dX7_add_47 ?_
      refine T_aload_n (pc := 48) 1 dX7_add_48 rfl rfl ?_
      refine T_iload_n (pc := 49) 2 dX7_add_49 rfl rfl ?_
      refine T_callSv (pc := 50) (rest := []) (Rn_V (pc := 50) (as := [.int (((16 : Int32) * (zI σ 18)) + v2), .ref 2, .int v2]) (rest := []) (ctX7_fill σ (((16 : Int32) * (zI σ 18)) + v2) v2) rfl rfl mv_X7_fill hw736 rfl ⟨Nat.le_of_ble_eq_true rfl, Nat.le_of_ble_eq_true rfl⟩ (Nat.le_of_ble_eq_true rfl) dX7_add_50 rfl) rfl (fun s2 => ?_)
      refine T_aload_n (pc := 53) 0 dX7_add_53 rfl rfl ?_
      refine T_getI (pc := 54) fd_5_7 hw154 dX7_add_54 ?_
      refine T_if_lt (pc := 57) 100 dX7_add_57 (by decide) (fun _ => ?_) (fun _ => ?_)
      · refine T_iinc (pc := 100) (y := 1) (lv' := [(0, .ref 5), (1, .ref 2), (2, .int (v2 + (1 : Int32)))]) 2 dX7_add_100 (by decide) rfl (Nat.le_of_ble_eq_true rfl) rfl ?_
        refine T_goto (pc := 103) 24 dX7_add_103 (by decide) ?_
        exact hkb s2 (v2 + (1 : Int32))
      · refine T_aload_n (pc := 60) 0 dX7_add_60 rfl rfl ?_
        refine T_getI (pc := 61) fd_5_7 hw154 dX7_add_61 ?_
        refine T_aload_n (pc := 64) 0 dX7_add_64 rfl rfl ?_
        refine T_getA (pc := 65) fd_5_6 hw153 dX7_add_65 ?_
        refine T_alen (pc := 68) (v := 96) rfl (by decide) dX7_add_68 ?_
        refine T_icmp_ge (pc := 69) 100 dX7_add_69 (by decide) (fun _ => ?_) (fun _ => ?_)
        · refine T_iinc (pc := 100) (y := 1) (lv' := [(0, .ref 5), (1, .ref 2), (2, .int (v2 + (1 : Int32)))]) 2 dX7_add_100 (by decide) rfl (Nat.le_of_ble_eq_true rfl) rfl ?_
          refine T_goto (pc := 103) 24 dX7_add_103 (by decide) ?_
          exact hkb s2 (v2 + (1 : Int32))
        · refine T_aload_n (pc := 72) 0 dX7_add_72 rfl rfl ?_
          refine T_getA (pc := 73) fd_5_6 hw153 dX7_add_73 ?_
          refine T_aload_n (pc := 76) 0 dX7_add_76 rfl rfl ?_
          refine T_getI (pc := 77) fd_5_7 hw154 dX7_add_77 ?_
          refine T_bipush (pc := 80) (v := 16) dX7_add_80 (by decide) ?_
          refine T_aload_n (pc := 82) 0 dX7_add_82 rfl rfl ?_
          refine T_getI (pc := 83) fd_5_8 hw155 dX7_add_83 ?_
          refine T_imul (pc := 86) dX7_add_86 ?_
          refine T_iload_n (pc := 87) 2 dX7_add_87 rfl rfl ?_
          refine T_iadd (pc := 88) dX7_add_88 ?_
          refine T_iast (pc := 89) rfl dX7_add_89 ?_
          refine T_letS (fun s3 => ?_)
          refine T_aload_n (pc := 90) 0 dX7_add_90 rfl rfl ?_
          refine T_dup_a (pc := 91) dX7_add_91 ?_
          refine T_getI (pc := 92) fd_5_7 hw154 dX7_add_92 ?_
          refine T_iconst (pc := 95) (v := 1) dX7_add_95 (by decide) ?_
          refine T_iadd (pc := 96) dX7_add_96 ?_
          refine T_putI (pc := 97) fd_5_7 hw154 dX7_add_97 ?_
          refine T_letS (fun s4 => ?_)
          refine T_iinc (pc := 100) (y := 1) (lv' := [(0, .ref 5), (1, .ref 2), (2, .int (v2 + (1 : Int32)))]) 2 dX7_add_100 (by decide) rfl (Nat.le_of_ble_eq_true rfl) rfl ?_
          refine T_goto (pc := 103) 24 dX7_add_103 (by decide) ?_
          exact hkb s4 (v2 + (1 : Int32))
set_option maxRecDepth 100000 in
set_option maxHeartbeats 4000000 in
theorem fX7_add_P24_T (σ : St) {k1 : St → Option (Int32 × St)} (hk1 : ∀ (σ' : St), T kX7_add cSi σ' 106 [(0, .ref 5), (1, .ref 2)] [] (k1 σ')) (v2 : Int32) : T kX7_add cSi σ 24 [(0, .ref 5), (1, .ref 2), (2, .int v2)] [] (fX7_add_P24 k1 σ v2) :=
  it_T (S := (fun t : St × Int32 => t.1)) (lv := fun t : St × Int32 => [(0, .ref 5), (1, .ref 2), (2, .int t.2)]) (st := fun _ => []) (fun kb hkb t => fX7_add_L24_T (hk1 := hk1) (hkb := fun σ v2 => hkb (σ, v2)) t.1 t.2) FU (σ, v2)
set_option maxRecDepth 100000 in
set_option maxHeartbeats 4000000 in
theorem ctX7_add (σ : St) : Ct yX7_add kX7_add [.ref 5, .ref 2] σ cSi (fX7_add σ) := by
  refine Ct.of (by decide +kernel) rfl rfl (Nat.le_of_ble_eq_true rfl) ?_
  unfold fX7_add
  show T _ _ _ 0 [(0, .ref 5), (1, .ref 2)] [] _
  refine T_aload_n (pc := 0) 1 dX7_add_0 rfl rfl ?_
  refine T_ifnull_r (pc := 1) dX7_add_1 ?_
  refine T_aload_n (pc := 4) 0 dX7_add_4 rfl rfl ?_
  refine T_getI (pc := 5) fd_5_8 hw155 dX7_add_5 ?_
  refine T_if_lt (pc := 8) 20 dX7_add_8 (by decide) (fun _ => ?_) (fun _ => ?_)
  · refine T_iconst (pc := 20) (v := -1) dX7_add_20 (by decide) ?_
    exact T_ireturn (pc := 21) rfl dX7_add_21 rfl
  · refine T_aload_n (pc := 11) 0 dX7_add_11 rfl rfl ?_
    refine T_getI (pc := 12) fd_5_8 hw155 dX7_add_12 ?_
    refine T_bipush (pc := 15) (v := 8) dX7_add_15 (by decide) ?_
    refine T_icmp_lt (pc := 17) 22 dX7_add_17 (by decide) (fun _ => ?_) (fun _ => ?_)
    · refine T_iconst (pc := 22) (v := 0) dX7_add_22 (by decide) ?_
      refine T_istore_n (pc := 23) (lv' := [(0, .ref 5), (1, .ref 2), (2, .int (0 : Int32))]) dX7_add_23 rfl (Nat.le_of_ble_eq_true rfl) rfl ?_
      refine fX7_add_P24_T (hk1 := fun s5 => ?_) σ (0 : Int32)
      · refine T_aload_n (pc := 106) 0 dX7_add_106 rfl rfl ?_
        refine T_getA (pc := 107) fd_5_0 hw147 dX7_add_107 ?_
        refine T_aload_n (pc := 110) 0 dX7_add_110 rfl rfl ?_
        refine T_getI (pc := 111) fd_5_8 hw155 dX7_add_111 ?_
        refine T_aload_n (pc := 114) 1 dX7_add_114 rfl rfl ?_
        refine T_callPi (pc := 115) (rest := [.int (zI s5 18), .ref 23]) (Rn_V (pc := 115) (as := []) (rest := [.int (zI s5 18), .ref 23]) (ctX6_items s5) rfl rfl mv_X6_items hw732 rfl ⟨Nat.le_of_ble_eq_true rfl, Nat.le_of_ble_eq_true rfl⟩ (Nat.le_of_ble_eq_true rfl) dX7_add_115 rfl) rfl (fun x6 => ?_)
        refine T_iast (pc := 118) rfl dX7_add_118 ?_
        refine T_letS (fun s7 => ?_)
        refine T_aload_n (pc := 119) 0 dX7_add_119 rfl rfl ?_
        refine T_getA (pc := 120) fd_5_1 hw148 dX7_add_120 ?_
        refine T_aload_n (pc := 123) 0 dX7_add_123 rfl rfl ?_
        refine T_getI (pc := 124) fd_5_8 hw155 dX7_add_124 ?_
        refine T_iconst (pc := 127) (v := -1) dX7_add_127 (by decide) ?_
        refine T_iast (pc := 128) rfl dX7_add_128 ?_
        refine T_letS (fun s8 => ?_)
        refine T_aload_n (pc := 129) 0 dX7_add_129 rfl rfl ?_
        refine T_dup_a (pc := 130) dX7_add_130 ?_
        refine T_getI (pc := 131) fd_5_8 hw155 dX7_add_131 ?_
        refine T_iconst (pc := 134) (v := 1) dX7_add_134 (by decide) ?_
        refine T_iadd (pc := 135) dX7_add_135 ?_
        refine T_putI (pc := 136) fd_5_8 hw155 dX7_add_136 ?_
        refine T_letS (fun s9 => ?_)
        refine T_aload_n (pc := 139) 0 dX7_add_139 rfl rfl ?_
        refine T_dup_a (pc := 140) dX7_add_140 ?_
        refine T_getI (pc := 141) fd_5_9 hw156 dX7_add_141 ?_
        refine T_iconst (pc := 144) (v := 1) dX7_add_144 (by decide) ?_
        refine T_iadd (pc := 145) dX7_add_145 ?_
        refine T_putI (pc := 146) fd_5_9 hw156 dX7_add_146 ?_
        refine T_letS (fun s10 => ?_)
        refine T_aload_n (pc := 149) 0 dX7_add_149 rfl rfl ?_
        refine T_getI (pc := 150) fd_5_8 hw155 dX7_add_150 ?_
        refine T_iconst (pc := 153) (v := 1) dX7_add_153 (by decide) ?_
        refine T_isub (pc := 154) dX7_add_154 ?_
        exact T_ireturn (pc := 155) rfl dX7_add_155 rfl
    · refine T_iconst (pc := 20) (v := -1) dX7_add_20 (by decide) ?_
      exact T_ireturn (pc := 21) rfl dX7_add_21 rfl
set_option maxRecDepth 100000 in
set_option maxHeartbeats 4000000 in
theorem ctX3_scenes (σ : St) : Ct yX3_scenes kX3_scenes [.ref 3] σ (cPi σ) (fX3_scenes σ) := by
  refine Ct.of (by decide +kernel) rfl rfl (Nat.le_of_ble_eq_true rfl) ?_
  unfold fX3_scenes
  show T _ _ _ 0 [(0, .ref 3)] [] _
  refine T_aload_n (pc := 0) 0 dX3_scenes_0 rfl rfl ?_
  refine T_getI (pc := 1) fd_3_6 hw270 dX3_scenes_1 ?_
  exact T_ireturn (pc := 4) rfl dX3_scenes_4 rfl
set_option maxRecDepth 100000 in
set_option maxHeartbeats 4000000 in
theorem ctX3_partsIn (σ : St) (p0 : Int32) : Ct yX3_partsIn kX3_partsIn [.ref 3, .int p0] σ (cPi σ) (fX3_partsIn σ p0) := by
  refine Ct.of (by decide +kernel) rfl rfl (Nat.le_of_ble_eq_true rfl) ?_
  unfold fX3_partsIn
  show T _ _ _ 0 [(0, .ref 3), (1, .int p0)] [] _
  refine T_iload_n (pc := 0) 1 dX3_partsIn_0 rfl rfl ?_
  refine T_if_lt (pc := 1) 22 dX3_partsIn_1 (by decide) (fun _ => ?_) (fun _ => ?_)
  · refine T_iconst (pc := 22) (v := 0) dX3_partsIn_22 (by decide) ?_
    exact T_ireturn (pc := 23) rfl dX3_partsIn_23 rfl
  · refine T_iload_n (pc := 4) 1 dX3_partsIn_4 rfl rfl ?_
    refine T_aload_n (pc := 5) 0 dX3_partsIn_5 rfl rfl ?_
    refine T_getA (pc := 6) fd_3_5 hw269 dX3_partsIn_6 ?_
    refine T_alen (pc := 9) (v := 20) rfl (by decide) dX3_partsIn_9 ?_
    refine T_icmp_ge (pc := 10) 22 dX3_partsIn_10 (by decide) (fun _ => ?_) (fun _ => ?_)
    · refine T_iconst (pc := 22) (v := 0) dX3_partsIn_22 (by decide) ?_
      exact T_ireturn (pc := 23) rfl dX3_partsIn_23 rfl
    · refine T_aload_n (pc := 13) 0 dX3_partsIn_13 rfl rfl ?_
      refine T_getA (pc := 14) fd_3_5 hw269 dX3_partsIn_14 ?_
      refine T_iload_n (pc := 17) 1 dX3_partsIn_17 rfl rfl ?_
      refine T_iald (pc := 18) rfl dX3_partsIn_18 (fun x1 => ?_)
      refine T_goto (pc := 19) 23 dX3_partsIn_19 (by decide) ?_
      exact T_ireturn (pc := 23) rfl dX3_partsIn_23 rfl
set_option maxRecDepth 100000 in
set_option maxHeartbeats 4000000 in
theorem fX4_add_L23_T (σ : St) {k1 : St → Option (Int32 × St)} {kb : St → Int32 → Option (Int32 × St)} (hk1 : ∀ (σ' : St), T kX4_add cSi σ' 62 [(0, .ref 9), (1, .ref 3)] [] (k1 σ')) (hkb : ∀ (σ' : St) (w2 : Int32), T kX4_add cSi σ' 23 [(0, .ref 9), (1, .ref 3), (2, .int w2)] [] (kb σ' w2)) (v2 : Int32) : T kX4_add cSi σ 23 [(0, .ref 9), (1, .ref 3), (2, .int v2)] [] (fX4_add_L23 k1 kb σ v2) := by
  unfold fX4_add_L23
  refine T_iload_n (pc := 23) 2 dX4_add_23 rfl rfl ?_
  refine T_aload_n (pc := 24) 1 dX4_add_24 rfl rfl ?_
  refine T_callPi (pc := 25) (rest := [.int v2]) (Rn_V (pc := 25) (as := []) (rest := [.int v2]) (ctX3_scenes σ) rfl rfl mv_X3_scenes hw760 rfl ⟨Nat.le_of_ble_eq_true rfl, Nat.le_of_ble_eq_true rfl⟩ (Nat.le_of_ble_eq_true rfl) dX4_add_25 rfl) rfl (fun x1 => ?_)
  refine T_icmp_ge (pc := 28) 62 dX4_add_28 (by decide) (fun _ => ?_) (fun _ => ?_)
  · refine T_pick (lv' := [(0, .ref 9), (1, .ref 3)]) [0, 1] rfl ?_
    exact hk1 σ
  · refine T_iload_n (pc := 31) 2 dX4_add_31 rfl rfl ?_
    refine T_bipush (pc := 32) (v := 20) dX4_add_32 (by decide) ?_
    refine T_icmp_ge (pc := 34) 62 dX4_add_34 (by decide) (fun _ => ?_) (fun _ => ?_)
    · refine T_pick (lv' := [(0, .ref 9), (1, .ref 3)]) [0, 1] rfl ?_
      exact hk1 σ
    · refine T_aload_n (pc := 37) 0 dX4_add_37 rfl rfl ?_
      refine T_getA (pc := 38) fd_9_0 hw417 dX4_add_38 ?_
      refine T_bipush (pc := 41) (v := 20) dX4_add_41 (by decide) ?_
      refine T_aload_n (pc := 43) 0 dX4_add_43 rfl rfl ?_
      refine T_getI (pc := 44) fd_9_5 hw422 dX4_add_44 ?_
      refine T_imul (pc := 47) dX4_add_47 ?_
      refine T_iload_n (pc := 48) 2 dX4_add_48 rfl rfl ?_
      refine T_iadd (pc := 49) dX4_add_49 ?_
      refine T_aload_n (pc := 50) 1 dX4_add_50 rfl rfl ?_
      refine T_iload_n (pc := 51) 2 dX4_add_51 rfl rfl ?_
      refine T_callPi (pc := 52) (rest := [.int (((20 : Int32) * (zI σ 28)) + v2), .ref 50]) (Rn_V (pc := 52) (as := [.int v2]) (rest := [.int (((20 : Int32) * (zI σ 28)) + v2), .ref 50]) (ctX3_partsIn σ v2) rfl rfl mv_X3_partsIn hw764 rfl ⟨Nat.le_of_ble_eq_true rfl, Nat.le_of_ble_eq_true rfl⟩ (Nat.le_of_ble_eq_true rfl) dX4_add_52 rfl) rfl (fun x2 => ?_)
      refine T_iast (pc := 55) rfl dX4_add_55 ?_
      refine T_letS (fun s3 => ?_)
      refine T_iinc (pc := 56) (y := 1) (lv' := [(0, .ref 9), (1, .ref 3), (2, .int (v2 + (1 : Int32)))]) 2 dX4_add_56 (by decide) rfl (Nat.le_of_ble_eq_true rfl) rfl ?_
      refine T_goto (pc := 59) 23 dX4_add_59 (by decide) ?_
      exact hkb s3 (v2 + (1 : Int32))
set_option maxRecDepth 100000 in
set_option maxHeartbeats 4000000 in
theorem fX4_add_P23_T (σ : St) {k1 : St → Option (Int32 × St)} (hk1 : ∀ (σ' : St), T kX4_add cSi σ' 62 [(0, .ref 9), (1, .ref 3)] [] (k1 σ')) (v2 : Int32) : T kX4_add cSi σ 23 [(0, .ref 9), (1, .ref 3), (2, .int v2)] [] (fX4_add_P23 k1 σ v2) :=
  it_T (S := (fun t : St × Int32 => t.1)) (lv := fun t : St × Int32 => [(0, .ref 9), (1, .ref 3), (2, .int t.2)]) (st := fun _ => []) (fun kb hkb t => fX4_add_L23_T (hk1 := hk1) (hkb := fun σ v2 => hkb (σ, v2)) t.1 t.2) FU (σ, v2)
set_option maxRecDepth 100000 in
set_option maxHeartbeats 4000000 in
theorem ctX4_add (σ : St) : Ct yX4_add kX4_add [.ref 9, .ref 3] σ cSi (fX4_add σ) := by
  refine Ct.of (by decide +kernel) rfl rfl (Nat.le_of_ble_eq_true rfl) ?_
  unfold fX4_add
  show T _ _ _ 0 [(0, .ref 9), (1, .ref 3)] [] _
  refine T_aload_n (pc := 0) 1 dX4_add_0 rfl rfl ?_
  refine T_ifnull_r (pc := 1) dX4_add_1 ?_
  refine T_aload_n (pc := 4) 0 dX4_add_4 rfl rfl ?_
  refine T_getI (pc := 5) fd_9_5 hw422 dX4_add_5 ?_
  refine T_if_lt (pc := 8) 19 dX4_add_8 (by decide) (fun _ => ?_) (fun _ => ?_)
  · refine T_iconst (pc := 19) (v := -1) dX4_add_19 (by decide) ?_
    exact T_ireturn (pc := 20) rfl dX4_add_20 rfl
  · refine T_aload_n (pc := 11) 0 dX4_add_11 rfl rfl ?_
    refine T_getI (pc := 12) fd_9_5 hw422 dX4_add_12 ?_
    refine T_iconst (pc := 15) (v := 4) dX4_add_15 (by decide) ?_
    refine T_icmp_lt (pc := 16) 21 dX4_add_16 (by decide) (fun _ => ?_) (fun _ => ?_)
    · refine T_iconst (pc := 21) (v := 0) dX4_add_21 (by decide) ?_
      refine T_istore_n (pc := 22) (lv' := [(0, .ref 9), (1, .ref 3), (2, .int (0 : Int32))]) dX4_add_22 rfl (Nat.le_of_ble_eq_true rfl) rfl ?_
      refine fX4_add_P23_T (hk1 := fun s4 => ?_) σ (0 : Int32)
      · refine T_aload_n (pc := 62) 0 dX4_add_62 rfl rfl ?_
        refine T_getA (pc := 63) fd_9_1 hw418 dX4_add_63 ?_
        refine T_aload_n (pc := 66) 0 dX4_add_66 rfl rfl ?_
        refine T_getI (pc := 67) fd_9_5 hw422 dX4_add_67 ?_
        refine T_aload_n (pc := 70) 1 dX4_add_70 rfl rfl ?_
        refine T_callPi (pc := 71) (rest := [.int (zI s4 28), .ref 51]) (Rn_V (pc := 71) (as := []) (rest := [.int (zI s4 28), .ref 51]) (ctX3_scenes s4) rfl rfl mv_X3_scenes hw760 rfl ⟨Nat.le_of_ble_eq_true rfl, Nat.le_of_ble_eq_true rfl⟩ (Nat.le_of_ble_eq_true rfl) dX4_add_71 rfl) rfl (fun x5 => ?_)
        refine T_iast (pc := 74) rfl dX4_add_74 ?_
        refine T_letS (fun s6 => ?_)
        refine T_aload_n (pc := 75) 0 dX4_add_75 rfl rfl ?_
        refine T_dup_a (pc := 76) dX4_add_76 ?_
        refine T_getI (pc := 77) fd_9_5 hw422 dX4_add_77 ?_
        refine T_iconst (pc := 80) (v := 1) dX4_add_80 (by decide) ?_
        refine T_iadd (pc := 81) dX4_add_81 ?_
        refine T_putI (pc := 82) fd_9_5 hw422 dX4_add_82 ?_
        refine T_letS (fun s7 => ?_)
        refine T_aload_n (pc := 85) 0 dX4_add_85 rfl rfl ?_
        refine T_getI (pc := 86) fd_9_5 hw422 dX4_add_86 ?_
        refine T_iconst (pc := 89) (v := 1) dX4_add_89 (by decide) ?_
        refine T_isub (pc := 90) dX4_add_90 ?_
        exact T_ireturn (pc := 91) rfl dX4_add_91 rfl
    · refine T_iconst (pc := 19) (v := -1) dX4_add_19 (by decide) ?_
      exact T_ireturn (pc := 20) rfl dX4_add_20 rfl
set_option maxRecDepth 100000 in
set_option maxHeartbeats 4000000 in
theorem fX5_copyTo_h_L2_T (v1 : Nat) (σ : St) {kb : St → Int32 → Option St} (hkb : ∀ (σ' : St) (w2 : Int32), T kX5_copyTo_h cSv σ' 2 [(0, .ref 4), (1, .ref v1), (2, .int w2)] [] (kb σ' w2)) (v2 : Int32) : T kX5_copyTo_h cSv σ 2 [(0, .ref 4), (1, .ref v1), (2, .int v2)] [] (fX5_copyTo_h_L2 v1 kb σ v2) := by
  unfold fX5_copyTo_h_L2
  refine T_aload_n (pc := 2) 1 dX5_copyTo_2 rfl rfl ?_
  refine T_ifnull_r (pc := 3) dX5_copyTo_3 ?_
  refine T_iload_n (pc := 6) 2 dX5_copyTo_6 rfl rfl ?_
  refine T_aload_n (pc := 7) 1 dX5_copyTo_7 rfl rfl ?_
  refine T_alenX (pc := 8) dX5_copyTo_8 ?_
  refine T_icmp_ge (pc := 9) 36 dX5_copyTo_9 (by decide) (fun _ => ?_) (fun _ => ?_)
  · exact T_return (pc := 36) rfl dX5_copyTo_36 rfl
  · refine T_iload_n (pc := 12) 2 dX5_copyTo_12 rfl rfl ?_
    refine T_aload_n (pc := 13) 0 dX5_copyTo_13 rfl rfl ?_
    refine T_getA (pc := 14) fd_4_0 hw237 dX5_copyTo_14 ?_
    refine T_alenL (pc := 17) (v := 201) rfl (by decide) dX5_copyTo_17 ?_
    refine T_icmp_ge (pc := 18) 36 dX5_copyTo_18 (by decide) (fun _ => ?_) (fun _ => ?_)
    · exact T_return (pc := 36) rfl dX5_copyTo_36 rfl
    · refine T_aload_n (pc := 21) 1 dX5_copyTo_21 rfl rfl ?_
      refine T_iload_n (pc := 22) 2 dX5_copyTo_22 rfl rfl ?_
      refine T_aload_n (pc := 23) 0 dX5_copyTo_23 rfl rfl ?_
      refine T_getA (pc := 24) fd_4_0 hw237 dX5_copyTo_24 ?_
      refine T_iload_n (pc := 27) 2 dX5_copyTo_27 rfl rfl ?_
      refine T_lald (pc := 28) rfl dX5_copyTo_28 (fun x1 => ?_)
      refine T_lastX (pc := 29) dX5_copyTo_29 ?_
      refine T_letS (fun s2 => ?_)
      refine T_iinc (pc := 30) (y := 1) (lv' := [(0, .ref 4), (1, .ref v1), (2, .int (v2 + (1 : Int32)))]) 2 dX5_copyTo_30 (by decide) rfl (Nat.le_of_ble_eq_true rfl) rfl ?_
      refine T_goto (pc := 33) 2 dX5_copyTo_33 (by decide) ?_
      exact hkb s2 (v2 + (1 : Int32))
set_option maxRecDepth 100000 in
set_option maxHeartbeats 4000000 in
theorem fX5_copyTo_h_P2_T (v1 : Nat) (σ : St) (v2 : Int32) : T kX5_copyTo_h cSv σ 2 [(0, .ref 4), (1, .ref v1), (2, .int v2)] [] (fX5_copyTo_h_P2 v1 σ v2) :=
  it_T (S := (fun t : St × Int32 => t.1)) (lv := fun t : St × Int32 => [(0, .ref 4), (1, .ref v1), (2, .int t.2)]) (st := fun _ => []) (fun kb hkb t => fX5_copyTo_h_L2_T v1 (hkb := fun σ v2 => hkb (σ, v2)) t.1 t.2) FU (σ, v2)
set_option maxRecDepth 100000 in
set_option maxHeartbeats 4000000 in
theorem ctX5_copyTo_h (σ : St) (p0 : Nat) : Ct yX5_copyTo kX5_copyTo_h [.ref 4, .ref p0] σ cSv (fX5_copyTo_h σ p0) := by
  refine Ct.of (by decide +kernel) rfl rfl (Nat.le_of_ble_eq_true rfl) ?_
  unfold fX5_copyTo_h
  show T _ _ _ 0 [(0, .ref 4), (1, .ref p0)] [] _
  refine T_iconst (pc := 0) (v := 0) dX5_copyTo_0 (by decide) ?_
  refine T_istore_n (pc := 1) (lv' := [(0, .ref 4), (1, .ref p0), (2, .int (0 : Int32))]) dX5_copyTo_1 rfl (Nat.le_of_ble_eq_true rfl) rfl ?_
  exact fX5_copyTo_h_P2_T p0 σ (0 : Int32)
set_option maxRecDepth 100000 in
set_option maxHeartbeats 4000000 in
theorem ctX1_add (σ : St) : Ct yX1_add kX1_add [.ref 4] σ cSi (fX1_add σ) := by
  refine Ct.of (by decide +kernel) rfl rfl (Nat.le_of_ble_eq_true rfl) ?_
  unfold fX1_add
  show T _ _ _ 0 [(0, .ref 4)] [] _
  refine T_aload_n (pc := 0) 0 dX1_add_0 rfl rfl ?_
  refine T_getI (pc := 1) fd_4_6 hw290 dX1_add_1 ?_
  refine T_if_lt (pc := 4) 19 dX1_add_4 (by decide) (fun _ => ?_) (fun _ => ?_)
  · refine T_iconst (pc := 19) (v := -1) dX1_add_19 (by decide) ?_
    exact T_ireturn (pc := 20) rfl dX1_add_20 rfl
  · refine T_aload_n (pc := 7) 0 dX1_add_7 rfl rfl ?_
    refine T_getI (pc := 8) fd_4_6 hw290 dX1_add_8 ?_
    refine T_aload_n (pc := 11) 0 dX1_add_11 rfl rfl ?_
    refine T_getA (pc := 12) fd_4_5 hw289 dX1_add_12 ?_
    refine T_alenQ (pc := 15) rfl dX1_add_15 ?_
    refine T_icmp_lt (pc := 16) 21 dX1_add_16 (by decide) (fun _ => ?_) (fun _ => ?_)
    · refine T_aload_n (pc := 21) 0 dX1_add_21 rfl rfl ?_
      refine T_aload_n (pc := 22) 0 dX1_add_22 rfl rfl ?_
      refine T_getA (pc := 23) fd_4_5 hw289 dX1_add_23 ?_
      refine T_aload_n (pc := 26) 0 dX1_add_26 rfl rfl ?_
      refine T_getI (pc := 27) fd_4_6 hw290 dX1_add_27 ?_
      refine T_aald (pc := 30) rfl dX1_add_30 (fun x1 => ?_)
      refine T_callSv (pc := 31) (rest := []) (Rn_U (pc := 31) (x := ⟨"CueRolls$Habits", "copyTo", "([J)V"⟩) (as := [.ref x1]) (rest := []) (ctX5_copyTo_h σ x1) rfl rfl mu_X1_X1_X5_copyTo hw772 rfl rfl ⟨Nat.le_of_ble_eq_true rfl, Nat.le_of_ble_eq_true rfl⟩ (Nat.le_of_ble_eq_true rfl) dX1_add_31 rfl) rfl (fun s2 => ?_)
      refine T_aload_n (pc := 34) 0 dX1_add_34 rfl rfl ?_
      refine T_dup_a (pc := 35) dX1_add_35 ?_
      refine T_getI (pc := 36) fd_4_6 hw290 dX1_add_36 ?_
      refine T_iconst (pc := 39) (v := 1) dX1_add_39 (by decide) ?_
      refine T_iadd (pc := 40) dX1_add_40 ?_
      refine T_putI (pc := 41) fd_4_6 hw290 dX1_add_41 ?_
      refine T_letS (fun s3 => ?_)
      refine T_aload_n (pc := 44) 0 dX1_add_44 rfl rfl ?_
      refine T_getI (pc := 45) fd_4_6 hw290 dX1_add_45 ?_
      refine T_iconst (pc := 48) (v := 1) dX1_add_48 (by decide) ?_
      refine T_isub (pc := 49) dX1_add_49 ?_
      exact T_ireturn (pc := 50) rfl dX1_add_50 rfl
    · refine T_iconst (pc := 19) (v := -1) dX1_add_19 (by decide) ?_
      exact T_ireturn (pc := 20) rfl dX1_add_20 rfl
set_option maxRecDepth 100000 in
set_option maxHeartbeats 4000000 in
theorem ctX11_stored (σ : St) (p0 : Int32) : Ct yX11_stored kX11_stored [.ref 0, .int p0] σ cSi (fX11_stored σ p0) := by
  refine Ct.of (by decide +kernel) rfl rfl (Nat.le_of_ble_eq_true rfl) ?_
  unfold fX11_stored
  show T _ _ _ 0 [(0, .ref 0), (1, .int p0)] [] _
  refine T_iload_n (pc := 0) 1 dX11_stored_0 rfl rfl ?_
  refine T_ite (fun h0 => ?_) (fun h0 => ?_)
  · refine T_look (pc := 1) (off := 27) 28 dX11_stored_1 (by decide) (by rw [h0]; rfl) (by decide) ?_
    refine T_aload_n (pc := 28) 0 dX11_stored_28 rfl rfl ?_
    refine T_getA (pc := 29) fd_0_4 hw443 dX11_stored_29 ?_
    refine T_aload_n (pc := 32) 0 dX11_stored_32 rfl rfl ?_
    refine T_getA (pc := 33) fd_0_1 hw440 dX11_stored_33 ?_
    refine T_callSi (pc := 36) (rest := []) (Rn_V (pc := 36) (as := [.ref 2]) (rest := []) (ctX7_add σ) rfl rfl mv_X7_add hw728 rfl ⟨Nat.le_of_ble_eq_true rfl, Nat.le_of_ble_eq_true rfl⟩ (Nat.le_of_ble_eq_true rfl) dX11_stored_36 rfl) rfl (fun r1 => ?_)
    exact T_ireturn (pc := 39) rfl dX11_stored_39 rfl
  · refine T_ite (fun h1 => ?_) (fun h1 => ?_)
    · refine T_look (pc := 1) (off := 39) 40 dX11_stored_1 (by decide) (by rw [h1]; rfl) (by decide) ?_
      refine T_aload_n (pc := 40) 0 dX11_stored_40 rfl rfl ?_
      refine T_getA (pc := 41) fd_0_8 hw447 dX11_stored_41 ?_
      refine T_aload_n (pc := 44) 0 dX11_stored_44 rfl rfl ?_
      refine T_getA (pc := 45) fd_0_2 hw441 dX11_stored_45 ?_
      refine T_callSi (pc := 48) (rest := []) (Rn_V (pc := 48) (as := [.ref 3]) (rest := []) (ctX4_add σ) rfl rfl mv_X4_add hw756 rfl ⟨Nat.le_of_ble_eq_true rfl, Nat.le_of_ble_eq_true rfl⟩ (Nat.le_of_ble_eq_true rfl) dX11_stored_48 rfl) rfl (fun r2 => ?_)
      exact T_ireturn (pc := 51) rfl dX11_stored_51 rfl
    · refine T_look (pc := 1) (off := 51) 52 dX11_stored_1 (by decide) (by show Op.lookupswitch.offset [(0, 27), (1, 39)] _ _ = _; rw [lv_osw (a := 0) (k := 0) h0 (by decide), lv_osw (a := 1) (k := 1) h1 (by decide)]; rfl) (by decide) ?_
      refine T_aload_n (pc := 52) 0 dX11_stored_52 rfl rfl ?_
      refine T_getA (pc := 53) fd_0_3 hw442 dX11_stored_53 ?_
      refine T_callSi (pc := 56) (rest := []) (Rn_V (pc := 56) (as := []) (rest := []) (ctX1_add σ) rfl rfl mv_X1_add hw768 rfl ⟨Nat.le_of_ble_eq_true rfl, Nat.le_of_ble_eq_true rfl⟩ (Nat.le_of_ble_eq_true rfl) dX11_stored_56 rfl) rfl (fun r3 => ?_)
      exact T_ireturn (pc := 59) rfl dX11_stored_59 rfl
set_option maxRecDepth 100000 in
set_option maxHeartbeats 4000000 in
theorem fX2_numberOf_L2_T (v1 : Int32) (σ : St) {kb : Int32 → Option Int32} (hkb : ∀ (w2 : Int32), T kX2_numberOf (cPi σ) σ 2 [(0, .ref 7), (1, .int v1), (2, .int w2)] [] (kb w2)) (v2 : Int32) : T kX2_numberOf (cPi σ) σ 2 [(0, .ref 7), (1, .int v1), (2, .int v2)] [] (fX2_numberOf_L2 v1 kb σ v2) := by
  unfold fX2_numberOf_L2
  refine T_iload_n (pc := 2) 2 dX2_numberOf_2 rfl rfl ?_
  refine T_aload_n (pc := 3) 0 dX2_numberOf_3 rfl rfl ?_
  refine T_getI (pc := 4) fd_7_12 hw337 dX2_numberOf_4 ?_
  refine T_icmp_ge (pc := 7) 41 dX2_numberOf_7 (by decide) (fun _ => ?_) (fun _ => ?_)
  · refine T_iconst (pc := 41) (v := 0) dX2_numberOf_41 (by decide) ?_
    exact T_ireturn (pc := 42) rfl dX2_numberOf_42 rfl
  · refine T_aload_n (pc := 10) 0 dX2_numberOf_10 rfl rfl ?_
    refine T_getA (pc := 11) fd_7_2 hw327 dX2_numberOf_11 ?_
    refine T_iload_n (pc := 14) 2 dX2_numberOf_14 rfl rfl ?_
    refine T_iald (pc := 15) rfl dX2_numberOf_15 (fun x1 => ?_)
    refine T_iload_n (pc := 16) 1 dX2_numberOf_16 rfl rfl ?_
    refine T_callPi (pc := 17) (rest := [.int x1]) (Rn_S (pc := 17) (as := [.int v1]) (rest := [.int x1]) (ctX7_rollOf σ v1) ms_X7_rollOf hw948 rfl ⟨Nat.le_of_ble_eq_true rfl, Nat.le_of_ble_eq_true rfl⟩ (Nat.le_of_ble_eq_true rfl) dX2_numberOf_17 rfl) rfl (fun x2 => ?_)
    refine T_icmp_ne (pc := 20) 35 dX2_numberOf_20 (by decide) (fun _ => ?_) (fun _ => ?_)
    · refine T_iinc (pc := 35) (y := 1) (lv' := [(0, .ref 7), (1, .int v1), (2, .int (v2 + (1 : Int32)))]) 2 dX2_numberOf_35 (by decide) rfl (Nat.le_of_ble_eq_true rfl) rfl ?_
      refine T_goto (pc := 38) 2 dX2_numberOf_38 (by decide) ?_
      exact hkb (v2 + (1 : Int32))
    · refine T_aload_n (pc := 23) 0 dX2_numberOf_23 rfl rfl ?_
      refine T_getA (pc := 24) fd_7_5 hw330 dX2_numberOf_24 ?_
      refine T_iload_n (pc := 27) 2 dX2_numberOf_27 rfl rfl ?_
      refine T_iald (pc := 28) rfl dX2_numberOf_28 (fun x3 => ?_)
      refine T_iload_n (pc := 29) 1 dX2_numberOf_29 rfl rfl ?_
      refine T_bipush (pc := 30) (v := 16) dX2_numberOf_30 (by decide) ?_
      refine T_irem (pc := 32) dX2_numberOf_32 ?_
      refine T_iadd (pc := 33) dX2_numberOf_33 ?_
      exact T_ireturn (pc := 34) rfl dX2_numberOf_34 rfl
set_option maxRecDepth 100000 in
set_option maxHeartbeats 4000000 in
theorem fX2_numberOf_P2_T (v1 : Int32) (σ : St) (v2 : Int32) : T kX2_numberOf (cPi σ) σ 2 [(0, .ref 7), (1, .int v1), (2, .int v2)] [] (fX2_numberOf_P2 v1 σ v2) :=
  it_T (S := (fun _ : Int32 => σ)) (lv := fun t : Int32 => [(0, .ref 7), (1, .int v1), (2, .int t)]) (st := fun _ => []) (fun kb hkb t => fX2_numberOf_L2_T v1 (hkb := fun v2 => hkb v2) σ t) FU v2
set_option maxRecDepth 100000 in
set_option maxHeartbeats 4000000 in
theorem ctX2_numberOf (σ : St) (p0 : Int32) : Ct yX2_numberOf kX2_numberOf [.ref 7, .int p0] σ (cPi σ) (fX2_numberOf σ p0) := by
  refine Ct.of (by decide +kernel) rfl rfl (Nat.le_of_ble_eq_true rfl) ?_
  unfold fX2_numberOf
  show T _ _ _ 0 [(0, .ref 7), (1, .int p0)] [] _
  refine T_iconst (pc := 0) (v := 0) dX2_numberOf_0 (by decide) ?_
  refine T_istore_n (pc := 1) (lv' := [(0, .ref 7), (1, .int p0), (2, .int (0 : Int32))]) dX2_numberOf_1 rfl (Nat.le_of_ble_eq_true rfl) rfl ?_
  exact fX2_numberOf_P2_T p0 σ (0 : Int32)
set_option maxRecDepth 100000 in
set_option maxHeartbeats 4000000 in
theorem fX2_clearPairs_L26_T (σ : St) {k1 : St → Option St} {kb : St → Int32 → Option St} (hk1 : ∀ (σ' : St), T kX2_clearPairs cSv σ' 48 [(0, .ref 7)] [] (k1 σ')) (hkb : ∀ (σ' : St) (w1 : Int32), T kX2_clearPairs cSv σ' 26 [(0, .ref 7), (1, .int w1)] [] (kb σ' w1)) (v1 : Int32) : T kX2_clearPairs cSv σ 26 [(0, .ref 7), (1, .int v1)] [] (fX2_clearPairs_L26 k1 kb σ v1) := by
  unfold fX2_clearPairs_L26
  refine T_iload_n (pc := 26) 1 dX2_clearPairs_26 rfl rfl ?_
  refine T_aload_n (pc := 27) 0 dX2_clearPairs_27 rfl rfl ?_
  refine T_getA (pc := 28) fd_7_18 hw343 dX2_clearPairs_28 ?_
  refine T_alenN (pc := 31) rfl dX2_clearPairs_31 ?_
  refine T_icmp_ge (pc := 32) 48 dX2_clearPairs_32 (by decide) (fun _ => ?_) (fun _ => ?_)
  · refine T_pick (lv' := [(0, .ref 7)]) [0] rfl ?_
    exact hk1 σ
  · refine T_aload_n (pc := 35) 0 dX2_clearPairs_35 rfl rfl ?_
    refine T_getA (pc := 36) fd_7_18 hw343 dX2_clearPairs_36 ?_
    refine T_iload_n (pc := 39) 1 dX2_clearPairs_39 rfl rfl ?_
    refine T_lconst (pc := 40) (v := 0) dX2_clearPairs_40 (by decide) ?_
    refine T_lastN (pc := 41) rfl dX2_clearPairs_41 ?_
    refine T_letS (fun s1 => ?_)
    refine T_iinc (pc := 42) (y := 1) (lv' := [(0, .ref 7), (1, .int (v1 + (1 : Int32)))]) 1 dX2_clearPairs_42 (by decide) rfl (Nat.le_of_ble_eq_true rfl) rfl ?_
    refine T_goto (pc := 45) 26 dX2_clearPairs_45 (by decide) ?_
    exact hkb s1 (v1 + (1 : Int32))
set_option maxRecDepth 100000 in
set_option maxHeartbeats 4000000 in
theorem fX2_clearPairs_P26_T (σ : St) {k1 : St → Option St} (hk1 : ∀ (σ' : St), T kX2_clearPairs cSv σ' 48 [(0, .ref 7)] [] (k1 σ')) (v1 : Int32) : T kX2_clearPairs cSv σ 26 [(0, .ref 7), (1, .int v1)] [] (fX2_clearPairs_P26 k1 σ v1) :=
  it_T (S := (fun t : St × Int32 => t.1)) (lv := fun t : St × Int32 => [(0, .ref 7), (1, .int t.2)]) (st := fun _ => []) (fun kb hkb t => fX2_clearPairs_L26_T (hk1 := hk1) (hkb := fun σ v1 => hkb (σ, v1)) t.1 t.2) FU (σ, v1)
set_option maxRecDepth 100000 in
set_option maxHeartbeats 4000000 in
theorem fX2_clearPairs_L50_T (σ : St) {kb : St → Int32 → Option St} (hkb : ∀ (σ' : St) (w1 : Int32), T kX2_clearPairs cSv σ' 50 [(0, .ref 7), (1, .int w1)] [] (kb σ' w1)) (v1 : Int32) : T kX2_clearPairs cSv σ 50 [(0, .ref 7), (1, .int v1)] [] (fX2_clearPairs_L50 kb σ v1) := by
  unfold fX2_clearPairs_L50
  refine T_iload_n (pc := 50) 1 dX2_clearPairs_50 rfl rfl ?_
  refine T_aload_n (pc := 51) 0 dX2_clearPairs_51 rfl rfl ?_
  refine T_getA (pc := 52) fd_7_11 hw336 dX2_clearPairs_52 ?_
  refine T_alenL (pc := 55) (v := 420) rfl (by decide) dX2_clearPairs_55 ?_
  refine T_icmp_ge (pc := 56) 72 dX2_clearPairs_56 (by decide) (fun _ => ?_) (fun _ => ?_)
  · exact T_return (pc := 72) rfl dX2_clearPairs_72 rfl
  · refine T_aload_n (pc := 59) 0 dX2_clearPairs_59 rfl rfl ?_
    refine T_getA (pc := 60) fd_7_11 hw336 dX2_clearPairs_60 ?_
    refine T_iload_n (pc := 63) 1 dX2_clearPairs_63 rfl rfl ?_
    refine T_lconst (pc := 64) (v := 0) dX2_clearPairs_64 (by decide) ?_
    refine T_last (pc := 65) rfl dX2_clearPairs_65 ?_
    refine T_letS (fun s3 => ?_)
    refine T_iinc (pc := 66) (y := 1) (lv' := [(0, .ref 7), (1, .int (v1 + (1 : Int32)))]) 1 dX2_clearPairs_66 (by decide) rfl (Nat.le_of_ble_eq_true rfl) rfl ?_
    refine T_goto (pc := 69) 50 dX2_clearPairs_69 (by decide) ?_
    exact hkb s3 (v1 + (1 : Int32))
set_option maxRecDepth 100000 in
set_option maxHeartbeats 4000000 in
theorem fX2_clearPairs_P50_T (σ : St) (v1 : Int32) : T kX2_clearPairs cSv σ 50 [(0, .ref 7), (1, .int v1)] [] (fX2_clearPairs_P50 σ v1) :=
  it_T (S := (fun t : St × Int32 => t.1)) (lv := fun t : St × Int32 => [(0, .ref 7), (1, .int t.2)]) (st := fun _ => []) (fun kb hkb t => fX2_clearPairs_L50_T (hkb := fun σ v1 => hkb (σ, v1)) t.1 t.2) FU (σ, v1)
set_option maxRecDepth 100000 in
set_option maxHeartbeats 4000000 in
theorem ctX2_clearPairs (σ : St) : Ct yX2_clearPairs kX2_clearPairs [.ref 7] σ cSv (fX2_clearPairs σ) := by
  refine Ct.of (by decide +kernel) rfl rfl (Nat.le_of_ble_eq_true rfl) ?_
  unfold fX2_clearPairs
  show T _ _ _ 0 [(0, .ref 7)] [] _
  refine T_aload_n (pc := 0) 0 dX2_clearPairs_0 rfl rfl ?_
  refine T_getA (pc := 1) fd_7_18 hw343 dX2_clearPairs_1 ?_
  refine T_alenN (pc := 4) rfl dX2_clearPairs_4 ?_
  refine T_aload_n (pc := 5) 0 dX2_clearPairs_5 rfl rfl ?_
  refine T_getA (pc := 6) fd_7_17 hw342 dX2_clearPairs_6 ?_
  refine T_alenN (pc := 9) rfl dX2_clearPairs_9 ?_
  refine T_icmp_ge (pc := 10) 24 dX2_clearPairs_10 (by decide) (fun _ => ?_) (fun _ => ?_)
  · refine T_iconst (pc := 24) (v := 0) dX2_clearPairs_24 (by decide) ?_
    refine T_istore_n (pc := 25) (lv' := [(0, .ref 7), (1, .int (0 : Int32))]) dX2_clearPairs_25 rfl (Nat.le_of_ble_eq_true rfl) rfl ?_
    refine fX2_clearPairs_P26_T (hk1 := fun s2 => ?_) σ (0 : Int32)
    · refine T_iconst (pc := 48) (v := 0) dX2_clearPairs_48 (by decide) ?_
      refine T_istore_n (pc := 49) (lv' := [(0, .ref 7), (1, .int (0 : Int32))]) dX2_clearPairs_49 rfl (Nat.le_of_ble_eq_true rfl) rfl ?_
      exact fX2_clearPairs_P50_T s2 (0 : Int32)
  · refine T_aload_n (pc := 13) 0 dX2_clearPairs_13 rfl rfl ?_
    refine T_aload_n (pc := 14) 0 dX2_clearPairs_14 rfl rfl ?_
    refine T_getA (pc := 15) fd_7_17 hw342 dX2_clearPairs_15 ?_
    refine T_alenN (pc := 18) rfl dX2_clearPairs_18 ?_
    refine T_newL2 (pc := 19) (id := 46) (j := 18) rfl rfl (by decide) hw179 fd_7_18 hw343 dX2_clearPairs_19 dX2_clearPairs_21 rfl ?_
    refine T_letS (fun s4 => ?_)
    refine T_iconst (pc := 24) (v := 0) dX2_clearPairs_24 (by decide) ?_
    refine T_istore_n (pc := 25) (lv' := [(0, .ref 7), (1, .int (0 : Int32))]) dX2_clearPairs_25 rfl (Nat.le_of_ble_eq_true rfl) rfl ?_
    refine fX2_clearPairs_P26_T (hk1 := fun s5 => ?_) s4 (0 : Int32)
    · refine T_iconst (pc := 48) (v := 0) dX2_clearPairs_48 (by decide) ?_
      refine T_istore_n (pc := 49) (lv' := [(0, .ref 7), (1, .int (0 : Int32))]) dX2_clearPairs_49 rfl (Nat.le_of_ble_eq_true rfl) rfl ?_
      exact fX2_clearPairs_P50_T s5 (0 : Int32)
set_option maxRecDepth 100000 in
set_option maxHeartbeats 4000000 in
theorem fX2_spread_L3_T (v1 : Int32) (v2 : Int32) (v3 : Int32) (v4 : Int64) (σ : St) {kb : St → Int32 → Option St} (hkb : ∀ (σ' : St) (w6 : Int32), T kX2_spread cSv σ' 3 [(0, .ref 7), (1, .int v1), (2, .int v2), (3, .int v3), (4, .long v4), (6, .int w6)] [] (kb σ' w6)) (v6 : Int32) : T kX2_spread cSv σ 3 [(0, .ref 7), (1, .int v1), (2, .int v2), (3, .int v3), (4, .long v4), (6, .int v6)] [] (fX2_spread_L3 v1 v2 v3 v4 kb σ v6) := by
  unfold fX2_spread_L3
  refine T_iload (pc := 3) 5 dX2_spread_3 rfl ?_
  refine T_aload_n (pc := 5) 0 dX2_spread_5 rfl rfl ?_
  refine T_getI (pc := 6) fd_7_12 hw337 dX2_spread_6 ?_
  refine T_icmp_ge (pc := 9) 116 dX2_spread_9 (by decide) (fun _ => ?_) (fun _ => ?_)
  · exact T_return (pc := 116) rfl dX2_spread_116 rfl
  · refine T_aload_n (pc := 12) 0 dX2_spread_12 rfl rfl ?_
    refine T_iload (pc := 13) 5 dX2_spread_13 rfl ?_
    refine T_iload_n (pc := 15) 2 dX2_spread_15 rfl rfl ?_
    refine T_callPi (pc := 16) (rest := []) (Rn_V (pc := 16) (as := [.int v6, .int v2]) (rest := []) (ctX2_gapsIfNext σ v6 v2) rfl rfl mv_X2_gapsIfNext hw987 rfl ⟨Nat.le_of_ble_eq_true rfl, Nat.le_of_ble_eq_true rfl⟩ (Nat.le_of_ble_eq_true rfl) dX2_spread_16 rfl) rfl (fun x1 => ?_)
    refine T_aload_n (pc := 19) 0 dX2_spread_19 rfl rfl ?_
    refine T_iload_n (pc := 20) 3 dX2_spread_20 rfl rfl ?_
    refine T_callPi (pc := 21) (rest := [.int x1]) (Rn_V (pc := 21) (as := [.int v3]) (rest := [.int x1]) (ctX2_gapsAt σ v3) rfl rfl mv_X2_gapsAt hw974 rfl ⟨Nat.le_of_ble_eq_true rfl, Nat.le_of_ble_eq_true rfl⟩ (Nat.le_of_ble_eq_true rfl) dX2_spread_21 rfl) rfl (fun x2 => ?_)
    refine T_icmp_ne (pc := 24) 110 dX2_spread_24 (by decide) (fun _ => ?_) (fun _ => ?_)
    · refine T_iinc (pc := 110) (y := 1) (lv' := [(0, .ref 7), (1, .int v1), (2, .int v2), (3, .int v3), (4, .long v4), (6, .int (v6 + (1 : Int32)))]) 5 dX2_spread_110 (by decide) rfl (Nat.le_of_ble_eq_true rfl) rfl ?_
      refine T_goto (pc := 113) 3 dX2_spread_113 (by decide) ?_
      exact hkb σ (v6 + (1 : Int32))
    · refine T_aload_n (pc := 27) 0 dX2_spread_27 rfl rfl ?_
      refine T_iload_n (pc := 28) 1 dX2_spread_28 rfl rfl ?_
      refine T_iload (pc := 29) 5 dX2_spread_29 rfl ?_
      refine T_callPi (pc := 31) (rest := []) (Rn_V (pc := 31) (as := [.int v1, .int v6]) (rest := []) (ctX2_slotBehind σ v1 v6) rfl rfl mv_X2_slotBehind hw970 rfl ⟨Nat.le_of_ble_eq_true rfl, Nat.le_of_ble_eq_true rfl⟩ (Nat.le_of_ble_eq_true rfl) dX2_spread_31 rfl) rfl (fun x3 => ?_)
      refine T_istore (pc := 34) (lv' := [(0, .ref 7), (1, .int v1), (2, .int v2), (3, .int v3), (4, .long v4), (6, .int v6), (7, .int x3)]) dX2_spread_34 (Nat.le_of_ble_eq_true rfl) rfl ?_
      refine T_bipush (pc := 36) (v := 20) dX2_spread_36 (by decide) ?_
      refine T_iload_n (pc := 38) 2 dX2_spread_38 rfl rfl ?_
      refine T_imul (pc := 39) dX2_spread_39 ?_
      refine T_aload_n (pc := 40) 0 dX2_spread_40 rfl rfl ?_
      refine T_getA (pc := 41) fd_7_5 hw330 dX2_spread_41 ?_
      refine T_iload (pc := 44) 5 dX2_spread_44 rfl ?_
      refine T_iald (pc := 46) rfl dX2_spread_46 (fun x4 => ?_)
      refine T_iadd (pc := 47) dX2_spread_47 ?_
      refine T_aload_n (pc := 48) 0 dX2_spread_48 rfl rfl ?_
      refine T_getA (pc := 49) fd_7_7 hw332 dX2_spread_49 ?_
      refine T_iload (pc := 52) 5 dX2_spread_52 rfl ?_
      refine T_iald (pc := 54) rfl dX2_spread_54 (fun x5 => ?_)
      refine T_iadd (pc := 55) dX2_spread_55 ?_
      refine T_letI (fun x6 => ?_)
      refine T_istore (pc := 56) (lv' := [(0, .ref 7), (1, .int v1), (2, .int v2), (3, .int v3), (4, .long v4), (6, .int v6), (7, .int x3), (8, .int x6)]) dX2_spread_56 (Nat.le_of_ble_eq_true rfl) rfl ?_
      refine T_iload (pc := 58) 6 dX2_spread_58 rfl ?_
      refine T_aload_n (pc := 60) 0 dX2_spread_60 rfl rfl ?_
      refine T_getA (pc := 61) fd_7_18 hw343 dX2_spread_61 ?_
      refine T_alenN (pc := 64) rfl dX2_spread_64 ?_
      refine T_icmp_ge (pc := 65) 110 dX2_spread_65 (by decide) (fun _ => ?_) (fun _ => ?_)
      · refine T_iinc (pc := 110) (y := 1) (lv' := [(0, .ref 7), (1, .int v1), (2, .int v2), (3, .int v3), (4, .long v4), (6, .int (v6 + (1 : Int32))), (7, .int x3), (8, .int x6)]) 5 dX2_spread_110 (by decide) rfl (Nat.le_of_ble_eq_true rfl) rfl ?_
        refine T_goto (pc := 113) 3 dX2_spread_113 (by decide) ?_
        refine T_pick (lv' := [(0, .ref 7), (1, .int v1), (2, .int v2), (3, .int v3), (4, .long v4), (6, .int (v6 + (1 : Int32)))]) [0, 1, 2, 3, 4, 5] rfl ?_
        exact hkb σ (v6 + (1 : Int32))
      · refine T_iload (pc := 68) 7 dX2_spread_68 rfl ?_
        refine T_aload_n (pc := 70) 0 dX2_spread_70 rfl rfl ?_
        refine T_getA (pc := 71) fd_7_11 hw336 dX2_spread_71 ?_
        refine T_alenL (pc := 74) (v := 420) rfl (by decide) dX2_spread_74 ?_
        refine T_icmp_ge (pc := 75) 110 dX2_spread_75 (by decide) (fun _ => ?_) (fun _ => ?_)
        · refine T_iinc (pc := 110) (y := 1) (lv' := [(0, .ref 7), (1, .int v1), (2, .int v2), (3, .int v3), (4, .long v4), (6, .int (v6 + (1 : Int32))), (7, .int x3), (8, .int x6)]) 5 dX2_spread_110 (by decide) rfl (Nat.le_of_ble_eq_true rfl) rfl ?_
          refine T_goto (pc := 113) 3 dX2_spread_113 (by decide) ?_
          refine T_pick (lv' := [(0, .ref 7), (1, .int v1), (2, .int v2), (3, .int v3), (4, .long v4), (6, .int (v6 + (1 : Int32)))]) [0, 1, 2, 3, 4, 5] rfl ?_
          exact hkb σ (v6 + (1 : Int32))
        · refine T_aload_n (pc := 78) 0 dX2_spread_78 rfl rfl ?_
          refine T_getA (pc := 79) fd_7_18 hw343 dX2_spread_79 ?_
          refine T_iload (pc := 82) 6 dX2_spread_82 rfl ?_
          refine T_dup2_ia (pc := 84) dX2_spread_84 ?_
          refine T_laldN (pc := 85) rfl dX2_spread_85 (fun x7 => ?_)
          refine T_lload (pc := 86) 4 dX2_spread_86 rfl ?_
          refine T_ladd (pc := 88) dX2_spread_88 ?_
          refine T_lastN (pc := 89) rfl dX2_spread_89 ?_
          refine T_letS (fun s8 => ?_)
          refine T_aload_n (pc := 90) 0 dX2_spread_90 rfl rfl ?_
          refine T_getA (pc := 91) fd_7_11 hw336 dX2_spread_91 ?_
          refine T_iload (pc := 94) 7 dX2_spread_94 rfl ?_
          refine T_dup2_ia (pc := 96) dX2_spread_96 ?_
          refine T_lald (pc := 97) rfl dX2_spread_97 (fun x9 => ?_)
          refine T_lload (pc := 98) 4 dX2_spread_98 rfl ?_
          refine T_aload_n (pc := 100) 0 dX2_spread_100 rfl rfl ?_
          refine T_getA (pc := 101) fd_7_10 hw335 dX2_spread_101 ?_
          refine T_iload (pc := 104) 5 dX2_spread_104 rfl ?_
          refine T_lald (pc := 106) rfl dX2_spread_106 (fun x10 => ?_)
          refine T_lmul (pc := 107) dX2_spread_107 ?_
          refine T_ladd (pc := 108) dX2_spread_108 ?_
          refine T_last (pc := 109) rfl dX2_spread_109 ?_
          refine T_letS (fun s11 => ?_)
          refine T_iinc (pc := 110) (y := 1) (lv' := [(0, .ref 7), (1, .int v1), (2, .int v2), (3, .int v3), (4, .long v4), (6, .int (v6 + (1 : Int32))), (7, .int x3), (8, .int x6)]) 5 dX2_spread_110 (by decide) rfl (Nat.le_of_ble_eq_true rfl) rfl ?_
          refine T_goto (pc := 113) 3 dX2_spread_113 (by decide) ?_
          refine T_pick (lv' := [(0, .ref 7), (1, .int v1), (2, .int v2), (3, .int v3), (4, .long v4), (6, .int (v6 + (1 : Int32)))]) [0, 1, 2, 3, 4, 5] rfl ?_
          exact hkb s11 (v6 + (1 : Int32))
set_option maxRecDepth 100000 in
set_option maxHeartbeats 4000000 in
theorem fX2_spread_P3_T (v1 : Int32) (v2 : Int32) (v3 : Int32) (v4 : Int64) (σ : St) (v6 : Int32) : T kX2_spread cSv σ 3 [(0, .ref 7), (1, .int v1), (2, .int v2), (3, .int v3), (4, .long v4), (6, .int v6)] [] (fX2_spread_P3 v1 v2 v3 v4 σ v6) :=
  it_T (S := (fun t : St × Int32 => t.1)) (lv := fun t : St × Int32 => [(0, .ref 7), (1, .int v1), (2, .int v2), (3, .int v3), (4, .long v4), (6, .int t.2)]) (st := fun _ => []) (fun kb hkb t => fX2_spread_L3_T v1 v2 v3 v4 (hkb := fun σ v6 => hkb (σ, v6)) t.1 t.2) FU (σ, v6)
set_option maxRecDepth 100000 in
set_option maxHeartbeats 4000000 in
theorem ctX2_spread (σ : St) (p0 : Int32) (p1 : Int32) (p2 : Int32) (p3 : Int64) : Ct yX2_spread kX2_spread [.ref 7, .int p0, .int p1, .int p2, .long p3] σ cSv (fX2_spread σ p0 p1 p2 p3) := by
  refine Ct.of (by decide +kernel) rfl rfl (Nat.le_of_ble_eq_true rfl) ?_
  unfold fX2_spread
  show T _ _ _ 0 [(0, .ref 7), (1, .int p0), (2, .int p1), (3, .int p2), (4, .long p3)] [] _
  refine T_iconst (pc := 0) (v := 0) dX2_spread_0 (by decide) ?_
  refine T_istore (pc := 1) (lv' := [(0, .ref 7), (1, .int p0), (2, .int p1), (3, .int p2), (4, .long p3), (6, .int (0 : Int32))]) dX2_spread_1 (Nat.le_of_ble_eq_true rfl) rfl ?_
  exact fX2_spread_P3_T p0 p1 p2 p3 σ (0 : Int32)
set_option maxRecDepth 100000 in
set_option maxHeartbeats 4000000 in
theorem fX2_stepOn_L2_T (σ : St) {k1 : St → Int32 → Option St} {kb : St → Int32 → Option St} (hk1 : ∀ (σ' : St) (w1 : Int32), T kX2_stepOn cSv σ' 25 [(0, .ref 7), (1, .int w1)] [] (k1 σ' w1)) (hkb : ∀ (σ' : St) (w1 : Int32), T kX2_stepOn cSv σ' 2 [(0, .ref 7), (1, .int w1)] [] (kb σ' w1)) (v1 : Int32) : T kX2_stepOn cSv σ 2 [(0, .ref 7), (1, .int v1)] [] (fX2_stepOn_L2 k1 kb σ v1) := by
  unfold fX2_stepOn_L2
  refine T_iload_n (pc := 2) 1 dX2_stepOn_2 rfl rfl ?_
  refine T_aload_n (pc := 3) 0 dX2_stepOn_3 rfl rfl ?_
  refine T_getI (pc := 4) fd_7_12 hw337 dX2_stepOn_4 ?_
  refine T_icmp_ge (pc := 7) 49 dX2_stepOn_7 (by decide) (fun _ => ?_) (fun _ => ?_)
  · exact T_return (pc := 49) rfl dX2_stepOn_49 rfl
  · refine T_aload_n (pc := 10) 0 dX2_stepOn_10 rfl rfl ?_
    refine T_getA (pc := 11) fd_7_7 hw332 dX2_stepOn_11 ?_
    refine T_iload_n (pc := 14) 1 dX2_stepOn_14 rfl rfl ?_
    refine T_iald (pc := 15) rfl dX2_stepOn_15 (fun x1 => ?_)
    refine T_aload_n (pc := 16) 0 dX2_stepOn_16 rfl rfl ?_
    refine T_getA (pc := 17) fd_7_3 hw328 dX2_stepOn_17 ?_
    refine T_iload_n (pc := 20) 1 dX2_stepOn_20 rfl rfl ?_
    refine T_iald (pc := 21) rfl dX2_stepOn_21 (fun x2 => ?_)
    refine T_icmp_ge (pc := 22) 36 dX2_stepOn_22 (by decide) (fun _ => ?_) (fun _ => ?_)
    · refine T_aload_n (pc := 36) 0 dX2_stepOn_36 rfl rfl ?_
      refine T_getA (pc := 37) fd_7_7 hw332 dX2_stepOn_37 ?_
      refine T_iload_n (pc := 40) 1 dX2_stepOn_40 rfl rfl ?_
      refine T_iconst (pc := 41) (v := 0) dX2_stepOn_41 (by decide) ?_
      refine T_iast (pc := 42) rfl dX2_stepOn_42 ?_
      refine T_letS (fun s3 => ?_)
      refine T_iinc (pc := 43) (y := 1) (lv' := [(0, .ref 7), (1, .int (v1 + (1 : Int32)))]) 1 dX2_stepOn_43 (by decide) rfl (Nat.le_of_ble_eq_true rfl) rfl ?_
      refine T_goto (pc := 46) 2 dX2_stepOn_46 (by decide) ?_
      exact hkb s3 (v1 + (1 : Int32))
    · exact hk1 σ v1
set_option maxRecDepth 100000 in
set_option maxHeartbeats 4000000 in
theorem fX2_stepOn_P2_T (σ : St) {k1 : St → Int32 → Option St} (hk1 : ∀ (σ' : St) (w1 : Int32), T kX2_stepOn cSv σ' 25 [(0, .ref 7), (1, .int w1)] [] (k1 σ' w1)) (v1 : Int32) : T kX2_stepOn cSv σ 2 [(0, .ref 7), (1, .int v1)] [] (fX2_stepOn_P2 k1 σ v1) :=
  it_T (S := (fun t : St × Int32 => t.1)) (lv := fun t : St × Int32 => [(0, .ref 7), (1, .int t.2)]) (st := fun _ => []) (fun kb hkb t => fX2_stepOn_L2_T (hk1 := hk1) (hkb := fun σ v1 => hkb (σ, v1)) t.1 t.2) FU (σ, v1)
set_option maxRecDepth 100000 in
set_option maxHeartbeats 4000000 in
theorem ctX2_stepOn (σ : St) : Ct yX2_stepOn kX2_stepOn [.ref 7] σ cSv (fX2_stepOn σ) := by
  refine Ct.of (by decide +kernel) rfl rfl (Nat.le_of_ble_eq_true rfl) ?_
  unfold fX2_stepOn
  show T _ _ _ 0 [(0, .ref 7)] [] _
  refine T_iconst (pc := 0) (v := 0) dX2_stepOn_0 (by decide) ?_
  refine T_istore_n (pc := 1) (lv' := [(0, .ref 7), (1, .int (0 : Int32))]) dX2_stepOn_1 rfl (Nat.le_of_ble_eq_true rfl) rfl ?_
  refine fX2_stepOn_P2_T (hk1 := fun s4 x5 => ?_) σ (0 : Int32)
  · refine T_aload_n (pc := 25) 0 dX2_stepOn_25 rfl rfl ?_
    refine T_getA (pc := 26) fd_7_7 hw332 dX2_stepOn_26 ?_
    refine T_iload_n (pc := 29) 1 dX2_stepOn_29 rfl rfl ?_
    refine T_dup2_ia (pc := 30) dX2_stepOn_30 ?_
    refine T_iald (pc := 31) rfl dX2_stepOn_31 (fun x6 => ?_)
    refine T_iconst (pc := 32) (v := 1) dX2_stepOn_32 (by decide) ?_
    refine T_iadd (pc := 33) dX2_stepOn_33 ?_
    refine T_iast (pc := 34) rfl dX2_stepOn_34 ?_
    refine T_letS (fun s7 => ?_)
    exact T_return (pc := 35) rfl dX2_stepOn_35 rfl
set_option maxRecDepth 100000 in
set_option maxHeartbeats 4000000 in
theorem fX2_countPairs_L46_T (v1 : Int32) (σ : St) {k1 : St → Option St} {kb : St → Int32 → Option St} (hk1 : ∀ (σ' : St), T kX2_countPairs cSv σ' 125 [(0, .ref 7), (1, .int v1)] [] (k1 σ')) (hkb : ∀ (σ' : St) (w2 : Int32), T kX2_countPairs cSv σ' 46 [(0, .ref 7), (1, .int v1), (2, .int w2)] [] (kb σ' w2)) (v2 : Int32) : T kX2_countPairs cSv σ 46 [(0, .ref 7), (1, .int v1), (2, .int v2)] [] (fX2_countPairs_L46 v1 k1 kb σ v2) := by
  unfold fX2_countPairs_L46
  refine T_iload_n (pc := 46) 2 dX2_countPairs_46 rfl rfl ?_
  refine T_aload_n (pc := 47) 0 dX2_countPairs_47 rfl rfl ?_
  refine T_getI (pc := 48) fd_7_12 hw337 dX2_countPairs_48 ?_
  refine T_icmp_ge (pc := 51) 125 dX2_countPairs_51 (by decide) (fun _ => ?_) (fun _ => ?_)
  · refine T_pick (lv' := [(0, .ref 7), (1, .int v1)]) [0, 1] rfl ?_
    exact hk1 σ
  · refine T_iload_n (pc := 54) 1 dX2_countPairs_54 rfl rfl ?_
    refine T_aload_n (pc := 55) 0 dX2_countPairs_55 rfl rfl ?_
    refine T_getI (pc := 56) fd_7_12 hw337 dX2_countPairs_56 ?_
    refine T_imul (pc := 59) dX2_countPairs_59 ?_
    refine T_iload_n (pc := 60) 2 dX2_countPairs_60 rfl rfl ?_
    refine T_iadd (pc := 61) dX2_countPairs_61 ?_
    refine T_letI (fun x8 => ?_)
    refine T_istore_n (pc := 62) (lv' := [(0, .ref 7), (1, .int v1), (2, .int v2), (3, .int x8)]) dX2_countPairs_62 rfl (Nat.le_of_ble_eq_true rfl) rfl ?_
    refine T_aload_n (pc := 63) 0 dX2_countPairs_63 rfl rfl ?_
    refine T_getA (pc := 64) fd_7_7 hw332 dX2_countPairs_64 ?_
    refine T_iload_n (pc := 67) 2 dX2_countPairs_67 rfl rfl ?_
    refine T_iald (pc := 68) rfl dX2_countPairs_68 (fun x9 => ?_)
    refine T_if_le (pc := 69) 119 dX2_countPairs_69 (by decide) (fun _ => ?_) (fun _ => ?_)
    · refine T_iinc (pc := 119) (y := 1) (lv' := [(0, .ref 7), (1, .int v1), (2, .int (v2 + (1 : Int32))), (3, .int x8)]) 2 dX2_countPairs_119 (by decide) rfl (Nat.le_of_ble_eq_true rfl) rfl ?_
      refine T_goto (pc := 122) 46 dX2_countPairs_122 (by decide) ?_
      refine T_pick (lv' := [(0, .ref 7), (1, .int v1), (2, .int (v2 + (1 : Int32)))]) [0, 1, 2] rfl ?_
      exact hkb σ (v2 + (1 : Int32))
    · refine T_iload_n (pc := 72) 3 dX2_countPairs_72 rfl rfl ?_
      refine T_aload_n (pc := 73) 0 dX2_countPairs_73 rfl rfl ?_
      refine T_getA (pc := 74) fd_7_18 hw343 dX2_countPairs_74 ?_
      refine T_alenN (pc := 77) rfl dX2_countPairs_77 ?_
      refine T_icmp_ge (pc := 78) 119 dX2_countPairs_78 (by decide) (fun _ => ?_) (fun _ => ?_)
      · refine T_iinc (pc := 119) (y := 1) (lv' := [(0, .ref 7), (1, .int v1), (2, .int (v2 + (1 : Int32))), (3, .int x8)]) 2 dX2_countPairs_119 (by decide) rfl (Nat.le_of_ble_eq_true rfl) rfl ?_
        refine T_goto (pc := 122) 46 dX2_countPairs_122 (by decide) ?_
        refine T_pick (lv' := [(0, .ref 7), (1, .int v1), (2, .int (v2 + (1 : Int32)))]) [0, 1, 2] rfl ?_
        exact hkb σ (v2 + (1 : Int32))
      · refine T_aload_n (pc := 81) 0 dX2_countPairs_81 rfl rfl ?_
        refine T_getA (pc := 82) fd_7_18 hw343 dX2_countPairs_82 ?_
        refine T_iload_n (pc := 85) 3 dX2_countPairs_85 rfl rfl ?_
        refine T_laldN (pc := 86) rfl dX2_countPairs_86 (fun x10 => ?_)
        refine T_lconst (pc := 87) (v := 0) dX2_countPairs_87 (by decide) ?_
        refine T_lcmp (pc := 88) dX2_countPairs_88 ?_
        refine T_if_le (pc := 89) 119 dX2_countPairs_89 (by decide) (fun _ => ?_) (fun _ => ?_)
        · refine T_iinc (pc := 119) (y := 1) (lv' := [(0, .ref 7), (1, .int v1), (2, .int (v2 + (1 : Int32))), (3, .int x8)]) 2 dX2_countPairs_119 (by decide) rfl (Nat.le_of_ble_eq_true rfl) rfl ?_
          refine T_goto (pc := 122) 46 dX2_countPairs_122 (by decide) ?_
          refine T_pick (lv' := [(0, .ref 7), (1, .int v1), (2, .int (v2 + (1 : Int32)))]) [0, 1, 2] rfl ?_
          exact hkb σ (v2 + (1 : Int32))
        · refine T_aload_n (pc := 92) 0 dX2_countPairs_92 rfl rfl ?_
          refine T_iload_n (pc := 93) 1 dX2_countPairs_93 rfl rfl ?_
          refine T_aload_n (pc := 94) 0 dX2_countPairs_94 rfl rfl ?_
          refine T_getA (pc := 95) fd_7_5 hw330 dX2_countPairs_95 ?_
          refine T_iload_n (pc := 98) 2 dX2_countPairs_98 rfl rfl ?_
          refine T_iald (pc := 99) rfl dX2_countPairs_99 (fun x11 => ?_)
          refine T_aload_n (pc := 100) 0 dX2_countPairs_100 rfl rfl ?_
          refine T_getA (pc := 101) fd_7_7 hw332 dX2_countPairs_101 ?_
          refine T_iload_n (pc := 104) 2 dX2_countPairs_104 rfl rfl ?_
          refine T_iald (pc := 105) rfl dX2_countPairs_105 (fun x12 => ?_)
          refine T_iadd (pc := 106) dX2_countPairs_106 ?_
          refine T_iconst (pc := 107) (v := 1) dX2_countPairs_107 (by decide) ?_
          refine T_isub (pc := 108) dX2_countPairs_108 ?_
          refine T_iload_n (pc := 109) 3 dX2_countPairs_109 rfl rfl ?_
          refine T_aload_n (pc := 110) 0 dX2_countPairs_110 rfl rfl ?_
          refine T_getA (pc := 111) fd_7_18 hw343 dX2_countPairs_111 ?_
          refine T_iload_n (pc := 114) 3 dX2_countPairs_114 rfl rfl ?_
          refine T_laldN (pc := 115) rfl dX2_countPairs_115 (fun x13 => ?_)
          refine T_callSv (pc := 116) (rest := []) (Rn_V (pc := 116) (as := [.int v1, .int ((x11 + x12) - (1 : Int32)), .int x8, .long x13]) (rest := []) (ctX2_spread σ v1 ((x11 + x12) - (1 : Int32)) x8 x13) rfl rfl mv_X2_spread hw1045 rfl ⟨Nat.le_of_ble_eq_true rfl, Nat.le_of_ble_eq_true rfl⟩ (Nat.le_of_ble_eq_true rfl) dX2_countPairs_116 rfl) rfl (fun s14 => ?_)
          refine T_iinc (pc := 119) (y := 1) (lv' := [(0, .ref 7), (1, .int v1), (2, .int (v2 + (1 : Int32))), (3, .int x8)]) 2 dX2_countPairs_119 (by decide) rfl (Nat.le_of_ble_eq_true rfl) rfl ?_
          refine T_goto (pc := 122) 46 dX2_countPairs_122 (by decide) ?_
          refine T_pick (lv' := [(0, .ref 7), (1, .int v1), (2, .int (v2 + (1 : Int32)))]) [0, 1, 2] rfl ?_
          exact hkb s14 (v2 + (1 : Int32))
set_option maxRecDepth 100000 in
set_option maxHeartbeats 4000000 in
theorem fX2_countPairs_P46_T (v1 : Int32) (σ : St) {k1 : St → Option St} (hk1 : ∀ (σ' : St), T kX2_countPairs cSv σ' 125 [(0, .ref 7), (1, .int v1)] [] (k1 σ')) (v2 : Int32) : T kX2_countPairs cSv σ 46 [(0, .ref 7), (1, .int v1), (2, .int v2)] [] (fX2_countPairs_P46 v1 k1 σ v2) :=
  it_T (S := (fun t : St × Int32 => t.1)) (lv := fun t : St × Int32 => [(0, .ref 7), (1, .int v1), (2, .int t.2)]) (st := fun _ => []) (fun kb hkb t => fX2_countPairs_L46_T v1 (hk1 := hk1) (hkb := fun σ v2 => hkb (σ, v2)) t.1 t.2) FU (σ, v2)
set_option maxRecDepth 100000 in
set_option maxHeartbeats 4000000 in
theorem fX2_countPairs_L27_T (σ : St) {kb : St → Int32 → Option St} (hkb : ∀ (σ' : St) (w1 : Int32), T kX2_countPairs cSv σ' 27 [(0, .ref 7), (1, .int w1)] [] (kb σ' w1)) (v1 : Int32) : T kX2_countPairs cSv σ 27 [(0, .ref 7), (1, .int v1)] [] (fX2_countPairs_L27 kb σ v1) := by
  unfold fX2_countPairs_L27
  refine T_iload_n (pc := 27) 1 dX2_countPairs_27 rfl rfl ?_
  refine T_aload_n (pc := 28) 0 dX2_countPairs_28 rfl rfl ?_
  refine T_getI (pc := 29) fd_7_13 hw338 dX2_countPairs_29 ?_
  refine T_icmp_ge (pc := 32) 131 dX2_countPairs_32 (by decide) (fun _ => ?_) (fun _ => ?_)
  · exact T_return (pc := 131) rfl dX2_countPairs_131 rfl
  · refine T_aload_n (pc := 35) 0 dX2_countPairs_35 rfl rfl ?_
    refine T_callSv (pc := 36) (rest := []) (Rn_V (pc := 36) (as := []) (rest := []) (ctX2_stepOn σ) rfl rfl mv_X2_stepOn hw1049 rfl ⟨Nat.le_of_ble_eq_true rfl, Nat.le_of_ble_eq_true rfl⟩ (Nat.le_of_ble_eq_true rfl) dX2_countPairs_36 rfl) rfl (fun s6 => ?_)
    refine T_aload_n (pc := 39) 0 dX2_countPairs_39 rfl rfl ?_
    refine T_iload_n (pc := 40) 1 dX2_countPairs_40 rfl rfl ?_
    refine T_callSv (pc := 41) (rest := []) (Rn_V (pc := 41) (as := [.int v1]) (rest := []) (ctX2_lookAhead s6 v1) rfl rfl mv_X2_lookAhead hw966 rfl ⟨Nat.le_of_ble_eq_true rfl, Nat.le_of_ble_eq_true rfl⟩ (Nat.le_of_ble_eq_true rfl) dX2_countPairs_41 rfl) rfl (fun s7 => ?_)
    refine T_iconst (pc := 44) (v := 0) dX2_countPairs_44 (by decide) ?_
    refine T_istore_n (pc := 45) (lv' := [(0, .ref 7), (1, .int v1), (2, .int (0 : Int32))]) dX2_countPairs_45 rfl (Nat.le_of_ble_eq_true rfl) rfl ?_
    refine fX2_countPairs_P46_T v1 (hk1 := fun s15 => ?_) s7 (0 : Int32)
    · refine T_iinc (pc := 125) (y := 1) (lv' := [(0, .ref 7), (1, .int (v1 + (1 : Int32)))]) 1 dX2_countPairs_125 (by decide) rfl (Nat.le_of_ble_eq_true rfl) rfl ?_
      refine T_goto (pc := 128) 27 dX2_countPairs_128 (by decide) ?_
      exact hkb s15 (v1 + (1 : Int32))
set_option maxRecDepth 100000 in
set_option maxHeartbeats 4000000 in
theorem fX2_countPairs_P27_T (σ : St) (v1 : Int32) : T kX2_countPairs cSv σ 27 [(0, .ref 7), (1, .int v1)] [] (fX2_countPairs_P27 σ v1) :=
  it_T (S := (fun t : St × Int32 => t.1)) (lv := fun t : St × Int32 => [(0, .ref 7), (1, .int t.2)]) (st := fun _ => []) (fun kb hkb t => fX2_countPairs_L27_T (hkb := fun σ v1 => hkb (σ, v1)) t.1 t.2) FU (σ, v1)
set_option maxRecDepth 100000 in
set_option maxHeartbeats 4000000 in
theorem ctX2_countPairs (σ : St) : Ct yX2_countPairs kX2_countPairs [.ref 7] σ cSv (fX2_countPairs σ) := by
  refine Ct.of (by decide +kernel) rfl rfl (Nat.le_of_ble_eq_true rfl) ?_
  unfold fX2_countPairs
  show T _ _ _ 0 [(0, .ref 7)] [] _
  refine T_aload_n (pc := 0) 0 dX2_countPairs_0 rfl rfl ?_
  refine T_callSv (pc := 1) (rest := []) (Rn_V (pc := 1) (as := []) (rest := []) (ctX2_clearPairs σ) rfl rfl mv_X2_clearPairs hw1041 rfl ⟨Nat.le_of_ble_eq_true rfl, Nat.le_of_ble_eq_true rfl⟩ (Nat.le_of_ble_eq_true rfl) dX2_countPairs_1 rfl) rfl (fun s1 => ?_)
  refine T_aload_n (pc := 4) 0 dX2_countPairs_4 rfl rfl ?_
  refine T_callSv (pc := 5) (rest := []) (Rn_V (pc := 5) (as := []) (rest := []) (ctX2_clearSaid s1) rfl rfl mv_X2_clearSaid hw1021 rfl ⟨Nat.le_of_ble_eq_true rfl, Nat.le_of_ble_eq_true rfl⟩ (Nat.le_of_ble_eq_true rfl) dX2_countPairs_5 rfl) rfl (fun s2 => ?_)
  refine T_aload_n (pc := 8) 0 dX2_countPairs_8 rfl rfl ?_
  refine T_iconst (pc := 9) (v := 0) dX2_countPairs_9 (by decide) ?_
  refine T_callSv (pc := 10) (rest := []) (Rn_V (pc := 10) (as := [.int (0 : Int32)]) (rest := []) (ctX2_lookAhead s2 (0 : Int32)) rfl rfl mv_X2_lookAhead hw966 rfl ⟨Nat.le_of_ble_eq_true rfl, Nat.le_of_ble_eq_true rfl⟩ (Nat.le_of_ble_eq_true rfl) dX2_countPairs_10 rfl) rfl (fun s3 => ?_)
  refine T_aload_n (pc := 13) 0 dX2_countPairs_13 rfl rfl ?_
  refine T_iconst (pc := 14) (v := 0) dX2_countPairs_14 (by decide) ?_
  refine T_bipush (pc := 15) (v := 20) dX2_countPairs_15 (by decide) ?_
  refine T_aload_n (pc := 17) 0 dX2_countPairs_17 rfl rfl ?_
  refine T_callPi (pc := 18) (rest := [.int (20 : Int32), .int (0 : Int32), .ref 7]) (Rn_V (pc := 18) (as := []) (rest := [.int (20 : Int32), .int (0 : Int32), .ref 7]) (ctX2_startSlot s3) rfl rfl mv_X2_startSlot hw955 rfl ⟨Nat.le_of_ble_eq_true rfl, Nat.le_of_ble_eq_true rfl⟩ (Nat.le_of_ble_eq_true rfl) dX2_countPairs_18 rfl) rfl (fun x4 => ?_)
  refine T_lconst (pc := 21) (v := 1) dX2_countPairs_21 (by decide) ?_
  refine T_callSv (pc := 22) (rest := []) (Rn_V (pc := 22) (as := [.int (0 : Int32), .int (20 : Int32), .int x4, .long (1 : Int64)]) (rest := []) (ctX2_spread s3 (0 : Int32) (20 : Int32) x4 (1 : Int64)) rfl rfl mv_X2_spread hw1045 rfl ⟨Nat.le_of_ble_eq_true rfl, Nat.le_of_ble_eq_true rfl⟩ (Nat.le_of_ble_eq_true rfl) dX2_countPairs_22 rfl) rfl (fun s5 => ?_)
  refine T_iconst (pc := 25) (v := 1) dX2_countPairs_25 (by decide) ?_
  refine T_istore_n (pc := 26) (lv' := [(0, .ref 7), (1, .int (1 : Int32))]) dX2_countPairs_26 rfl (Nat.le_of_ble_eq_true rfl) rfl ?_
  exact fX2_countPairs_P27_T s5 (1 : Int32)
set_option maxRecDepth 100000 in
set_option maxHeartbeats 4000000 in
theorem fX2_certain_J16_T (σ : St) (v1 : Int32) (v2 : Int32) : T kX2_certain cSi σ 16 [(0, .ref 7), (1, .int v1), (2, .int v2)] [] (fX2_certain_J16 σ v1 v2) := by
  unfold fX2_certain_J16
  refine T_bipush (pc := 16) (v := 20) dX2_certain_16 (by decide) ?_
  refine T_aload_n (pc := 18) 0 dX2_certain_18 rfl rfl ?_
  refine T_iload_n (pc := 19) 1 dX2_certain_19 rfl rfl ?_
  refine T_callPi (pc := 20) (rest := [.int (20 : Int32)]) (Rn_V (pc := 20) (as := [.int v1]) (rest := [.int (20 : Int32)]) (ctX2_numberOf σ v1) rfl rfl mv_X2_numberOf hw1053 rfl ⟨Nat.le_of_ble_eq_true rfl, Nat.le_of_ble_eq_true rfl⟩ (Nat.le_of_ble_eq_true rfl) dX2_certain_20 rfl) rfl (fun x1 => ?_)
  refine T_imul (pc := 23) dX2_certain_23 ?_
  refine T_aload_n (pc := 24) 0 dX2_certain_24 rfl rfl ?_
  refine T_iload_n (pc := 25) 2 dX2_certain_25 rfl rfl ?_
  refine T_callPi (pc := 26) (rest := [.int ((20 : Int32) * x1)]) (Rn_V (pc := 26) (as := [.int v2]) (rest := [.int ((20 : Int32) * x1)]) (ctX2_numberOf σ v2) rfl rfl mv_X2_numberOf hw1053 rfl ⟨Nat.le_of_ble_eq_true rfl, Nat.le_of_ble_eq_true rfl⟩ (Nat.le_of_ble_eq_true rfl) dX2_certain_26 rfl) rfl (fun x2 => ?_)
  refine T_iadd (pc := 29) dX2_certain_29 ?_
  refine T_letI (fun x3 => ?_)
  refine T_istore_n (pc := 30) (lv' := [(0, .ref 7), (1, .int v1), (2, .int v2), (3, .int x3)]) dX2_certain_30 rfl (Nat.le_of_ble_eq_true rfl) rfl ?_
  refine T_iload_n (pc := 31) 3 dX2_certain_31 rfl rfl ?_
  refine T_if_lt (pc := 32) 53 dX2_certain_32 (by decide) (fun _ => ?_) (fun _ => ?_)
  · refine T_lconst (pc := 53) (v := 0) dX2_certain_53 (by decide) ?_
    refine T_lstore (pc := 54) (lv' := [(0, .ref 7), (1, .int v1), (2, .int v2), (3, .int x3), (4, .long (0 : Int64))]) dX2_certain_54 (Nat.le_of_ble_eq_true rfl) rfl ?_
    refine T_lload (pc := 56) 4 dX2_certain_56 rfl ?_
    refine T_lconst (pc := 58) (v := 0) dX2_certain_58 (by decide) ?_
    refine T_lcmp (pc := 59) dX2_certain_59 ?_
    refine T_if_ne (pc := 60) 65 dX2_certain_60 (by decide) (fun _ => ?_) (fun _ => ?_)
    · refine T_lload (pc := 65) 4 dX2_certain_65 rfl ?_
      refine T_aload_n (pc := 67) 0 dX2_certain_67 rfl rfl ?_
      refine T_callPl (pc := 68) (rest := [.long (0 : Int64)]) (Rn_V (pc := 68) (as := []) (rest := [.long (0 : Int64)]) (ctX2_howManyBest σ) rfl rfl mv_X2_howManyBest hw1057 rfl ⟨Nat.le_of_ble_eq_true rfl, Nat.le_of_ble_eq_true rfl⟩ (Nat.le_of_ble_eq_true rfl) dX2_certain_68 rfl) rfl (fun x4 => ?_)
      refine T_lcmp (pc := 71) dX2_certain_71 ?_
      refine T_if_ne (pc := 72) 79 dX2_certain_72 (by decide) (fun _ => ?_) (fun _ => ?_)
      · refine T_iconst (pc := 79) (v := -1) dX2_certain_79 (by decide) ?_
        exact T_ireturn (pc := 80) rfl dX2_certain_80 rfl
      · refine T_iconst (pc := 75) (v := 1) dX2_certain_75 (by decide) ?_
        refine T_goto (pc := 76) 80 dX2_certain_76 (by decide) ?_
        exact T_ireturn (pc := 80) rfl dX2_certain_80 rfl
    · refine T_iconst (pc := 63) (v := 0) dX2_certain_63 (by decide) ?_
      exact T_ireturn (pc := 64) rfl dX2_certain_64 rfl
  · refine T_iload_n (pc := 35) 3 dX2_certain_35 rfl rfl ?_
    refine T_aload_n (pc := 36) 0 dX2_certain_36 rfl rfl ?_
    refine T_getA (pc := 37) fd_7_11 hw336 dX2_certain_37 ?_
    refine T_alenL (pc := 40) (v := 420) rfl (by decide) dX2_certain_40 ?_
    refine T_icmp_ge (pc := 41) 53 dX2_certain_41 (by decide) (fun _ => ?_) (fun _ => ?_)
    · refine T_lconst (pc := 53) (v := 0) dX2_certain_53 (by decide) ?_
      refine T_lstore (pc := 54) (lv' := [(0, .ref 7), (1, .int v1), (2, .int v2), (3, .int x3), (4, .long (0 : Int64))]) dX2_certain_54 (Nat.le_of_ble_eq_true rfl) rfl ?_
      refine T_lload (pc := 56) 4 dX2_certain_56 rfl ?_
      refine T_lconst (pc := 58) (v := 0) dX2_certain_58 (by decide) ?_
      refine T_lcmp (pc := 59) dX2_certain_59 ?_
      refine T_if_ne (pc := 60) 65 dX2_certain_60 (by decide) (fun _ => ?_) (fun _ => ?_)
      · refine T_lload (pc := 65) 4 dX2_certain_65 rfl ?_
        refine T_aload_n (pc := 67) 0 dX2_certain_67 rfl rfl ?_
        refine T_callPl (pc := 68) (rest := [.long (0 : Int64)]) (Rn_V (pc := 68) (as := []) (rest := [.long (0 : Int64)]) (ctX2_howManyBest σ) rfl rfl mv_X2_howManyBest hw1057 rfl ⟨Nat.le_of_ble_eq_true rfl, Nat.le_of_ble_eq_true rfl⟩ (Nat.le_of_ble_eq_true rfl) dX2_certain_68 rfl) rfl (fun x5 => ?_)
        refine T_lcmp (pc := 71) dX2_certain_71 ?_
        refine T_if_ne (pc := 72) 79 dX2_certain_72 (by decide) (fun _ => ?_) (fun _ => ?_)
        · refine T_iconst (pc := 79) (v := -1) dX2_certain_79 (by decide) ?_
          exact T_ireturn (pc := 80) rfl dX2_certain_80 rfl
        · refine T_iconst (pc := 75) (v := 1) dX2_certain_75 (by decide) ?_
          refine T_goto (pc := 76) 80 dX2_certain_76 (by decide) ?_
          exact T_ireturn (pc := 80) rfl dX2_certain_80 rfl
      · refine T_iconst (pc := 63) (v := 0) dX2_certain_63 (by decide) ?_
        exact T_ireturn (pc := 64) rfl dX2_certain_64 rfl
    · refine T_aload_n (pc := 44) 0 dX2_certain_44 rfl rfl ?_
      refine T_getA (pc := 45) fd_7_11 hw336 dX2_certain_45 ?_
      refine T_iload_n (pc := 48) 3 dX2_certain_48 rfl rfl ?_
      refine T_lald (pc := 49) rfl dX2_certain_49 (fun x6 => ?_)
      refine T_goto (pc := 50) 54 dX2_certain_50 (by decide) ?_
      refine T_lstore (pc := 54) (lv' := [(0, .ref 7), (1, .int v1), (2, .int v2), (3, .int x3), (4, .long x6)]) dX2_certain_54 (Nat.le_of_ble_eq_true rfl) rfl ?_
      refine T_lload (pc := 56) 4 dX2_certain_56 rfl ?_
      refine T_lconst (pc := 58) (v := 0) dX2_certain_58 (by decide) ?_
      refine T_lcmp (pc := 59) dX2_certain_59 ?_
      refine T_if_ne (pc := 60) 65 dX2_certain_60 (by decide) (fun _ => ?_) (fun _ => ?_)
      · refine T_lload (pc := 65) 4 dX2_certain_65 rfl ?_
        refine T_aload_n (pc := 67) 0 dX2_certain_67 rfl rfl ?_
        refine T_callPl (pc := 68) (rest := [.long x6]) (Rn_V (pc := 68) (as := []) (rest := [.long x6]) (ctX2_howManyBest σ) rfl rfl mv_X2_howManyBest hw1057 rfl ⟨Nat.le_of_ble_eq_true rfl, Nat.le_of_ble_eq_true rfl⟩ (Nat.le_of_ble_eq_true rfl) dX2_certain_68 rfl) rfl (fun x7 => ?_)
        refine T_lcmp (pc := 71) dX2_certain_71 ?_
        refine T_if_ne (pc := 72) 79 dX2_certain_72 (by decide) (fun _ => ?_) (fun _ => ?_)
        · refine T_iconst (pc := 79) (v := -1) dX2_certain_79 (by decide) ?_
          exact T_ireturn (pc := 80) rfl dX2_certain_80 rfl
        · refine T_iconst (pc := 75) (v := 1) dX2_certain_75 (by decide) ?_
          refine T_goto (pc := 76) 80 dX2_certain_76 (by decide) ?_
          exact T_ireturn (pc := 80) rfl dX2_certain_80 rfl
      · refine T_iconst (pc := 63) (v := 0) dX2_certain_63 (by decide) ?_
        exact T_ireturn (pc := 64) rfl dX2_certain_64 rfl
set_option maxRecDepth 100000 in
set_option maxHeartbeats 4000000 in
theorem ctX2_certain (σ : St) (p0 : Int32) (p1 : Int32) : Ct yX2_certain kX2_certain [.ref 7, .int p0, .int p1] σ cSi (fX2_certain σ p0 p1) := by
  refine Ct.of (by decide +kernel) rfl rfl (Nat.le_of_ble_eq_true rfl) ?_
  unfold fX2_certain
  show T _ _ _ 0 [(0, .ref 7), (1, .int p0), (2, .int p1)] [] _
  refine T_aload_n (pc := 0) 0 dX2_certain_0 rfl rfl ?_
  refine T_getI (pc := 1) fd_7_16 hw341 dX2_certain_1 ?_
  refine T_if_ne (pc := 4) 16 dX2_certain_4 (by decide) (fun _ => ?_) (fun _ => ?_)
  · exact fX2_certain_J16_T σ p0 p1
  · refine T_aload_n (pc := 7) 0 dX2_certain_7 rfl rfl ?_
    refine T_callSv (pc := 8) (rest := []) (Rn_V (pc := 8) (as := []) (rest := []) (ctX2_countPairs σ) rfl rfl mv_X2_countPairs hw1037 rfl ⟨Nat.le_of_ble_eq_true rfl, Nat.le_of_ble_eq_true rfl⟩ (Nat.le_of_ble_eq_true rfl) dX2_certain_8 rfl) rfl (fun s8 => ?_)
    refine T_aload_n (pc := 11) 0 dX2_certain_11 rfl rfl ?_
    refine T_iconst (pc := 12) (v := 1) dX2_certain_12 (by decide) ?_
    refine T_putZ (pc := 13) fd_7_16 hw341 dX2_certain_13 rfl rfl ?_
    refine T_letS (fun s9 => ?_)
    exact fX2_certain_J16_T s9 p0 p1
set_option maxRecDepth 100000 in
set_option maxHeartbeats 4000000 in
theorem ctX11_sure (σ : St) (p0 : Int32) (p1 : Int32) (p2 : Int32) : Ct yX11_sure kX11_sure [.ref 0, .int p0, .int p1, .int p2] σ cSi (fX11_sure σ p0 p1 p2) := by
  refine Ct.of (by decide +kernel) rfl rfl (Nat.le_of_ble_eq_true rfl) ?_
  unfold fX11_sure
  show T _ _ _ 0 [(0, .ref 0), (1, .int p0), (2, .int p1), (3, .int p2)] [] _
  refine T_iload_n (pc := 0) 2 dX11_sure_0 rfl rfl ?_
  refine T_iload_n (pc := 1) 3 dX11_sure_1 rfl rfl ?_
  refine T_icmp_eq (pc := 2) 27 dX11_sure_2 (by decide) (fun _ => ?_) (fun _ => ?_)
  · refine T_bipush (pc := 27) (v := -2) dX11_sure_27 (by decide) ?_
    exact T_ireturn (pc := 29) rfl dX11_sure_29 rfl
  · refine T_aload_n (pc := 5) 0 dX11_sure_5 rfl rfl ?_
    refine T_getA (pc := 6) fd_0_4 hw443 dX11_sure_6 ?_
    refine T_iload_n (pc := 9) 2 dX11_sure_9 rfl rfl ?_
    refine T_callPz (pc := 10) (rest := []) (Rn_V (pc := 10) (as := [.int p1]) (rest := []) (ctX7_has σ p1) rfl rfl mv_X7_has hw794 rfl ⟨Nat.le_of_ble_eq_true rfl, Nat.le_of_ble_eq_true rfl⟩ (Nat.le_of_ble_eq_true rfl) dX11_sure_10 rfl) rfl (fun x1 => ?_)
    refine T_if_eq (pc := 13) 27 dX11_sure_13 (by decide) (fun _ => ?_) (fun _ => ?_)
    · refine T_bipush (pc := 27) (v := -2) dX11_sure_27 (by decide) ?_
      exact T_ireturn (pc := 29) rfl dX11_sure_29 rfl
    · refine T_aload_n (pc := 16) 0 dX11_sure_16 rfl rfl ?_
      refine T_getA (pc := 17) fd_0_4 hw443 dX11_sure_17 ?_
      refine T_iload_n (pc := 20) 3 dX11_sure_20 rfl rfl ?_
      refine T_callPz (pc := 21) (rest := []) (Rn_V (pc := 21) (as := [.int p2]) (rest := []) (ctX7_has σ p2) rfl rfl mv_X7_has hw794 rfl ⟨Nat.le_of_ble_eq_true rfl, Nat.le_of_ble_eq_true rfl⟩ (Nat.le_of_ble_eq_true rfl) dX11_sure_21 rfl) rfl (fun x2 => ?_)
      refine T_if_ne (pc := 24) 30 dX11_sure_24 (by decide) (fun _ => ?_) (fun _ => ?_)
      · refine T_iload_n (pc := 30) 2 dX11_sure_30 rfl rfl ?_
        refine T_iload_n (pc := 31) 1 dX11_sure_31 rfl rfl ?_
        refine T_callPz (pc := 32) (rest := []) (Rn_S (pc := 32) (as := [.int p1, .int p0]) (rest := []) (ctX7_isOf σ p1 p0) ms_X7_isOf hw869 rfl ⟨Nat.le_of_ble_eq_true rfl, Nat.le_of_ble_eq_true rfl⟩ (Nat.le_of_ble_eq_true rfl) dX11_sure_32 rfl) rfl (fun x3 => ?_)
        refine T_if_eq (pc := 35) 57 dX11_sure_35 (by decide) (fun _ => ?_) (fun _ => ?_)
        · refine T_bipush (pc := 57) (v := -2) dX11_sure_57 (by decide) ?_
          exact T_ireturn (pc := 59) rfl dX11_sure_59 rfl
        · refine T_iload_n (pc := 38) 3 dX11_sure_38 rfl rfl ?_
          refine T_iload_n (pc := 39) 1 dX11_sure_39 rfl rfl ?_
          refine T_callPz (pc := 40) (rest := []) (Rn_S (pc := 40) (as := [.int p2, .int p0]) (rest := []) (ctX7_isOf σ p2 p0) ms_X7_isOf hw869 rfl ⟨Nat.le_of_ble_eq_true rfl, Nat.le_of_ble_eq_true rfl⟩ (Nat.le_of_ble_eq_true rfl) dX11_sure_40 rfl) rfl (fun x4 => ?_)
          refine T_if_eq (pc := 43) 57 dX11_sure_43 (by decide) (fun _ => ?_) (fun _ => ?_)
          · refine T_bipush (pc := 57) (v := -2) dX11_sure_57 (by decide) ?_
            exact T_ireturn (pc := 59) rfl dX11_sure_59 rfl
          · refine T_aload_n (pc := 46) 0 dX11_sure_46 rfl rfl ?_
            refine T_getA (pc := 47) fd_0_6 hw445 dX11_sure_47 ?_
            refine T_iload_n (pc := 50) 1 dX11_sure_50 rfl rfl ?_
            refine T_callSz (pc := 51) (rest := []) (Rn_V (pc := 51) (as := [.int p0]) (rest := []) (ctX2_areTold σ p0) rfl rfl mv_X2_areTold hw924 rfl ⟨Nat.le_of_ble_eq_true rfl, Nat.le_of_ble_eq_true rfl⟩ (Nat.le_of_ble_eq_true rfl) dX11_sure_51 rfl) rfl (fun r5 => ?_)
            refine T_if_ne (pc := 54) 60 dX11_sure_54 (by decide) (fun _ => ?_) (fun _ => ?_)
            · refine T_aload_n (pc := 60) 0 dX11_sure_60 rfl rfl ?_
              refine T_getA (pc := 61) fd_0_6 hw445 dX11_sure_61 ?_
              refine T_iload_n (pc := 64) 2 dX11_sure_64 rfl rfl ?_
              refine T_iload_n (pc := 65) 3 dX11_sure_65 rfl rfl ?_
              refine T_callSi (pc := 66) (rest := []) (Rn_V (pc := 66) (as := [.int p1, .int p2]) (rest := []) (ctX2_certain r5.2 p1 p2) rfl rfl mv_X2_certain hw1033 rfl ⟨Nat.le_of_ble_eq_true rfl, Nat.le_of_ble_eq_true rfl⟩ (Nat.le_of_ble_eq_true rfl) dX11_sure_66 rfl) rfl (fun r6 => ?_)
              exact T_ireturn (pc := 69) rfl dX11_sure_69 rfl
            · refine T_bipush (pc := 57) (v := -2) dX11_sure_57 (by decide) ?_
              exact T_ireturn (pc := 59) rfl dX11_sure_59 rfl
      · refine T_bipush (pc := 27) (v := -2) dX11_sure_27 (by decide) ?_
        exact T_ireturn (pc := 29) rfl dX11_sure_29 rfl
set_option maxRecDepth 100000 in
set_option maxHeartbeats 4000000 in
theorem ctX11_tempted (σ : St) (p0 : Int32) : Ct yX11_tempted kX11_tempted [.ref 0, .int p0] σ (cPi σ) (fX11_tempted σ p0) := by
  refine Ct.of (by decide +kernel) rfl rfl (Nat.le_of_ble_eq_true rfl) ?_
  unfold fX11_tempted
  show T _ _ _ 0 [(0, .ref 0), (1, .int p0)] [] _
  refine T_aload_n (pc := 0) 0 dX11_tempted_0 rfl rfl ?_
  refine T_getA (pc := 1) fd_0_4 hw443 dX11_tempted_1 ?_
  refine T_iload_n (pc := 4) 1 dX11_tempted_4 rfl rfl ?_
  refine T_callPz (pc := 5) (rest := []) (Rn_V (pc := 5) (as := [.int p0]) (rest := []) (ctX7_haveAll σ p0) rfl rfl mv_X7_haveAll hw865 rfl ⟨Nat.le_of_ble_eq_true rfl, Nat.le_of_ble_eq_true rfl⟩ (Nat.le_of_ble_eq_true rfl) dX11_tempted_5 rfl) rfl (fun x1 => ?_)
  refine T_if_eq (pc := 8) 22 dX11_tempted_8 (by decide) (fun _ => ?_) (fun _ => ?_)
  · refine T_iconst (pc := 22) (v := -1) dX11_tempted_22 (by decide) ?_
    exact T_ireturn (pc := 23) rfl dX11_tempted_23 rfl
  · refine T_aload_n (pc := 11) 0 dX11_tempted_11 rfl rfl ?_
    refine T_getA (pc := 12) fd_0_5 hw444 dX11_tempted_12 ?_
    refine T_iload_n (pc := 15) 1 dX11_tempted_15 rfl rfl ?_
    refine T_callPi (pc := 16) (rest := []) (Rn_V (pc := 16) (as := [.int p0]) (rest := []) (ctX0_temptations σ p0) rfl rfl mv_X0_temptations hw1201 rfl ⟨Nat.le_of_ble_eq_true rfl, Nat.le_of_ble_eq_true rfl⟩ (Nat.le_of_ble_eq_true rfl) dX11_tempted_16 rfl) rfl (fun x2 => ?_)
    refine T_goto (pc := 19) 23 dX11_tempted_19 (by decide) ?_
    exact T_ireturn (pc := 23) rfl dX11_tempted_23 rfl
set_option maxRecDepth 100000 in
set_option maxHeartbeats 4000000 in
theorem ctX11_text (σ : St) (p0 : Int32) : Ct yX11_text kX11_text [.ref 0, .int p0] σ cSi (fX11_text σ p0) := by
  refine Ct.of (by decide +kernel) rfl rfl (Nat.le_of_ble_eq_true rfl) ?_
  unfold fX11_text
  show T _ _ _ 0 [(0, .ref 0), (1, .int p0)] [] _
  refine T_aload_n (pc := 0) 0 dX11_text_0 rfl rfl ?_
  refine T_iload_n (pc := 1) 1 dX11_text_1 rfl rfl ?_
  refine T_callRd (pc := 2) (rest := []) (Rn_V (pc := 2) (as := [.int p0]) (rest := []) (ctX11_readerOf σ p0) rfl rfl mv_X11_readerOf hw500 rfl ⟨Nat.le_of_ble_eq_true rfl, Nat.le_of_ble_eq_true rfl⟩ (Nat.le_of_ble_eq_true rfl) dX11_text_2 rfl) rfl ?_
  refine T_ite (fun h0 => ?_) (fun h0 => ?_)
  · rw [show rdr p0 = .ref 2 from by unfold rdr; rw [if_pos h0]]
    refine T_astore_n (pc := 5) (lv' := [(0, .ref 0), (1, .int p0), (2, .ref 2)]) dX11_text_5 rfl (Nat.le_of_ble_eq_true rfl) rfl ?_
    refine T_aload_n (pc := 6) 2 dX11_text_6 rfl rfl ?_
    refine T_ifnull_r (pc := 7) dX11_text_7 ?_
    refine T_aload_n (pc := 10) 2 dX11_text_10 rfl rfl ?_
    refine T_aload_n (pc := 11) 0 dX11_text_11 rfl rfl ?_
    refine T_getA (pc := 12) fd_0_0 hw439 dX11_text_12 ?_
    refine T_callSi (pc := 15) (rest := []) (Rn_U (pc := 15) (x := ⟨"CueRolls$Reader", "faultOf", "(LCueRolls$Tape;)I"⟩) (as := [.ref 1]) (rest := []) (ctX5_faultOf_r σ) rfl rfl mu_X6_Reader_X5_faultOf hw504 rfl rfl ⟨Nat.le_of_ble_eq_true rfl, Nat.le_of_ble_eq_true rfl⟩ (Nat.le_of_ble_eq_true rfl) dX11_text_15 rfl) rfl (fun r7 => ?_)
    refine T_iconst (pc := 18) (v := -1) dX11_text_18 (by decide) ?_
    refine T_icmp_eq (pc := 19) 24 dX11_text_19 (by decide) (fun _ => ?_) (fun _ => ?_)
    · refine T_aload_n (pc := 24) 0 dX11_text_24 rfl rfl ?_
      refine T_iload_n (pc := 25) 1 dX11_text_25 rfl rfl ?_
      refine T_callSi (pc := 26) (rest := []) (Rn_V (pc := 26) (as := [.int p0]) (rest := []) (ctX11_stored r7.2 p0) rfl rfl mv_X11_stored hw724 rfl ⟨Nat.le_of_ble_eq_true rfl, Nat.le_of_ble_eq_true rfl⟩ (Nat.le_of_ble_eq_true rfl) dX11_text_26 rfl) rfl (fun r8 => ?_)
      refine T_istore_n (pc := 29) (lv' := [(0, .ref 0), (1, .int p0), (2, .ref 2), (3, .int r8.1)]) dX11_text_29 rfl (Nat.le_of_ble_eq_true rfl) rfl ?_
      refine T_iload_n (pc := 30) 3 dX11_text_30 rfl rfl ?_
      refine T_iconst (pc := 31) (v := -1) dX11_text_31 (by decide) ?_
      refine T_icmp_eq (pc := 32) 44 dX11_text_32 (by decide) (fun _ => ?_) (fun _ => ?_)
      · refine T_iload_n (pc := 44) 3 dX11_text_44 rfl rfl ?_
        exact T_ireturn (pc := 45) rfl dX11_text_45 rfl
      · refine T_aload_n (pc := 35) 0 dX11_text_35 rfl rfl ?_
        refine T_getA (pc := 36) fd_0_0 hw439 dX11_text_36 ?_
        refine T_iconst (pc := 39) (v := 0) dX11_text_39 (by decide) ?_
        refine T_callSz (pc := 40) (rest := []) (Rn_V (pc := 40) (as := [.int (0 : Int32)]) (rest := []) (ctX9_cut r8.2 (0 : Int32)) rfl rfl mv_X9_cut hw492 rfl ⟨Nat.le_of_ble_eq_true rfl, Nat.le_of_ble_eq_true rfl⟩ (Nat.le_of_ble_eq_true rfl) dX11_text_40 rfl) rfl (fun r9 => ?_)
        refine T_pop_i (pc := 43) dX11_text_43 ?_
        refine T_iload_n (pc := 44) 3 dX11_text_44 rfl rfl ?_
        exact T_ireturn (pc := 45) rfl dX11_text_45 rfl
    · refine T_iconst (pc := 22) (v := -1) dX11_text_22 (by decide) ?_
      exact T_ireturn (pc := 23) rfl dX11_text_23 rfl
  · refine T_ite (fun h1 => ?_) (fun h1 => ?_)
    · rw [show rdr p0 = .ref 3 from by unfold rdr; rw [if_neg h0, if_pos h1]]
      refine T_astore_n (pc := 5) (lv' := [(0, .ref 0), (1, .int p0), (2, .ref 3)]) dX11_text_5 rfl (Nat.le_of_ble_eq_true rfl) rfl ?_
      refine T_aload_n (pc := 6) 2 dX11_text_6 rfl rfl ?_
      refine T_ifnull_r (pc := 7) dX11_text_7 ?_
      refine T_aload_n (pc := 10) 2 dX11_text_10 rfl rfl ?_
      refine T_aload_n (pc := 11) 0 dX11_text_11 rfl rfl ?_
      refine T_getA (pc := 12) fd_0_0 hw439 dX11_text_12 ?_
      refine T_callSi (pc := 15) (rest := []) (Rn_U (pc := 15) (x := ⟨"CueRolls$Reader", "faultOf", "(LCueRolls$Tape;)I"⟩) (as := [.ref 1]) (rest := []) (ctX5_faultOf_p σ) rfl rfl mu_X3_Reader_X5_faultOf hw504 rfl rfl ⟨Nat.le_of_ble_eq_true rfl, Nat.le_of_ble_eq_true rfl⟩ (Nat.le_of_ble_eq_true rfl) dX11_text_15 rfl) rfl (fun r4 => ?_)
      refine T_iconst (pc := 18) (v := -1) dX11_text_18 (by decide) ?_
      refine T_icmp_eq (pc := 19) 24 dX11_text_19 (by decide) (fun _ => ?_) (fun _ => ?_)
      · refine T_aload_n (pc := 24) 0 dX11_text_24 rfl rfl ?_
        refine T_iload_n (pc := 25) 1 dX11_text_25 rfl rfl ?_
        refine T_callSi (pc := 26) (rest := []) (Rn_V (pc := 26) (as := [.int p0]) (rest := []) (ctX11_stored r4.2 p0) rfl rfl mv_X11_stored hw724 rfl ⟨Nat.le_of_ble_eq_true rfl, Nat.le_of_ble_eq_true rfl⟩ (Nat.le_of_ble_eq_true rfl) dX11_text_26 rfl) rfl (fun r5 => ?_)
        refine T_istore_n (pc := 29) (lv' := [(0, .ref 0), (1, .int p0), (2, .ref 3), (3, .int r5.1)]) dX11_text_29 rfl (Nat.le_of_ble_eq_true rfl) rfl ?_
        refine T_iload_n (pc := 30) 3 dX11_text_30 rfl rfl ?_
        refine T_iconst (pc := 31) (v := -1) dX11_text_31 (by decide) ?_
        refine T_icmp_eq (pc := 32) 44 dX11_text_32 (by decide) (fun _ => ?_) (fun _ => ?_)
        · refine T_iload_n (pc := 44) 3 dX11_text_44 rfl rfl ?_
          exact T_ireturn (pc := 45) rfl dX11_text_45 rfl
        · refine T_aload_n (pc := 35) 0 dX11_text_35 rfl rfl ?_
          refine T_getA (pc := 36) fd_0_0 hw439 dX11_text_36 ?_
          refine T_iconst (pc := 39) (v := 0) dX11_text_39 (by decide) ?_
          refine T_callSz (pc := 40) (rest := []) (Rn_V (pc := 40) (as := [.int (0 : Int32)]) (rest := []) (ctX9_cut r5.2 (0 : Int32)) rfl rfl mv_X9_cut hw492 rfl ⟨Nat.le_of_ble_eq_true rfl, Nat.le_of_ble_eq_true rfl⟩ (Nat.le_of_ble_eq_true rfl) dX11_text_40 rfl) rfl (fun r6 => ?_)
          refine T_pop_i (pc := 43) dX11_text_43 ?_
          refine T_iload_n (pc := 44) 3 dX11_text_44 rfl rfl ?_
          exact T_ireturn (pc := 45) rfl dX11_text_45 rfl
      · refine T_iconst (pc := 22) (v := -1) dX11_text_22 (by decide) ?_
        exact T_ireturn (pc := 23) rfl dX11_text_23 rfl
    · refine T_ite (fun h2 => ?_) (fun h2 => ?_)
      · rw [show rdr p0 = .ref 4 from by unfold rdr; rw [if_neg h0, if_neg h1, if_pos h2]]
        refine T_astore_n (pc := 5) (lv' := [(0, .ref 0), (1, .int p0), (2, .ref 4)]) dX11_text_5 rfl (Nat.le_of_ble_eq_true rfl) rfl ?_
        refine T_aload_n (pc := 6) 2 dX11_text_6 rfl rfl ?_
        refine T_ifnull_r (pc := 7) dX11_text_7 ?_
        refine T_aload_n (pc := 10) 2 dX11_text_10 rfl rfl ?_
        refine T_aload_n (pc := 11) 0 dX11_text_11 rfl rfl ?_
        refine T_getA (pc := 12) fd_0_0 hw439 dX11_text_12 ?_
        refine T_callSi (pc := 15) (rest := []) (Rn_U (pc := 15) (x := ⟨"CueRolls$Reader", "faultOf", "(LCueRolls$Tape;)I"⟩) (as := [.ref 1]) (rest := []) (ctX5_faultOf_h σ) rfl rfl mu_X1_Reader_X5_faultOf hw504 rfl rfl ⟨Nat.le_of_ble_eq_true rfl, Nat.le_of_ble_eq_true rfl⟩ (Nat.le_of_ble_eq_true rfl) dX11_text_15 rfl) rfl (fun r1 => ?_)
        refine T_iconst (pc := 18) (v := -1) dX11_text_18 (by decide) ?_
        refine T_icmp_eq (pc := 19) 24 dX11_text_19 (by decide) (fun _ => ?_) (fun _ => ?_)
        · refine T_aload_n (pc := 24) 0 dX11_text_24 rfl rfl ?_
          refine T_iload_n (pc := 25) 1 dX11_text_25 rfl rfl ?_
          refine T_callSi (pc := 26) (rest := []) (Rn_V (pc := 26) (as := [.int p0]) (rest := []) (ctX11_stored r1.2 p0) rfl rfl mv_X11_stored hw724 rfl ⟨Nat.le_of_ble_eq_true rfl, Nat.le_of_ble_eq_true rfl⟩ (Nat.le_of_ble_eq_true rfl) dX11_text_26 rfl) rfl (fun r2 => ?_)
          refine T_istore_n (pc := 29) (lv' := [(0, .ref 0), (1, .int p0), (2, .ref 4), (3, .int r2.1)]) dX11_text_29 rfl (Nat.le_of_ble_eq_true rfl) rfl ?_
          refine T_iload_n (pc := 30) 3 dX11_text_30 rfl rfl ?_
          refine T_iconst (pc := 31) (v := -1) dX11_text_31 (by decide) ?_
          refine T_icmp_eq (pc := 32) 44 dX11_text_32 (by decide) (fun _ => ?_) (fun _ => ?_)
          · refine T_iload_n (pc := 44) 3 dX11_text_44 rfl rfl ?_
            exact T_ireturn (pc := 45) rfl dX11_text_45 rfl
          · refine T_aload_n (pc := 35) 0 dX11_text_35 rfl rfl ?_
            refine T_getA (pc := 36) fd_0_0 hw439 dX11_text_36 ?_
            refine T_iconst (pc := 39) (v := 0) dX11_text_39 (by decide) ?_
            refine T_callSz (pc := 40) (rest := []) (Rn_V (pc := 40) (as := [.int (0 : Int32)]) (rest := []) (ctX9_cut r2.2 (0 : Int32)) rfl rfl mv_X9_cut hw492 rfl ⟨Nat.le_of_ble_eq_true rfl, Nat.le_of_ble_eq_true rfl⟩ (Nat.le_of_ble_eq_true rfl) dX11_text_40 rfl) rfl (fun r3 => ?_)
            refine T_pop_i (pc := 43) dX11_text_43 ?_
            refine T_iload_n (pc := 44) 3 dX11_text_44 rfl rfl ?_
            exact T_ireturn (pc := 45) rfl dX11_text_45 rfl
        · refine T_iconst (pc := 22) (v := -1) dX11_text_22 (by decide) ?_
          exact T_ireturn (pc := 23) rfl dX11_text_23 rfl
      · rw [show rdr p0 = .null from by unfold rdr; rw [if_neg h0, if_neg h1, if_neg h2]]
        refine T_astore_nN (pc := 5) (lv' := [(0, .ref 0), (1, .int p0), (2, .null)]) dX11_text_5 rfl (Nat.le_of_ble_eq_true rfl) rfl ?_
        refine T_aload_nN (pc := 6) 2 dX11_text_6 rfl rfl ?_
        refine T_ifnull_n (pc := 7) 22 dX11_text_7 (by decide) ?_
        refine T_iconst (pc := 22) (v := -1) dX11_text_22 (by decide) ?_
        exact T_ireturn (pc := 23) rfl dX11_text_23 rfl
set_option maxRecDepth 100000 in
set_option maxHeartbeats 4000000 in
theorem ctX7_lastWord (σ : St) (p0 : Int32) : Ct yX7_lastWord kX7_lastWord [.ref 5, .int p0] σ (cPl σ) (fX7_lastWord σ p0) := by
  refine Ct.of (by decide +kernel) rfl rfl (Nat.le_of_ble_eq_true rfl) ?_
  unfold fX7_lastWord
  show T _ _ _ 0 [(0, .ref 5), (1, .int p0)] [] _
  refine T_aload_n (pc := 0) 0 dX7_lastWord_0 rfl rfl ?_
  refine T_iload_n (pc := 1) 1 dX7_lastWord_1 rfl rfl ?_
  refine T_aload_n (pc := 2) 0 dX7_lastWord_2 rfl rfl ?_
  refine T_iload_n (pc := 3) 1 dX7_lastWord_3 rfl rfl ?_
  refine T_callPi (pc := 4) (rest := [.int p0, .ref 5]) (Rn_V (pc := 4) (as := [.int p0]) (rest := [.int p0, .ref 5]) (ctX7_wordsOf σ p0) rfl rfl mv_X7_wordsOf hw822 rfl ⟨Nat.le_of_ble_eq_true rfl, Nat.le_of_ble_eq_true rfl⟩ (Nat.le_of_ble_eq_true rfl) dX7_lastWord_4 rfl) rfl (fun x1 => ?_)
  refine T_iconst (pc := 7) (v := 1) dX7_lastWord_7 (by decide) ?_
  refine T_isub (pc := 8) dX7_lastWord_8 ?_
  refine T_callPl (pc := 9) (rest := []) (Rn_V (pc := 9) (as := [.int p0, .int (x1 - (1 : Int32))]) (rest := []) (ctX7_word σ p0 (x1 - (1 : Int32))) rfl rfl mv_X7_word hw1337 rfl ⟨Nat.le_of_ble_eq_true rfl, Nat.le_of_ble_eq_true rfl⟩ (Nat.le_of_ble_eq_true rfl) dX7_lastWord_9 rfl) rfl (fun x2 => ?_)
  exact T_lreturn (pc := 12) rfl dX7_lastWord_12 rfl
set_option maxRecDepth 100000 in
set_option maxHeartbeats 4000000 in
theorem ctX7_lastButOne (σ : St) (p0 : Int32) : Ct yX7_lastButOne kX7_lastButOne [.ref 5, .int p0] σ (cPl σ) (fX7_lastButOne σ p0) := by
  refine Ct.of (by decide +kernel) rfl rfl (Nat.le_of_ble_eq_true rfl) ?_
  unfold fX7_lastButOne
  show T _ _ _ 0 [(0, .ref 5), (1, .int p0)] [] _
  refine T_aload_n (pc := 0) 0 dX7_lastButOne_0 rfl rfl ?_
  refine T_iload_n (pc := 1) 1 dX7_lastButOne_1 rfl rfl ?_
  refine T_aload_n (pc := 2) 0 dX7_lastButOne_2 rfl rfl ?_
  refine T_iload_n (pc := 3) 1 dX7_lastButOne_3 rfl rfl ?_
  refine T_callPi (pc := 4) (rest := [.int p0, .ref 5]) (Rn_V (pc := 4) (as := [.int p0]) (rest := [.int p0, .ref 5]) (ctX7_wordsOf σ p0) rfl rfl mv_X7_wordsOf hw822 rfl ⟨Nat.le_of_ble_eq_true rfl, Nat.le_of_ble_eq_true rfl⟩ (Nat.le_of_ble_eq_true rfl) dX7_lastButOne_4 rfl) rfl (fun x1 => ?_)
  refine T_iconst (pc := 7) (v := 2) dX7_lastButOne_7 (by decide) ?_
  refine T_isub (pc := 8) dX7_lastButOne_8 ?_
  refine T_callPl (pc := 9) (rest := []) (Rn_V (pc := 9) (as := [.int p0, .int (x1 - (2 : Int32))]) (rest := []) (ctX7_word σ p0 (x1 - (2 : Int32))) rfl rfl mv_X7_word hw1337 rfl ⟨Nat.le_of_ble_eq_true rfl, Nat.le_of_ble_eq_true rfl⟩ (Nat.le_of_ble_eq_true rfl) dX7_lastButOne_9 rfl) rfl (fun x2 => ?_)
  exact T_lreturn (pc := 12) rfl dX7_lastButOne_12 rfl
set_option maxRecDepth 100000 in
set_option maxHeartbeats 4000000 in
theorem fX11_worth_L29_T (v1 : Int32) (v2 : Int32) (σ : St) {kb : St → Int32 → Int32 → Option (Int32 × St)} (hkb : ∀ (σ' : St) (w3 : Int32) (w4 : Int32), T kX11_worth cSi σ' 29 [(0, .ref 0), (1, .int v1), (2, .int v2), (3, .int w3), (4, .int w4)] [] (kb σ' w3 w4)) (v3 : Int32) (v4 : Int32) : T kX11_worth cSi σ 29 [(0, .ref 0), (1, .int v1), (2, .int v2), (3, .int v3), (4, .int v4)] [] (fX11_worth_L29 v1 v2 kb σ v3 v4) := by
  unfold fX11_worth_L29
  refine T_iload (pc := 29) 4 dX11_worth_29 rfl ?_
  refine T_aload_n (pc := 31) 0 dX11_worth_31 rfl rfl ?_
  refine T_getA (pc := 32) fd_0_4 hw443 dX11_worth_32 ?_
  refine T_iload_n (pc := 35) 1 dX11_worth_35 rfl rfl ?_
  refine T_callPi (pc := 36) (rest := [.int v4]) (Rn_V (pc := 36) (as := [.int v1]) (rest := [.int v4]) (ctX7_sizeOf σ v1) rfl rfl mv_X7_sizeOf hw786 rfl ⟨Nat.le_of_ble_eq_true rfl, Nat.le_of_ble_eq_true rfl⟩ (Nat.le_of_ble_eq_true rfl) dX11_worth_36 rfl) rfl (fun x3 => ?_)
  refine T_icmp_ge (pc := 39) 86 dX11_worth_39 (by decide) (fun _ => ?_) (fun _ => ?_)
  · refine T_iload_n (pc := 86) 3 dX11_worth_86 rfl rfl ?_
    exact T_ireturn (pc := 87) rfl dX11_worth_87 rfl
  · refine T_bipush (pc := 42) (v := 16) dX11_worth_42 (by decide) ?_
    refine T_iload_n (pc := 44) 1 dX11_worth_44 rfl rfl ?_
    refine T_imul (pc := 45) dX11_worth_45 ?_
    refine T_iload (pc := 46) 4 dX11_worth_46 rfl ?_
    refine T_iadd (pc := 48) dX11_worth_48 ?_
    refine T_letI (fun x4 => ?_)
    refine T_istore (pc := 49) (lv' := [(0, .ref 0), (1, .int v1), (2, .int v2), (3, .int v3), (4, .int v4), (5, .int x4)]) dX11_worth_49 (Nat.le_of_ble_eq_true rfl) rfl ?_
    refine T_iload_n (pc := 51) 3 dX11_worth_51 rfl rfl ?_
    refine T_aload_n (pc := 52) 0 dX11_worth_52 rfl rfl ?_
    refine T_getA (pc := 53) fd_0_3 hw442 dX11_worth_53 ?_
    refine T_iload_n (pc := 56) 2 dX11_worth_56 rfl rfl ?_
    refine T_aload_n (pc := 57) 0 dX11_worth_57 rfl rfl ?_
    refine T_getA (pc := 58) fd_0_4 hw443 dX11_worth_58 ?_
    refine T_iload (pc := 61) 5 dX11_worth_61 rfl ?_
    refine T_callPl (pc := 63) (rest := [.int v2, .ref 4, .int v3]) (Rn_V (pc := 63) (as := [.int x4]) (rest := [.int v2, .ref 4, .int v3]) (ctX7_lastWord σ x4) rfl rfl mv_X7_lastWord hw1333 rfl ⟨Nat.le_of_ble_eq_true rfl, Nat.le_of_ble_eq_true rfl⟩ (Nat.le_of_ble_eq_true rfl) dX11_worth_63 rfl) rfl (fun x5 => ?_)
    refine T_aload_n (pc := 66) 0 dX11_worth_66 rfl rfl ?_
    refine T_getA (pc := 67) fd_0_4 hw443 dX11_worth_67 ?_
    refine T_iload (pc := 70) 5 dX11_worth_70 rfl ?_
    refine T_callPl (pc := 72) (rest := [.long x5, .int v2, .ref 4, .int v3]) (Rn_V (pc := 72) (as := [.int x4]) (rest := [.long x5, .int v2, .ref 4, .int v3]) (ctX7_lastButOne σ x4) rfl rfl mv_X7_lastButOne hw1338 rfl ⟨Nat.le_of_ble_eq_true rfl, Nat.le_of_ble_eq_true rfl⟩ (Nat.le_of_ble_eq_true rfl) dX11_worth_72 rfl) rfl (fun x6 => ?_)
    refine T_callSi (pc := 75) (rest := [.int v3]) (Rn_V (pc := 75) (as := [.int v2, .long x5, .long x6]) (rest := [.int v3]) (ctX1_worthOf σ v2 x5 x6) rfl rfl mv_X1_worthOf hw1342 rfl ⟨Nat.le_of_ble_eq_true rfl, Nat.le_of_ble_eq_true rfl⟩ (Nat.le_of_ble_eq_true rfl) dX11_worth_75 rfl) rfl (fun r7 => ?_)
    refine T_iadd (pc := 78) dX11_worth_78 ?_
    refine T_letI (fun x8 => ?_)
    refine T_istore_n (pc := 79) (lv' := [(0, .ref 0), (1, .int v1), (2, .int v2), (3, .int x8), (4, .int v4), (5, .int x4)]) dX11_worth_79 rfl (Nat.le_of_ble_eq_true rfl) rfl ?_
    refine T_iinc (pc := 80) (y := 1) (lv' := [(0, .ref 0), (1, .int v1), (2, .int v2), (3, .int x8), (4, .int (v4 + (1 : Int32))), (5, .int x4)]) 4 dX11_worth_80 (by decide) rfl (Nat.le_of_ble_eq_true rfl) rfl ?_
    refine T_goto (pc := 83) 29 dX11_worth_83 (by decide) ?_
    refine T_pick (lv' := [(0, .ref 0), (1, .int v1), (2, .int v2), (3, .int x8), (4, .int (v4 + (1 : Int32)))]) [0, 1, 2, 3, 4] rfl ?_
    exact hkb r7.2 x8 (v4 + (1 : Int32))
set_option maxRecDepth 100000 in
set_option maxHeartbeats 4000000 in
theorem fX11_worth_P29_T (v1 : Int32) (v2 : Int32) (σ : St) (v3 : Int32) (v4 : Int32) : T kX11_worth cSi σ 29 [(0, .ref 0), (1, .int v1), (2, .int v2), (3, .int v3), (4, .int v4)] [] (fX11_worth_P29 v1 v2 σ v3 v4) :=
  it_T (S := (fun t : St × Int32 × Int32 => t.1)) (lv := fun t : St × Int32 × Int32 => [(0, .ref 0), (1, .int v1), (2, .int v2), (3, .int t.2.1), (4, .int t.2.2)]) (st := fun _ => []) (fun kb hkb t => fX11_worth_L29_T v1 v2 (hkb := fun σ v3 v4 => hkb (σ, v3, v4)) t.1 t.2.1 t.2.2) FU (σ, v3, v4)
set_option maxRecDepth 100000 in
set_option maxHeartbeats 4000000 in
theorem ctX11_worth (σ : St) (p0 : Int32) (p1 : Int32) : Ct yX11_worth kX11_worth [.ref 0, .int p0, .int p1] σ cSi (fX11_worth σ p0 p1) := by
  refine Ct.of (by decide +kernel) rfl rfl (Nat.le_of_ble_eq_true rfl) ?_
  unfold fX11_worth
  show T _ _ _ 0 [(0, .ref 0), (1, .int p0), (2, .int p1)] [] _
  refine T_aload_n (pc := 0) 0 dX11_worth_0 rfl rfl ?_
  refine T_getA (pc := 1) fd_0_4 hw443 dX11_worth_1 ?_
  refine T_iload_n (pc := 4) 1 dX11_worth_4 rfl rfl ?_
  refine T_callPz (pc := 5) (rest := []) (Rn_V (pc := 5) (as := [.int p0]) (rest := []) (ctX7_hasRoll σ p0) rfl rfl mv_X7_hasRoll hw782 rfl ⟨Nat.le_of_ble_eq_true rfl, Nat.le_of_ble_eq_true rfl⟩ (Nat.le_of_ble_eq_true rfl) dX11_worth_5 rfl) rfl (fun x1 => ?_)
  refine T_if_eq (pc := 8) 22 dX11_worth_8 (by decide) (fun _ => ?_) (fun _ => ?_)
  · refine T_iconst (pc := 22) (v := -1) dX11_worth_22 (by decide) ?_
    exact T_ireturn (pc := 23) rfl dX11_worth_23 rfl
  · refine T_aload_n (pc := 11) 0 dX11_worth_11 rfl rfl ?_
    refine T_getA (pc := 12) fd_0_3 hw442 dX11_worth_12 ?_
    refine T_iload_n (pc := 15) 2 dX11_worth_15 rfl rfl ?_
    refine T_callPz (pc := 16) (rest := []) (Rn_V (pc := 16) (as := [.int p1]) (rest := []) (ctX1_has σ p1) rfl rfl mv_X1_has hw1320 rfl ⟨Nat.le_of_ble_eq_true rfl, Nat.le_of_ble_eq_true rfl⟩ (Nat.le_of_ble_eq_true rfl) dX11_worth_16 rfl) rfl (fun x2 => ?_)
    refine T_if_ne (pc := 19) 24 dX11_worth_19 (by decide) (fun _ => ?_) (fun _ => ?_)
    · refine T_iconst (pc := 24) (v := 0) dX11_worth_24 (by decide) ?_
      refine T_istore_n (pc := 25) (lv' := [(0, .ref 0), (1, .int p0), (2, .int p1), (3, .int (0 : Int32))]) dX11_worth_25 rfl (Nat.le_of_ble_eq_true rfl) rfl ?_
      refine T_iconst (pc := 26) (v := 0) dX11_worth_26 (by decide) ?_
      refine T_istore (pc := 27) (lv' := [(0, .ref 0), (1, .int p0), (2, .int p1), (3, .int (0 : Int32)), (4, .int (0 : Int32))]) dX11_worth_27 (Nat.le_of_ble_eq_true rfl) rfl ?_
      exact fX11_worth_P29_T p0 p1 σ (0 : Int32) (0 : Int32)
    · refine T_iconst (pc := 22) (v := -1) dX11_worth_22 (by decide) ?_
      exact T_ireturn (pc := 23) rfl dX11_worth_23 rfl
set_option maxRecDepth 100000 in
set_option maxHeartbeats 4000000 in
theorem ctX8_hasGapAhead (σ : St) (p0 : Int32) : Ct yX8_hasGapAhead kX8_hasGapAhead [.ref 8, .int p0] σ (cPz σ) (fX8_hasGapAhead σ p0) := by
  refine Ct.of (by decide +kernel) rfl rfl (Nat.le_of_ble_eq_true rfl) ?_
  unfold fX8_hasGapAhead
  show T _ _ _ 0 [(0, .ref 8), (1, .int p0)] [] _
  refine T_aload_n (pc := 0) 0 dX8_hasGapAhead_0 rfl rfl ?_
  refine T_iload_n (pc := 1) 1 dX8_hasGapAhead_1 rfl rfl ?_
  refine T_callPi (pc := 2) (rest := []) (Rn_V (pc := 2) (as := [.int p0]) (rest := []) (ctX8_playedAt σ p0) rfl rfl mv_X8_playedAt hw1126 rfl ⟨Nat.le_of_ble_eq_true rfl, Nat.le_of_ble_eq_true rfl⟩ (Nat.le_of_ble_eq_true rfl) dX8_hasGapAhead_2 rfl) rfl (fun x1 => ?_)
  refine T_istore_n (pc := 5) (lv' := [(0, .ref 8), (1, .int p0), (2, .int x1)]) dX8_hasGapAhead_5 rfl (Nat.le_of_ble_eq_true rfl) rfl ?_
  refine T_iload_n (pc := 6) 1 dX8_hasGapAhead_6 rfl rfl ?_
  refine T_if_ne (pc := 7) 19 dX8_hasGapAhead_7 (by decide) (fun _ => ?_) (fun _ => ?_)
  · refine T_aload_n (pc := 19) 0 dX8_hasGapAhead_19 rfl rfl ?_
    refine T_iload_n (pc := 20) 1 dX8_hasGapAhead_20 rfl rfl ?_
    refine T_iconst (pc := 21) (v := 1) dX8_hasGapAhead_21 (by decide) ?_
    refine T_isub (pc := 22) dX8_hasGapAhead_22 ?_
    refine T_callPi (pc := 23) (rest := []) (Rn_V (pc := 23) (as := [.int (p0 - (1 : Int32))]) (rest := []) (ctX8_playedAt σ (p0 - (1 : Int32))) rfl rfl mv_X8_playedAt hw1126 rfl ⟨Nat.le_of_ble_eq_true rfl, Nat.le_of_ble_eq_true rfl⟩ (Nat.le_of_ble_eq_true rfl) dX8_hasGapAhead_23 rfl) rfl (fun x2 => ?_)
    refine T_istore_n (pc := 26) (lv' := [(0, .ref 8), (1, .int p0), (2, .int x1), (3, .int x2)]) dX8_hasGapAhead_26 rfl (Nat.le_of_ble_eq_true rfl) rfl ?_
    refine T_iload_n (pc := 27) 3 dX8_hasGapAhead_27 rfl rfl ?_
    refine T_callPi (pc := 28) (rest := []) (Rn_S (pc := 28) (as := [.int x2]) (rest := []) (ctX7_rollOf σ x2) ms_X7_rollOf hw1130 rfl ⟨Nat.le_of_ble_eq_true rfl, Nat.le_of_ble_eq_true rfl⟩ (Nat.le_of_ble_eq_true rfl) dX8_hasGapAhead_28 rfl) rfl (fun x3 => ?_)
    refine T_iload_n (pc := 31) 2 dX8_hasGapAhead_31 rfl rfl ?_
    refine T_callPi (pc := 32) (rest := [.int x3]) (Rn_S (pc := 32) (as := [.int x1]) (rest := [.int x3]) (ctX7_rollOf σ x1) ms_X7_rollOf hw1130 rfl ⟨Nat.le_of_ble_eq_true rfl, Nat.le_of_ble_eq_true rfl⟩ (Nat.le_of_ble_eq_true rfl) dX8_hasGapAhead_32 rfl) rfl (fun x4 => ?_)
    refine T_icmp_eq (pc := 35) 50 dX8_hasGapAhead_35 (by decide) (fun _ => ?_) (fun _ => ?_)
    · refine T_iconst (pc := 50) (v := 1) dX8_hasGapAhead_50 (by decide) ?_
      refine T_goto (pc := 51) 55 dX8_hasGapAhead_51 (by decide) ?_
      exact T_zreturn (pc := 55) true rfl dX8_hasGapAhead_55 rfl rfl
    · refine T_aload_n (pc := 38) 0 dX8_hasGapAhead_38 rfl rfl ?_
      refine T_getA (pc := 39) fd_8_1 hw390 dX8_hasGapAhead_39 ?_
      refine T_iload_n (pc := 42) 2 dX8_hasGapAhead_42 rfl rfl ?_
      refine T_iload_n (pc := 43) 3 dX8_hasGapAhead_43 rfl rfl ?_
      refine T_callPz (pc := 44) (rest := []) (Rn_V (pc := 44) (as := [.int x1, .int x2]) (rest := []) (ctX0_closes σ x1 x2) rfl rfl mv_X0_closes hw1154 rfl ⟨Nat.le_of_ble_eq_true rfl, Nat.le_of_ble_eq_true rfl⟩ (Nat.le_of_ble_eq_true rfl) dX8_hasGapAhead_44 rfl) rfl (fun x5 => ?_)
      refine T_if_ne (pc := 47) 54 dX8_hasGapAhead_47 (by decide) (fun _ => ?_) (fun _ => ?_)
      · refine T_iconst (pc := 54) (v := 0) dX8_hasGapAhead_54 (by decide) ?_
        exact T_zreturn (pc := 55) false rfl dX8_hasGapAhead_55 rfl rfl
      · refine T_iconst (pc := 50) (v := 1) dX8_hasGapAhead_50 (by decide) ?_
        refine T_goto (pc := 51) 55 dX8_hasGapAhead_51 (by decide) ?_
        exact T_zreturn (pc := 55) true rfl dX8_hasGapAhead_55 rfl rfl
  · refine T_aload_n (pc := 10) 0 dX8_hasGapAhead_10 rfl rfl ?_
    refine T_getA (pc := 11) fd_8_0 hw389 dX8_hasGapAhead_11 ?_
    refine T_iload_n (pc := 14) 2 dX8_hasGapAhead_14 rfl rfl ?_
    refine T_callPz (pc := 15) (rest := []) (Rn_V (pc := 15) (as := [.int x1]) (rest := []) (ctX7_hasCue σ x1) rfl rfl mv_X7_hasCue hw1153 rfl ⟨Nat.le_of_ble_eq_true rfl, Nat.le_of_ble_eq_true rfl⟩ (Nat.le_of_ble_eq_true rfl) dX8_hasGapAhead_15 rfl) rfl (fun x6 => ?_)
    exact T_zreturn (pc := 18) x6 rfl dX8_hasGapAhead_18 rfl rfl
set_option maxRecDepth 100000 in
set_option maxHeartbeats 4000000 in
theorem fX8_gapOfPlay_L4_T (v1 : Int32) (σ : St) {k1 : Int32 → Option Int32} {kb : Int32 → Int32 → Option Int32} (hk1 : ∀ (w2 : Int32), T kX8_gapOfPlay (cPi σ) σ 36 [(1, .int v1), (2, .int w2)] [] (k1 w2)) (hkb : ∀ (w2 : Int32) (w3 : Int32), T kX8_gapOfPlay (cPi σ) σ 4 [(0, .ref 8), (1, .int v1), (2, .int w2), (3, .int w3)] [] (kb w2 w3)) (v2 : Int32) (v3 : Int32) : T kX8_gapOfPlay (cPi σ) σ 4 [(0, .ref 8), (1, .int v1), (2, .int v2), (3, .int v3)] [] (fX8_gapOfPlay_L4 v1 k1 kb σ v2 v3) := by
  unfold fX8_gapOfPlay_L4
  refine T_iload_n (pc := 4) 3 dX8_gapOfPlay_4 rfl rfl ?_
  refine T_aload_n (pc := 5) 0 dX8_gapOfPlay_5 rfl rfl ?_
  refine T_getI (pc := 6) fd_8_5 hw394 dX8_gapOfPlay_6 ?_
  refine T_icmp_ge (pc := 9) 36 dX8_gapOfPlay_9 (by decide) (fun _ => ?_) (fun _ => ?_)
  · refine T_pick (lv' := [(1, .int v1), (2, .int v2)]) [1, 2] rfl ?_
    exact hk1 v2
  · refine T_aload_n (pc := 12) 0 dX8_gapOfPlay_12 rfl rfl ?_
    refine T_iload_n (pc := 13) 3 dX8_gapOfPlay_13 rfl rfl ?_
    refine T_callPz (pc := 14) (rest := []) (Rn_V (pc := 14) (as := [.int v3]) (rest := []) (ctX8_hasGapAhead σ v3) rfl rfl mv_X8_hasGapAhead hw1149 rfl ⟨Nat.le_of_ble_eq_true rfl, Nat.le_of_ble_eq_true rfl⟩ (Nat.le_of_ble_eq_true rfl) dX8_gapOfPlay_14 rfl) rfl (fun x1 => ?_)
    refine T_if_eq (pc := 17) 30 dX8_gapOfPlay_17 (by decide) (fun _ => ?_) (fun _ => ?_)
    · refine T_iinc (pc := 30) (y := 1) (lv' := [(0, .ref 8), (1, .int v1), (2, .int v2), (3, .int (v3 + (1 : Int32)))]) 3 dX8_gapOfPlay_30 (by decide) rfl (Nat.le_of_ble_eq_true rfl) rfl ?_
      refine T_goto (pc := 33) 4 dX8_gapOfPlay_33 (by decide) ?_
      exact hkb v2 (v3 + (1 : Int32))
    · refine T_iload_n (pc := 20) 2 dX8_gapOfPlay_20 rfl rfl ?_
      refine T_iload_n (pc := 21) 1 dX8_gapOfPlay_21 rfl rfl ?_
      refine T_icmp_ne (pc := 22) 27 dX8_gapOfPlay_22 (by decide) (fun _ => ?_) (fun _ => ?_)
      · refine T_iinc (pc := 27) (y := 1) (lv' := [(0, .ref 8), (1, .int v1), (2, .int (v2 + (1 : Int32))), (3, .int v3)]) 2 dX8_gapOfPlay_27 (by decide) rfl (Nat.le_of_ble_eq_true rfl) rfl ?_
        refine T_iinc (pc := 30) (y := 1) (lv' := [(0, .ref 8), (1, .int v1), (2, .int (v2 + (1 : Int32))), (3, .int (v3 + (1 : Int32)))]) 3 dX8_gapOfPlay_30 (by decide) rfl (Nat.le_of_ble_eq_true rfl) rfl ?_
        refine T_goto (pc := 33) 4 dX8_gapOfPlay_33 (by decide) ?_
        exact hkb (v2 + (1 : Int32)) (v3 + (1 : Int32))
      · refine T_iload_n (pc := 25) 3 dX8_gapOfPlay_25 rfl rfl ?_
        exact T_ireturn (pc := 26) rfl dX8_gapOfPlay_26 rfl
set_option maxRecDepth 100000 in
set_option maxHeartbeats 4000000 in
theorem fX8_gapOfPlay_P4_T (v1 : Int32) (σ : St) {k1 : Int32 → Option Int32} (hk1 : ∀ (w2 : Int32), T kX8_gapOfPlay (cPi σ) σ 36 [(1, .int v1), (2, .int w2)] [] (k1 w2)) (v2 : Int32) (v3 : Int32) : T kX8_gapOfPlay (cPi σ) σ 4 [(0, .ref 8), (1, .int v1), (2, .int v2), (3, .int v3)] [] (fX8_gapOfPlay_P4 v1 k1 σ v2 v3) :=
  it_T (S := (fun _ : Int32 × Int32 => σ)) (lv := fun t : Int32 × Int32 => [(0, .ref 8), (1, .int v1), (2, .int t.1), (3, .int t.2)]) (st := fun _ => []) (fun kb hkb t => fX8_gapOfPlay_L4_T v1 (hk1 := hk1) (hkb := fun v2 v3 => hkb (v2, v3)) σ t.1 t.2) FU (v2, v3)
set_option maxRecDepth 100000 in
set_option maxHeartbeats 4000000 in
theorem ctX8_gapOfPlay (σ : St) (p0 : Int32) : Ct yX8_gapOfPlay kX8_gapOfPlay [.ref 8, .int p0] σ (cPi σ) (fX8_gapOfPlay σ p0) := by
  refine Ct.of (by decide +kernel) rfl rfl (Nat.le_of_ble_eq_true rfl) ?_
  unfold fX8_gapOfPlay
  show T _ _ _ 0 [(0, .ref 8), (1, .int p0)] [] _
  refine T_iconst (pc := 0) (v := 0) dX8_gapOfPlay_0 (by decide) ?_
  refine T_istore_n (pc := 1) (lv' := [(0, .ref 8), (1, .int p0), (2, .int (0 : Int32))]) dX8_gapOfPlay_1 rfl (Nat.le_of_ble_eq_true rfl) rfl ?_
  refine T_iconst (pc := 2) (v := 0) dX8_gapOfPlay_2 (by decide) ?_
  refine T_istore_n (pc := 3) (lv' := [(0, .ref 8), (1, .int p0), (2, .int (0 : Int32)), (3, .int (0 : Int32))]) dX8_gapOfPlay_3 rfl (Nat.le_of_ble_eq_true rfl) rfl ?_
  refine fX8_gapOfPlay_P4_T p0 (hk1 := fun x2 => ?_) σ (0 : Int32) (0 : Int32)
  · refine T_iload_n (pc := 36) 0 dX8_gapOfPlay_36 rfl rfl ?_
    refine T_iconst (pc := 37) (v := -1) dX8_gapOfPlay_37 (by decide) ?_
    refine T_icmp_ne (pc := 38) 45 dX8_gapOfPlay_38 (by decide) (fun _ => ?_) (fun _ => ?_)
    · refine T_iconst (pc := 45) (v := -1) dX8_gapOfPlay_45 (by decide) ?_
      exact T_ireturn (pc := 46) rfl dX8_gapOfPlay_46 rfl
    · refine T_iload_n (pc := 41) 1 dX8_gapOfPlay_41 rfl rfl ?_
      refine T_goto (pc := 42) 46 dX8_gapOfPlay_42 (by decide) ?_
      exact T_ireturn (pc := 46) rfl dX8_gapOfPlay_46 rfl
set_option maxRecDepth 100000 in
set_option maxHeartbeats 4000000 in
theorem ctX11_wrong (σ : St) (p0 : Int32) : Ct yX11_wrong kX11_wrong [.ref 0, .int p0] σ (cPi σ) (fX11_wrong σ p0) := by
  refine Ct.of (by decide +kernel) rfl rfl (Nat.le_of_ble_eq_true rfl) ?_
  unfold fX11_wrong
  show T _ _ _ 0 [(0, .ref 0), (1, .int p0)] [] _
  refine T_aload_n (pc := 0) 0 dX11_wrong_0 rfl rfl ?_
  refine T_getA (pc := 1) fd_0_7 hw446 dX11_wrong_1 ?_
  refine T_iload_n (pc := 4) 1 dX11_wrong_4 rfl rfl ?_
  refine T_callPi (pc := 5) (rest := []) (Rn_V (pc := 5) (as := [.int p0]) (rest := []) (ctX8_gapOfPlay σ p0) rfl rfl mv_X8_gapOfPlay hw1145 rfl ⟨Nat.le_of_ble_eq_true rfl, Nat.le_of_ble_eq_true rfl⟩ (Nat.le_of_ble_eq_true rfl) dX11_wrong_5 rfl) rfl (fun x1 => ?_)
  exact T_ireturn (pc := 8) rfl dX11_wrong_8 rfl
set_option maxRecDepth 100000 in
set_option maxHeartbeats 4000000 in
theorem ctX12_isRoll (σ : St) (p0 : Int32) : Ct yX12_isRoll kX12_isRoll [.ref 10, .int p0] σ (cPz σ) (fX12_isRoll σ p0) := by
  refine Ct.of (by decide +kernel) rfl rfl (Nat.le_of_ble_eq_true rfl) ?_
  unfold fX12_isRoll
  show T _ _ _ 0 [(0, .ref 10), (1, .int p0)] [] _
  refine T_iload_n (pc := 0) 1 dX12_isRoll_0 rfl rfl ?_
  refine T_if_lt (pc := 1) 16 dX12_isRoll_1 (by decide) (fun _ => ?_) (fun _ => ?_)
  · refine T_iconst (pc := 16) (v := 0) dX12_isRoll_16 (by decide) ?_
    exact T_zreturn (pc := 17) false rfl dX12_isRoll_17 rfl rfl
  · refine T_iload_n (pc := 4) 1 dX12_isRoll_4 rfl rfl ?_
    refine T_aload_n (pc := 5) 0 dX12_isRoll_5 rfl rfl ?_
    refine T_getI (pc := 6) fd_10_8 hw1511 dX12_isRoll_6 ?_
    refine T_icmp_ge (pc := 9) 16 dX12_isRoll_9 (by decide) (fun _ => ?_) (fun _ => ?_)
    · refine T_iconst (pc := 16) (v := 0) dX12_isRoll_16 (by decide) ?_
      exact T_zreturn (pc := 17) false rfl dX12_isRoll_17 rfl rfl
    · refine T_iconst (pc := 12) (v := 1) dX12_isRoll_12 (by decide) ?_
      refine T_goto (pc := 13) 17 dX12_isRoll_13 (by decide) ?_
      exact T_zreturn (pc := 17) true rfl dX12_isRoll_17 rfl rfl
