/-! methods X12_readCue .. X12_first: by program (wip/gen) -/
set_option maxRecDepth 100000 in
set_option maxHeartbeats 4000000 in
theorem fX12_readCue_L29_T (v1 : Int32) (σ : St) {k1 : St → Option St} {kb : St → Option St} (hk1 : ∀ (σ' : St), T kX12_readCue cSv σ' 39 [(0, .ref 10)] [] (k1 σ')) (hkb : ∀ (σ' : St), T kX12_readCue cSv σ' 29 [(0, .ref 10), (1, .int v1)] [] (kb σ')) : T kX12_readCue cSv σ 29 [(0, .ref 10), (1, .int v1)] [] (fX12_readCue_L29 v1 k1 kb σ) := by
  unfold fX12_readCue_L29
  refine T_aload_n (pc := 29) 0 dX12_readCue_29 rfl rfl ?_
  refine T_getA (pc := 30) fd_10_22 hw1525 dX12_readCue_30 ?_
  refine T_iload_n (pc := 33) 1 dX12_readCue_33 rfl rfl ?_
  refine T_iald (pc := 34) rfl dX12_readCue_34 (fun x3 => ?_)
  refine T_iconst (pc := 35) (v := 2) dX12_readCue_35 (by decide) ?_
  refine T_icmp_ne (pc := 36) 45 dX12_readCue_36 (by decide) (fun _ => ?_) (fun _ => ?_)
  · refine T_aload_n (pc := 45) 0 dX12_readCue_45 rfl rfl ?_
    refine T_getA (pc := 46) fd_10_24 hw1527 dX12_readCue_46 ?_
    refine T_iconst (pc := 49) (v := 2) dX12_readCue_49 (by decide) ?_
    refine T_iload_n (pc := 50) 1 dX12_readCue_50 rfl rfl ?_
    refine T_imul (pc := 51) dX12_readCue_51 ?_
    refine T_aload_n (pc := 52) 0 dX12_readCue_52 rfl rfl ?_
    refine T_getA (pc := 53) fd_10_22 hw1525 dX12_readCue_53 ?_
    refine T_iload_n (pc := 56) 1 dX12_readCue_56 rfl rfl ?_
    refine T_iald (pc := 57) rfl dX12_readCue_57 (fun x4 => ?_)
    refine T_iadd (pc := 58) dX12_readCue_58 ?_
    refine T_aload_n (pc := 59) 0 dX12_readCue_59 rfl rfl ?_
    refine T_getI (pc := 60) fd_10_13 hw1516 dX12_readCue_60 ?_
    refine T_iast (pc := 63) rfl dX12_readCue_63 ?_
    refine T_letS (fun s5 => ?_)
    refine T_aload_n (pc := 64) 0 dX12_readCue_64 rfl rfl ?_
    refine T_getA (pc := 65) fd_10_25 hw1528 dX12_readCue_65 ?_
    refine T_iconst (pc := 68) (v := 2) dX12_readCue_68 (by decide) ?_
    refine T_iload_n (pc := 69) 1 dX12_readCue_69 rfl rfl ?_
    refine T_imul (pc := 70) dX12_readCue_70 ?_
    refine T_aload_n (pc := 71) 0 dX12_readCue_71 rfl rfl ?_
    refine T_getA (pc := 72) fd_10_22 hw1525 dX12_readCue_72 ?_
    refine T_iload_n (pc := 75) 1 dX12_readCue_75 rfl rfl ?_
    refine T_iald (pc := 76) rfl dX12_readCue_76 (fun x6 => ?_)
    refine T_iadd (pc := 77) dX12_readCue_77 ?_
    refine T_aload_n (pc := 78) 0 dX12_readCue_78 rfl rfl ?_
    refine T_callSi (pc := 79) (rest := [.int (((2 : Int32) * v1) + x6), .ref 64]) (Rn_V (pc := 79) (as := []) (rest := [.int (((2 : Int32) * v1) + x6), .ref 64]) (ctX12_readWord s5) rfl rfl mv_X12_readWord hw1712 rfl ⟨Nat.le_of_ble_eq_true rfl, Nat.le_of_ble_eq_true rfl⟩ (Nat.le_of_ble_eq_true rfl) dX12_readCue_79 rfl) rfl (fun r7 => ?_)
    refine T_iast (pc := 82) rfl dX12_readCue_82 ?_
    refine T_letS (fun s8 => ?_)
    refine T_aload_n (pc := 83) 0 dX12_readCue_83 rfl rfl ?_
    refine T_getA (pc := 84) fd_10_22 hw1525 dX12_readCue_84 ?_
    refine T_iload_n (pc := 87) 1 dX12_readCue_87 rfl rfl ?_
    refine T_dup2_ia (pc := 88) dX12_readCue_88 ?_
    refine T_iald (pc := 89) rfl dX12_readCue_89 (fun x9 => ?_)
    refine T_iconst (pc := 90) (v := 1) dX12_readCue_90 (by decide) ?_
    refine T_iadd (pc := 91) dX12_readCue_91 ?_
    refine T_iast (pc := 92) rfl dX12_readCue_92 ?_
    refine T_letS (fun s10 => ?_)
    refine T_aload_n (pc := 93) 0 dX12_readCue_93 rfl rfl ?_
    refine T_callSi (pc := 94) (rest := []) (Rn_V (pc := 94) (as := []) (rest := []) (ctX12_look s10) rfl rfl mv_X12_look hw1704 rfl ⟨Nat.le_of_ble_eq_true rfl, Nat.le_of_ble_eq_true rfl⟩ (Nat.le_of_ble_eq_true rfl) dX12_readCue_94 rfl) rfl (fun r11 => ?_)
    refine T_istore_n (pc := 97) (lv' := [(0, .ref 10), (1, .int v1), (2, .int r11.1)]) dX12_readCue_97 rfl (Nat.le_of_ble_eq_true rfl) rfl ?_
    refine T_aload_n (pc := 98) 0 dX12_readCue_98 rfl rfl ?_
    refine T_getI (pc := 99) fd_10_14 hw1517 dX12_readCue_99 ?_
    refine T_iconst (pc := 102) (v := -1) dX12_readCue_102 (by decide) ?_
    refine T_icmp_ne (pc := 103) 113 dX12_readCue_103 (by decide) (fun _ => ?_) (fun _ => ?_)
    · exact T_return (pc := 113) rfl dX12_readCue_113 rfl
    · refine T_aload_n (pc := 106) 0 dX12_readCue_106 rfl rfl ?_
      refine T_callPz (pc := 107) (rest := []) (Rn_V (pc := 107) (as := []) (rest := []) (ctX12_isLetter r11.2) rfl rfl mv_X12_isLetter hw1716 rfl ⟨Nat.le_of_ble_eq_true rfl, Nat.le_of_ble_eq_true rfl⟩ (Nat.le_of_ble_eq_true rfl) dX12_readCue_107 rfl) rfl (fun x12 => ?_)
      refine T_if_ne (pc := 110) 29 dX12_readCue_110 (by decide) (fun _ => ?_) (fun _ => ?_)
      · refine T_pick (lv' := [(0, .ref 10), (1, .int v1)]) [0, 1] rfl ?_
        exact hkb r11.2
      · exact T_return (pc := 113) rfl dX12_readCue_113 rfl
  · refine T_pick (lv' := [(0, .ref 10)]) [0] rfl ?_
    exact hk1 σ
set_option maxRecDepth 100000 in
set_option maxHeartbeats 4000000 in
theorem fX12_readCue_P29_T (v1 : Int32) (σ : St) {k1 : St → Option St} (hk1 : ∀ (σ' : St), T kX12_readCue cSv σ' 39 [(0, .ref 10)] [] (k1 σ')) : T kX12_readCue cSv σ 29 [(0, .ref 10), (1, .int v1)] [] (fX12_readCue_P29 v1 k1 σ) :=
  it_T (S := (fun t : St => t)) (lv := fun t : St => [(0, .ref 10), (1, .int v1)]) (st := fun _ => []) (fun kb hkb t => fX12_readCue_L29_T v1 (hk1 := hk1) (hkb := fun σ => hkb σ) t) FU σ
set_option maxRecDepth 100000 in
set_option maxHeartbeats 4000000 in
theorem ctX12_readCue (σ : St) (p0 : Int32) : Ct yX12_readCue kX12_readCue [.ref 10, .int p0] σ cSv (fX12_readCue σ p0) := by
  refine Ct.of (by decide +kernel) rfl rfl (Nat.le_of_ble_eq_true rfl) ?_
  unfold fX12_readCue
  show T _ _ _ 0 [(0, .ref 10), (1, .int p0)] [] _
  refine T_aload_n (pc := 0) 0 dX12_readCue_0 rfl rfl ?_
  refine T_getA (pc := 1) fd_10_22 hw1525 dX12_readCue_1 ?_
  refine T_iload_n (pc := 4) 1 dX12_readCue_4 rfl rfl ?_
  refine T_iconst (pc := 5) (v := 0) dX12_readCue_5 (by decide) ?_
  refine T_iast (pc := 6) rfl dX12_readCue_6 ?_
  refine T_letS (fun s1 => ?_)
  refine T_aload_n (pc := 7) 0 dX12_readCue_7 rfl rfl ?_
  refine T_callSi (pc := 8) (rest := []) (Rn_V (pc := 8) (as := []) (rest := []) (ctX12_look s1) rfl rfl mv_X12_look hw1704 rfl ⟨Nat.le_of_ble_eq_true rfl, Nat.le_of_ble_eq_true rfl⟩ (Nat.le_of_ble_eq_true rfl) dX12_readCue_8 rfl) rfl (fun r2 => ?_)
  refine T_istore_n (pc := 11) (lv' := [(0, .ref 10), (1, .int p0), (2, .int r2.1)]) dX12_readCue_11 rfl (Nat.le_of_ble_eq_true rfl) rfl ?_
  refine T_iload_n (pc := 12) 2 dX12_readCue_12 rfl rfl ?_
  refine T_bipush (pc := 13) (v := 45) dX12_readCue_13 (by decide) ?_
  refine T_icmp_ne (pc := 15) 29 dX12_readCue_15 (by decide) (fun _ => ?_) (fun _ => ?_)
  · refine T_pick (lv' := [(0, .ref 10), (1, .int p0)]) [0, 1] rfl ?_
    refine fX12_readCue_P29_T p0 (hk1 := fun s13 => ?_) r2.2
    · refine T_aload_n (pc := 39) 0 dX12_readCue_39 rfl rfl ?_
      refine T_callSz (pc := 40) (rest := []) (Rn_V (pc := 40) (as := []) (rest := []) (ctX12_fails s13) rfl rfl mv_X12_fails hw1708 rfl ⟨Nat.le_of_ble_eq_true rfl, Nat.le_of_ble_eq_true rfl⟩ (Nat.le_of_ble_eq_true rfl) dX12_readCue_40 rfl) rfl (fun r14 => ?_)
      refine T_pop_i (pc := 43) dX12_readCue_43 ?_
      exact T_return (pc := 44) rfl dX12_readCue_44 rfl
  · refine T_aload_n (pc := 18) 0 dX12_readCue_18 rfl rfl ?_
    refine T_dup_a (pc := 19) dX12_readCue_19 ?_
    refine T_getI (pc := 20) fd_10_13 hw1516 dX12_readCue_20 ?_
    refine T_iconst (pc := 23) (v := 1) dX12_readCue_23 (by decide) ?_
    refine T_iadd (pc := 24) dX12_readCue_24 ?_
    refine T_putI (pc := 25) fd_10_13 hw1516 dX12_readCue_25 ?_
    refine T_letS (fun s15 => ?_)
    exact T_return (pc := 28) rfl dX12_readCue_28 rfl
set_option maxRecDepth 100000 in
set_option maxHeartbeats 4000000 in
theorem fX12_readSpeech_L12_T (v1 : Int32) (σ : St) {k1 : St → Option St} {kb : St → Option St} (hk1 : ∀ (σ' : St), T kX12_readSpeech cSv σ' 23 [(0, .ref 10)] [] (k1 σ')) (hkb : ∀ (σ' : St), T kX12_readSpeech cSv σ' 12 [(0, .ref 10), (1, .int v1)] [] (kb σ')) : T kX12_readSpeech cSv σ 12 [(0, .ref 10), (1, .int v1)] [] (fX12_readSpeech_L12 v1 k1 kb σ) := by
  unfold fX12_readSpeech_L12
  refine T_aload_n (pc := 12) 0 dX12_readSpeech_12 rfl rfl ?_
  refine T_getA (pc := 13) fd_10_23 hw1526 dX12_readSpeech_13 ?_
  refine T_iload_n (pc := 16) 1 dX12_readSpeech_16 rfl rfl ?_
  refine T_iald (pc := 17) rfl dX12_readSpeech_17 (fun x3 => ?_)
  refine T_bipush (pc := 18) (v := 12) dX12_readSpeech_18 (by decide) ?_
  refine T_icmp_ne (pc := 20) 29 dX12_readSpeech_20 (by decide) (fun _ => ?_) (fun _ => ?_)
  · refine T_aload_n (pc := 29) 0 dX12_readSpeech_29 rfl rfl ?_
    refine T_getA (pc := 30) fd_10_26 hw1529 dX12_readSpeech_30 ?_
    refine T_bipush (pc := 33) (v := 12) dX12_readSpeech_33 (by decide) ?_
    refine T_iload_n (pc := 35) 1 dX12_readSpeech_35 rfl rfl ?_
    refine T_imul (pc := 36) dX12_readSpeech_36 ?_
    refine T_aload_n (pc := 37) 0 dX12_readSpeech_37 rfl rfl ?_
    refine T_getA (pc := 38) fd_10_23 hw1526 dX12_readSpeech_38 ?_
    refine T_iload_n (pc := 41) 1 dX12_readSpeech_41 rfl rfl ?_
    refine T_iald (pc := 42) rfl dX12_readSpeech_42 (fun x4 => ?_)
    refine T_iadd (pc := 43) dX12_readSpeech_43 ?_
    refine T_aload_n (pc := 44) 0 dX12_readSpeech_44 rfl rfl ?_
    refine T_getI (pc := 45) fd_10_13 hw1516 dX12_readSpeech_45 ?_
    refine T_iast (pc := 48) rfl dX12_readSpeech_48 ?_
    refine T_letS (fun s5 => ?_)
    refine T_aload_n (pc := 49) 0 dX12_readSpeech_49 rfl rfl ?_
    refine T_getA (pc := 50) fd_10_27 hw1530 dX12_readSpeech_50 ?_
    refine T_bipush (pc := 53) (v := 12) dX12_readSpeech_53 (by decide) ?_
    refine T_iload_n (pc := 55) 1 dX12_readSpeech_55 rfl rfl ?_
    refine T_imul (pc := 56) dX12_readSpeech_56 ?_
    refine T_aload_n (pc := 57) 0 dX12_readSpeech_57 rfl rfl ?_
    refine T_getA (pc := 58) fd_10_23 hw1526 dX12_readSpeech_58 ?_
    refine T_iload_n (pc := 61) 1 dX12_readSpeech_61 rfl rfl ?_
    refine T_iald (pc := 62) rfl dX12_readSpeech_62 (fun x6 => ?_)
    refine T_iadd (pc := 63) dX12_readSpeech_63 ?_
    refine T_aload_n (pc := 64) 0 dX12_readSpeech_64 rfl rfl ?_
    refine T_callSi (pc := 65) (rest := [.int (((12 : Int32) * v1) + x6), .ref 66]) (Rn_V (pc := 65) (as := []) (rest := [.int (((12 : Int32) * v1) + x6), .ref 66]) (ctX12_readWord s5) rfl rfl mv_X12_readWord hw1712 rfl ⟨Nat.le_of_ble_eq_true rfl, Nat.le_of_ble_eq_true rfl⟩ (Nat.le_of_ble_eq_true rfl) dX12_readSpeech_65 rfl) rfl (fun r7 => ?_)
    refine T_iast (pc := 68) rfl dX12_readSpeech_68 ?_
    refine T_letS (fun s8 => ?_)
    refine T_aload_n (pc := 69) 0 dX12_readSpeech_69 rfl rfl ?_
    refine T_getA (pc := 70) fd_10_23 hw1526 dX12_readSpeech_70 ?_
    refine T_iload_n (pc := 73) 1 dX12_readSpeech_73 rfl rfl ?_
    refine T_dup2_ia (pc := 74) dX12_readSpeech_74 ?_
    refine T_iald (pc := 75) rfl dX12_readSpeech_75 (fun x9 => ?_)
    refine T_iconst (pc := 76) (v := 1) dX12_readSpeech_76 (by decide) ?_
    refine T_iadd (pc := 77) dX12_readSpeech_77 ?_
    refine T_iast (pc := 78) rfl dX12_readSpeech_78 ?_
    refine T_letS (fun s10 => ?_)
    refine T_aload_n (pc := 79) 0 dX12_readSpeech_79 rfl rfl ?_
    refine T_callSi (pc := 80) (rest := []) (Rn_V (pc := 80) (as := []) (rest := []) (ctX12_look s10) rfl rfl mv_X12_look hw1704 rfl ⟨Nat.le_of_ble_eq_true rfl, Nat.le_of_ble_eq_true rfl⟩ (Nat.le_of_ble_eq_true rfl) dX12_readSpeech_80 rfl) rfl (fun r11 => ?_)
    refine T_istore_n (pc := 83) (lv' := [(0, .ref 10), (1, .int v1), (2, .int r11.1)]) dX12_readSpeech_83 rfl (Nat.le_of_ble_eq_true rfl) rfl ?_
    refine T_aload_n (pc := 84) 0 dX12_readSpeech_84 rfl rfl ?_
    refine T_getI (pc := 85) fd_10_14 hw1517 dX12_readSpeech_85 ?_
    refine T_iconst (pc := 88) (v := -1) dX12_readSpeech_88 (by decide) ?_
    refine T_icmp_ne (pc := 89) 99 dX12_readSpeech_89 (by decide) (fun _ => ?_) (fun _ => ?_)
    · exact T_return (pc := 99) rfl dX12_readSpeech_99 rfl
    · refine T_aload_n (pc := 92) 0 dX12_readSpeech_92 rfl rfl ?_
      refine T_callPz (pc := 93) (rest := []) (Rn_V (pc := 93) (as := []) (rest := []) (ctX12_isLetter r11.2) rfl rfl mv_X12_isLetter hw1716 rfl ⟨Nat.le_of_ble_eq_true rfl, Nat.le_of_ble_eq_true rfl⟩ (Nat.le_of_ble_eq_true rfl) dX12_readSpeech_93 rfl) rfl (fun x12 => ?_)
      refine T_if_ne (pc := 96) 12 dX12_readSpeech_96 (by decide) (fun _ => ?_) (fun _ => ?_)
      · refine T_pick (lv' := [(0, .ref 10), (1, .int v1)]) [0, 1] rfl ?_
        exact hkb r11.2
      · exact T_return (pc := 99) rfl dX12_readSpeech_99 rfl
  · refine T_pick (lv' := [(0, .ref 10)]) [0] rfl ?_
    exact hk1 σ
set_option maxRecDepth 100000 in
set_option maxHeartbeats 4000000 in
theorem fX12_readSpeech_P12_T (v1 : Int32) (σ : St) {k1 : St → Option St} (hk1 : ∀ (σ' : St), T kX12_readSpeech cSv σ' 23 [(0, .ref 10)] [] (k1 σ')) : T kX12_readSpeech cSv σ 12 [(0, .ref 10), (1, .int v1)] [] (fX12_readSpeech_P12 v1 k1 σ) :=
  it_T (S := (fun t : St => t)) (lv := fun t : St => [(0, .ref 10), (1, .int v1)]) (st := fun _ => []) (fun kb hkb t => fX12_readSpeech_L12_T v1 (hk1 := hk1) (hkb := fun σ => hkb σ) t) FU σ
set_option maxRecDepth 100000 in
set_option maxHeartbeats 4000000 in
theorem ctX12_readSpeech (σ : St) (p0 : Int32) : Ct yX12_readSpeech kX12_readSpeech [.ref 10, .int p0] σ cSv (fX12_readSpeech σ p0) := by
  refine Ct.of (by decide +kernel) rfl rfl (Nat.le_of_ble_eq_true rfl) ?_
  unfold fX12_readSpeech
  show T _ _ _ 0 [(0, .ref 10), (1, .int p0)] [] _
  refine T_aload_n (pc := 0) 0 dX12_readSpeech_0 rfl rfl ?_
  refine T_getA (pc := 1) fd_10_23 hw1526 dX12_readSpeech_1 ?_
  refine T_iload_n (pc := 4) 1 dX12_readSpeech_4 rfl rfl ?_
  refine T_iconst (pc := 5) (v := 0) dX12_readSpeech_5 (by decide) ?_
  refine T_iast (pc := 6) rfl dX12_readSpeech_6 ?_
  refine T_letS (fun s1 => ?_)
  refine T_aload_n (pc := 7) 0 dX12_readSpeech_7 rfl rfl ?_
  refine T_callSi (pc := 8) (rest := []) (Rn_V (pc := 8) (as := []) (rest := []) (ctX12_look s1) rfl rfl mv_X12_look hw1704 rfl ⟨Nat.le_of_ble_eq_true rfl, Nat.le_of_ble_eq_true rfl⟩ (Nat.le_of_ble_eq_true rfl) dX12_readSpeech_8 rfl) rfl (fun r2 => ?_)
  refine T_istore_n (pc := 11) (lv' := [(0, .ref 10), (1, .int p0), (2, .int r2.1)]) dX12_readSpeech_11 rfl (Nat.le_of_ble_eq_true rfl) rfl ?_
  refine T_pick (lv' := [(0, .ref 10), (1, .int p0)]) [0, 1] rfl ?_
  refine fX12_readSpeech_P12_T p0 (hk1 := fun s13 => ?_) r2.2
  · refine T_aload_n (pc := 23) 0 dX12_readSpeech_23 rfl rfl ?_
    refine T_callSz (pc := 24) (rest := []) (Rn_V (pc := 24) (as := []) (rest := []) (ctX12_fails s13) rfl rfl mv_X12_fails hw1708 rfl ⟨Nat.le_of_ble_eq_true rfl, Nat.le_of_ble_eq_true rfl⟩ (Nat.le_of_ble_eq_true rfl) dX12_readSpeech_24 rfl) rfl (fun r14 => ?_)
    refine T_pop_i (pc := 27) dX12_readSpeech_27 ?_
    exact T_return (pc := 28) rfl dX12_readSpeech_28 rfl
set_option maxRecDepth 100000 in
set_option maxHeartbeats 4000000 in
theorem fX12_readRoll_L22_T (v1 : Int32) (σ : St) {k1 : St → Option St} {k2 : St → Option St} {kb : St → Int32 → Option St} (hk1 : ∀ (σ' : St), T kX12_readRoll cSv σ' 107 [(0, .ref 10)] [] (k1 σ')) (hk2 : ∀ (σ' : St), T kX12_readRoll cSv σ' 130 [(0, .ref 10)] [] (k2 σ')) (hkb : ∀ (σ' : St) (w2 : Int32), T kX12_readRoll cSv σ' 22 [(0, .ref 10), (1, .int v1), (2, .int w2)] [] (kb σ' w2)) (v2 : Int32) : T kX12_readRoll cSv σ 22 [(0, .ref 10), (1, .int v1), (2, .int v2)] [] (fX12_readRoll_L22 v1 k1 k2 kb σ v2) := by
  unfold fX12_readRoll_L22
  refine T_iload_n (pc := 22) 2 dX12_readRoll_22 rfl rfl ?_
  refine T_if_eq (pc := 23) 130 dX12_readRoll_23 (by decide) (fun _ => ?_) (fun _ => ?_)
  · refine T_pick (lv' := [(0, .ref 10)]) [0] rfl ?_
    exact hk2 σ
  · refine T_bipush (pc := 26) (v := 16) dX12_readRoll_26 (by decide) ?_
    refine T_iload_n (pc := 28) 1 dX12_readRoll_28 rfl rfl ?_
    refine T_imul (pc := 29) dX12_readRoll_29 ?_
    refine T_aload_n (pc := 30) 0 dX12_readRoll_30 rfl rfl ?_
    refine T_getA (pc := 31) fd_10_21 hw1524 dX12_readRoll_31 ?_
    refine T_iload_n (pc := 34) 1 dX12_readRoll_34 rfl rfl ?_
    refine T_iald (pc := 35) rfl dX12_readRoll_35 (fun x3 => ?_)
    refine T_iadd (pc := 36) dX12_readRoll_36 ?_
    refine T_letI (fun x4 => ?_)
    refine T_istore_n (pc := 37) (lv' := [(0, .ref 10), (1, .int v1), (2, .int v2), (3, .int x4)]) dX12_readRoll_37 rfl (Nat.le_of_ble_eq_true rfl) rfl ?_
    refine T_aload_n (pc := 38) 0 dX12_readRoll_38 rfl rfl ?_
    refine T_iload_n (pc := 39) 3 dX12_readRoll_39 rfl rfl ?_
    refine T_callSv (pc := 40) (rest := []) (Rn_V (pc := 40) (as := [.int x4]) (rest := []) (ctX12_readCue σ x4) rfl rfl mv_X12_readCue hw1700 rfl ⟨Nat.le_of_ble_eq_true rfl, Nat.le_of_ble_eq_true rfl⟩ (Nat.le_of_ble_eq_true rfl) dX12_readRoll_40 rfl) rfl (fun s5 => ?_)
    refine T_aload_n (pc := 43) 0 dX12_readRoll_43 rfl rfl ?_
    refine T_bipush (pc := 44) (v := 62) dX12_readRoll_44 (by decide) ?_
    refine T_callSz (pc := 46) (rest := []) (Rn_V (pc := 46) (as := [.int (62 : Int32)]) (rest := []) (ctX12_takes s5 (62 : Int32)) rfl rfl mv_X12_takes hw1720 rfl ⟨Nat.le_of_ble_eq_true rfl, Nat.le_of_ble_eq_true rfl⟩ (Nat.le_of_ble_eq_true rfl) dX12_readRoll_46 rfl) rfl (fun r6 => ?_)
    refine T_if_ne (pc := 49) 53 dX12_readRoll_49 (by decide) (fun _ => ?_) (fun _ => ?_)
    · refine T_aload_n (pc := 53) 0 dX12_readRoll_53 rfl rfl ?_
      refine T_iload_n (pc := 54) 3 dX12_readRoll_54 rfl rfl ?_
      refine T_callSv (pc := 55) (rest := []) (Rn_V (pc := 55) (as := [.int x4]) (rest := []) (ctX12_readSpeech r6.2 x4) rfl rfl mv_X12_readSpeech hw1724 rfl ⟨Nat.le_of_ble_eq_true rfl, Nat.le_of_ble_eq_true rfl⟩ (Nat.le_of_ble_eq_true rfl) dX12_readRoll_55 rfl) rfl (fun s7 => ?_)
      refine T_aload_n (pc := 58) 0 dX12_readRoll_58 rfl rfl ?_
      refine T_getI (pc := 59) fd_10_14 hw1517 dX12_readRoll_59 ?_
      refine T_iconst (pc := 62) (v := -1) dX12_readRoll_62 (by decide) ?_
      refine T_icmp_eq (pc := 63) 67 dX12_readRoll_63 (by decide) (fun _ => ?_) (fun _ => ?_)
      · refine T_aload_n (pc := 67) 0 dX12_readRoll_67 rfl rfl ?_
        refine T_getA (pc := 68) fd_10_21 hw1524 dX12_readRoll_68 ?_
        refine T_iload_n (pc := 71) 1 dX12_readRoll_71 rfl rfl ?_
        refine T_dup2_ia (pc := 72) dX12_readRoll_72 ?_
        refine T_iald (pc := 73) rfl dX12_readRoll_73 (fun x8 => ?_)
        refine T_iconst (pc := 74) (v := 1) dX12_readRoll_74 (by decide) ?_
        refine T_iadd (pc := 75) dX12_readRoll_75 ?_
        refine T_iast (pc := 76) rfl dX12_readRoll_76 ?_
        refine T_letS (fun s9 => ?_)
        refine T_aload_n (pc := 77) 0 dX12_readRoll_77 rfl rfl ?_
        refine T_callSi (pc := 78) (rest := []) (Rn_V (pc := 78) (as := []) (rest := []) (ctX12_look s9) rfl rfl mv_X12_look hw1704 rfl ⟨Nat.le_of_ble_eq_true rfl, Nat.le_of_ble_eq_true rfl⟩ (Nat.le_of_ble_eq_true rfl) dX12_readRoll_78 rfl) rfl (fun r10 => ?_)
        refine T_bipush (pc := 81) (v := 59) dX12_readRoll_81 (by decide) ?_
        refine T_icmp_ne (pc := 83) 90 dX12_readRoll_83 (by decide) (fun _ => ?_) (fun _ => ?_)
        · refine T_iconst (pc := 90) (v := 0) dX12_readRoll_90 (by decide) ?_
          refine T_istore_n (pc := 91) (lv' := [(0, .ref 10), (1, .int v1), (2, .int (0 : Int32)), (3, .int x4)]) dX12_readRoll_91 rfl (Nat.le_of_ble_eq_true rfl) rfl ?_
          refine T_iload_n (pc := 92) 2 dX12_readRoll_92 rfl rfl ?_
          refine T_if_eq (pc := 93) 113 dX12_readRoll_93 (by decide) (fun _ => ?_) (fun _ => ?_)
          · refine T_iload_n (pc := 113) 2 dX12_readRoll_113 rfl rfl ?_
            refine T_if_eq (pc := 114) 127 dX12_readRoll_114 (by decide) (fun _ => ?_) (fun _ => ?_)
            · refine T_goto (pc := 127) 22 dX12_readRoll_127 (by decide) ?_
              refine T_pick (lv' := [(0, .ref 10), (1, .int v1), (2, .int (0 : Int32))]) [0, 1, 2] rfl ?_
              exact hkb r10.2 (0 : Int32)
            · refine T_aload_n (pc := 117) 0 dX12_readRoll_117 rfl rfl ?_
              refine T_dup_a (pc := 118) dX12_readRoll_118 ?_
              refine T_getI (pc := 119) fd_10_13 hw1516 dX12_readRoll_119 ?_
              refine T_iconst (pc := 122) (v := 1) dX12_readRoll_122 (by decide) ?_
              refine T_iadd (pc := 123) dX12_readRoll_123 ?_
              refine T_putI (pc := 124) fd_10_13 hw1516 dX12_readRoll_124 ?_
              refine T_letS (fun s11 => ?_)
              refine T_goto (pc := 127) 22 dX12_readRoll_127 (by decide) ?_
              refine T_pick (lv' := [(0, .ref 10), (1, .int v1), (2, .int (0 : Int32))]) [0, 1, 2] rfl ?_
              exact hkb s11 (0 : Int32)
          · refine T_aload_n (pc := 96) 0 dX12_readRoll_96 rfl rfl ?_
            refine T_getA (pc := 97) fd_10_21 hw1524 dX12_readRoll_97 ?_
            refine T_iload_n (pc := 100) 1 dX12_readRoll_100 rfl rfl ?_
            refine T_iald (pc := 101) rfl dX12_readRoll_101 (fun x12 => ?_)
            refine T_bipush (pc := 102) (v := 12) dX12_readRoll_102 (by decide) ?_
            refine T_icmp_ne (pc := 104) 113 dX12_readRoll_104 (by decide) (fun _ => ?_) (fun _ => ?_)
            · refine T_iload_n (pc := 113) 2 dX12_readRoll_113 rfl rfl ?_
              refine T_if_eq (pc := 114) 127 dX12_readRoll_114 (by decide) (fun _ => ?_) (fun _ => ?_)
              · refine T_goto (pc := 127) 22 dX12_readRoll_127 (by decide) ?_
                refine T_pick (lv' := [(0, .ref 10), (1, .int v1), (2, .int (0 : Int32))]) [0, 1, 2] rfl ?_
                exact hkb r10.2 (0 : Int32)
              · refine T_aload_n (pc := 117) 0 dX12_readRoll_117 rfl rfl ?_
                refine T_dup_a (pc := 118) dX12_readRoll_118 ?_
                refine T_getI (pc := 119) fd_10_13 hw1516 dX12_readRoll_119 ?_
                refine T_iconst (pc := 122) (v := 1) dX12_readRoll_122 (by decide) ?_
                refine T_iadd (pc := 123) dX12_readRoll_123 ?_
                refine T_putI (pc := 124) fd_10_13 hw1516 dX12_readRoll_124 ?_
                refine T_letS (fun s13 => ?_)
                refine T_goto (pc := 127) 22 dX12_readRoll_127 (by decide) ?_
                refine T_pick (lv' := [(0, .ref 10), (1, .int v1), (2, .int (0 : Int32))]) [0, 1, 2] rfl ?_
                exact hkb s13 (0 : Int32)
            · refine T_pick (lv' := [(0, .ref 10)]) [0] rfl ?_
              exact hk1 r10.2
        · refine T_iconst (pc := 86) (v := 1) dX12_readRoll_86 (by decide) ?_
          refine T_goto (pc := 87) 91 dX12_readRoll_87 (by decide) ?_
          refine T_istore_n (pc := 91) (lv' := [(0, .ref 10), (1, .int v1), (2, .int (1 : Int32)), (3, .int x4)]) dX12_readRoll_91 rfl (Nat.le_of_ble_eq_true rfl) rfl ?_
          refine T_iload_n (pc := 92) 2 dX12_readRoll_92 rfl rfl ?_
          refine T_if_eq (pc := 93) 113 dX12_readRoll_93 (by decide) (fun _ => ?_) (fun _ => ?_)
          · refine T_iload_n (pc := 113) 2 dX12_readRoll_113 rfl rfl ?_
            refine T_if_eq (pc := 114) 127 dX12_readRoll_114 (by decide) (fun _ => ?_) (fun _ => ?_)
            · refine T_goto (pc := 127) 22 dX12_readRoll_127 (by decide) ?_
              refine T_pick (lv' := [(0, .ref 10), (1, .int v1), (2, .int (1 : Int32))]) [0, 1, 2] rfl ?_
              exact hkb r10.2 (1 : Int32)
            · refine T_aload_n (pc := 117) 0 dX12_readRoll_117 rfl rfl ?_
              refine T_dup_a (pc := 118) dX12_readRoll_118 ?_
              refine T_getI (pc := 119) fd_10_13 hw1516 dX12_readRoll_119 ?_
              refine T_iconst (pc := 122) (v := 1) dX12_readRoll_122 (by decide) ?_
              refine T_iadd (pc := 123) dX12_readRoll_123 ?_
              refine T_putI (pc := 124) fd_10_13 hw1516 dX12_readRoll_124 ?_
              refine T_letS (fun s14 => ?_)
              refine T_goto (pc := 127) 22 dX12_readRoll_127 (by decide) ?_
              refine T_pick (lv' := [(0, .ref 10), (1, .int v1), (2, .int (1 : Int32))]) [0, 1, 2] rfl ?_
              exact hkb s14 (1 : Int32)
          · refine T_aload_n (pc := 96) 0 dX12_readRoll_96 rfl rfl ?_
            refine T_getA (pc := 97) fd_10_21 hw1524 dX12_readRoll_97 ?_
            refine T_iload_n (pc := 100) 1 dX12_readRoll_100 rfl rfl ?_
            refine T_iald (pc := 101) rfl dX12_readRoll_101 (fun x15 => ?_)
            refine T_bipush (pc := 102) (v := 12) dX12_readRoll_102 (by decide) ?_
            refine T_icmp_ne (pc := 104) 113 dX12_readRoll_104 (by decide) (fun _ => ?_) (fun _ => ?_)
            · refine T_iload_n (pc := 113) 2 dX12_readRoll_113 rfl rfl ?_
              refine T_if_eq (pc := 114) 127 dX12_readRoll_114 (by decide) (fun _ => ?_) (fun _ => ?_)
              · refine T_goto (pc := 127) 22 dX12_readRoll_127 (by decide) ?_
                refine T_pick (lv' := [(0, .ref 10), (1, .int v1), (2, .int (1 : Int32))]) [0, 1, 2] rfl ?_
                exact hkb r10.2 (1 : Int32)
              · refine T_aload_n (pc := 117) 0 dX12_readRoll_117 rfl rfl ?_
                refine T_dup_a (pc := 118) dX12_readRoll_118 ?_
                refine T_getI (pc := 119) fd_10_13 hw1516 dX12_readRoll_119 ?_
                refine T_iconst (pc := 122) (v := 1) dX12_readRoll_122 (by decide) ?_
                refine T_iadd (pc := 123) dX12_readRoll_123 ?_
                refine T_putI (pc := 124) fd_10_13 hw1516 dX12_readRoll_124 ?_
                refine T_letS (fun s16 => ?_)
                refine T_goto (pc := 127) 22 dX12_readRoll_127 (by decide) ?_
                refine T_pick (lv' := [(0, .ref 10), (1, .int v1), (2, .int (1 : Int32))]) [0, 1, 2] rfl ?_
                exact hkb s16 (1 : Int32)
            · refine T_pick (lv' := [(0, .ref 10)]) [0] rfl ?_
              exact hk1 r10.2
      · exact T_return (pc := 66) rfl dX12_readRoll_66 rfl
    · exact T_return (pc := 52) rfl dX12_readRoll_52 rfl
set_option maxRecDepth 100000 in
set_option maxHeartbeats 4000000 in
theorem fX12_readRoll_P22_T (v1 : Int32) (σ : St) {k1 : St → Option St} {k2 : St → Option St} (hk1 : ∀ (σ' : St), T kX12_readRoll cSv σ' 107 [(0, .ref 10)] [] (k1 σ')) (hk2 : ∀ (σ' : St), T kX12_readRoll cSv σ' 130 [(0, .ref 10)] [] (k2 σ')) (v2 : Int32) : T kX12_readRoll cSv σ 22 [(0, .ref 10), (1, .int v1), (2, .int v2)] [] (fX12_readRoll_P22 v1 k1 k2 σ v2) :=
  it_T (S := (fun t : St × Int32 => t.1)) (lv := fun t : St × Int32 => [(0, .ref 10), (1, .int v1), (2, .int t.2)]) (st := fun _ => []) (fun kb hkb t => fX12_readRoll_L22_T v1 (hk1 := hk1) (hk2 := hk2) (hkb := fun σ v2 => hkb (σ, v2)) t.1 t.2) FU (σ, v2)
set_option maxRecDepth 100000 in
set_option maxHeartbeats 4000000 in
theorem ctX12_readRoll (σ : St) (p0 : Int32) : Ct yX12_readRoll kX12_readRoll [.ref 10, .int p0] σ cSv (fX12_readRoll σ p0) := by
  refine Ct.of (by decide +kernel) rfl rfl (Nat.le_of_ble_eq_true rfl) ?_
  unfold fX12_readRoll
  show T _ _ _ 0 [(0, .ref 10), (1, .int p0)] [] _
  refine T_aload_n (pc := 0) 0 dX12_readRoll_0 rfl rfl ?_
  refine T_aload_n (pc := 1) 0 dX12_readRoll_1 rfl rfl ?_
  refine T_getA (pc := 2) fd_10_1 hw1504 dX12_readRoll_2 ?_
  refine T_iconst (pc := 5) (v := 0) dX12_readRoll_5 (by decide) ?_
  refine T_aload_n (pc := 6) 0 dX12_readRoll_6 rfl rfl ?_
  refine T_getI (pc := 7) fd_10_7 hw1510 dX12_readRoll_7 ?_
  refine T_callSv (pc := 10) (rest := []) (Rn_V (pc := 10) (as := [.ref 55, .int (0 : Int32), .int (zI σ 31)]) (rest := []) (ctX12_begin_55 σ (0 : Int32) (zI σ 31)) rfl rfl mv_X12_begin hw1696 rfl ⟨Nat.le_of_ble_eq_true rfl, Nat.le_of_ble_eq_true rfl⟩ (Nat.le_of_ble_eq_true rfl) dX12_readRoll_10 rfl) rfl (fun s1 => ?_)
  refine T_aload_n (pc := 13) 0 dX12_readRoll_13 rfl rfl ?_
  refine T_getA (pc := 14) fd_10_21 hw1524 dX12_readRoll_14 ?_
  refine T_iload_n (pc := 17) 1 dX12_readRoll_17 rfl rfl ?_
  refine T_iconst (pc := 18) (v := 0) dX12_readRoll_18 (by decide) ?_
  refine T_iast (pc := 19) rfl dX12_readRoll_19 ?_
  refine T_letS (fun s2 => ?_)
  refine T_iconst (pc := 20) (v := 1) dX12_readRoll_20 (by decide) ?_
  refine T_istore_n (pc := 21) (lv' := [(0, .ref 10), (1, .int p0), (2, .int (1 : Int32))]) dX12_readRoll_21 rfl (Nat.le_of_ble_eq_true rfl) rfl ?_
  refine fX12_readRoll_P22_T p0 (hk1 := fun s17 => ?_) (hk2 := fun s19 => ?_) s2 (1 : Int32)
  · refine T_aload_n (pc := 107) 0 dX12_readRoll_107 rfl rfl ?_
    refine T_callSz (pc := 108) (rest := []) (Rn_V (pc := 108) (as := []) (rest := []) (ctX12_fails s17) rfl rfl mv_X12_fails hw1708 rfl ⟨Nat.le_of_ble_eq_true rfl, Nat.le_of_ble_eq_true rfl⟩ (Nat.le_of_ble_eq_true rfl) dX12_readRoll_108 rfl) rfl (fun r18 => ?_)
    refine T_pop_i (pc := 111) dX12_readRoll_111 ?_
    exact T_return (pc := 112) rfl dX12_readRoll_112 rfl
  · refine T_aload_n (pc := 130) 0 dX12_readRoll_130 rfl rfl ?_
    refine T_callSi (pc := 131) (rest := []) (Rn_V (pc := 131) (as := []) (rest := []) (ctX12_look s19) rfl rfl mv_X12_look hw1704 rfl ⟨Nat.le_of_ble_eq_true rfl, Nat.le_of_ble_eq_true rfl⟩ (Nat.le_of_ble_eq_true rfl) dX12_readRoll_131 rfl) rfl (fun r20 => ?_)
    refine T_iconst (pc := 134) (v := -1) dX12_readRoll_134 (by decide) ?_
    refine T_icmp_eq (pc := 135) 143 dX12_readRoll_135 (by decide) (fun _ => ?_) (fun _ => ?_)
    · exact T_return (pc := 143) rfl dX12_readRoll_143 rfl
    · refine T_aload_n (pc := 138) 0 dX12_readRoll_138 rfl rfl ?_
      refine T_callSz (pc := 139) (rest := []) (Rn_V (pc := 139) (as := []) (rest := []) (ctX12_fails r20.2) rfl rfl mv_X12_fails hw1708 rfl ⟨Nat.le_of_ble_eq_true rfl, Nat.le_of_ble_eq_true rfl⟩ (Nat.le_of_ble_eq_true rfl) dX12_readRoll_139 rfl) rfl (fun r21 => ?_)
      refine T_pop_i (pc := 142) dX12_readRoll_142 ?_
      exact T_return (pc := 143) rfl dX12_readRoll_143 rfl
set_option maxRecDepth 100000 in
set_option maxHeartbeats 4000000 in
theorem ctX12_fault (σ : St) (p0 : Int32) : Ct yX12_fault kX12_fault [.ref 10, .int p0] σ cSi (fX12_fault σ p0) := by
  refine Ct.of (by decide +kernel) rfl rfl (Nat.le_of_ble_eq_true rfl) ?_
  unfold fX12_fault
  show T _ _ _ 0 [(0, .ref 10), (1, .int p0)] [] _
  refine T_aload_n (pc := 0) 0 dX12_fault_0 rfl rfl ?_
  refine T_iconst (pc := 1) (v := 0) dX12_fault_1 (by decide) ?_
  refine T_putI (pc := 2) fd_10_0 hw1503 dX12_fault_2 ?_
  refine T_letS (fun s1 => ?_)
  refine T_iload_n (pc := 5) 1 dX12_fault_5 rfl rfl ?_
  refine T_iconst (pc := 6) (v := 0) dX12_fault_6 (by decide) ?_
  refine T_iconst (pc := 7) (v := 2) dX12_fault_7 (by decide) ?_
  refine T_callPz (pc := 8) (rest := []) (Rn_S (pc := 8) (as := [.int p0, .int (0 : Int32), .int (2 : Int32)]) (rest := []) (ctX12_isIn s1 p0 (0 : Int32) (2 : Int32)) ms_X12_isIn hw1689 rfl ⟨Nat.le_of_ble_eq_true rfl, Nat.le_of_ble_eq_true rfl⟩ (Nat.le_of_ble_eq_true rfl) dX12_fault_8 rfl) rfl (fun x2 => ?_)
  refine T_if_ne (pc := 11) 17 dX12_fault_11 (by decide) (fun _ => ?_) (fun _ => ?_)
  · refine T_iload_n (pc := 17) 1 dX12_fault_17 rfl rfl ?_
    refine T_if_ne (pc := 18) 30 dX12_fault_18 (by decide) (fun _ => ?_) (fun _ => ?_)
    · refine T_iload_n (pc := 30) 1 dX12_fault_30 rfl rfl ?_
      refine T_iconst (pc := 31) (v := 1) dX12_fault_31 (by decide) ?_
      refine T_icmp_ne (pc := 32) 43 dX12_fault_32 (by decide) (fun _ => ?_) (fun _ => ?_)
      · refine T_aload_n (pc := 43) 0 dX12_fault_43 rfl rfl ?_
        refine T_aload_n (pc := 44) 0 dX12_fault_44 rfl rfl ?_
        refine T_getA (pc := 45) fd_10_1 hw1504 dX12_fault_45 ?_
        refine T_iconst (pc := 48) (v := 0) dX12_fault_48 (by decide) ?_
        refine T_aload_n (pc := 49) 0 dX12_fault_49 rfl rfl ?_
        refine T_getI (pc := 50) fd_10_7 hw1510 dX12_fault_50 ?_
        refine T_callSv (pc := 53) (rest := []) (Rn_V (pc := 53) (as := [.ref 55, .int (0 : Int32), .int (zI s1 31)]) (rest := []) (ctX12_goThrough_55 s1 (0 : Int32) (zI s1 31)) rfl rfl mv_X12_goThrough hw1735 rfl ⟨Nat.le_of_ble_eq_true rfl, Nat.le_of_ble_eq_true rfl⟩ (Nat.le_of_ble_eq_true rfl) dX12_fault_53 rfl) rfl (fun s3 => ?_)
        refine T_aload_n (pc := 56) 0 dX12_fault_56 rfl rfl ?_
        refine T_getI (pc := 57) fd_10_14 hw1517 dX12_fault_57 ?_
        exact T_ireturn (pc := 60) rfl dX12_fault_60 rfl
      · refine T_aload_n (pc := 35) 0 dX12_fault_35 rfl rfl ?_
        refine T_iconst (pc := 36) (v := 4) dX12_fault_36 (by decide) ?_
        refine T_callSv (pc := 37) (rest := []) (Rn_V (pc := 37) (as := [.int (4 : Int32)]) (rest := []) (ctX12_readPlot s1 (4 : Int32)) rfl rfl mv_X12_readPlot hw1728 rfl ⟨Nat.le_of_ble_eq_true rfl, Nat.le_of_ble_eq_true rfl⟩ (Nat.le_of_ble_eq_true rfl) dX12_fault_37 rfl) rfl (fun s4 => ?_)
        refine T_goto (pc := 40) 56 dX12_fault_40 (by decide) ?_
        refine T_aload_n (pc := 56) 0 dX12_fault_56 rfl rfl ?_
        refine T_getI (pc := 57) fd_10_14 hw1517 dX12_fault_57 ?_
        exact T_ireturn (pc := 60) rfl dX12_fault_60 rfl
    · refine T_aload_n (pc := 21) 0 dX12_fault_21 rfl rfl ?_
      refine T_bipush (pc := 22) (v := 8) dX12_fault_22 (by decide) ?_
      refine T_callSv (pc := 24) (rest := []) (Rn_V (pc := 24) (as := [.int (8 : Int32)]) (rest := []) (ctX12_readRoll s1 (8 : Int32)) rfl rfl mv_X12_readRoll hw1692 rfl ⟨Nat.le_of_ble_eq_true rfl, Nat.le_of_ble_eq_true rfl⟩ (Nat.le_of_ble_eq_true rfl) dX12_fault_24 rfl) rfl (fun s5 => ?_)
      refine T_goto (pc := 27) 56 dX12_fault_27 (by decide) ?_
      refine T_aload_n (pc := 56) 0 dX12_fault_56 rfl rfl ?_
      refine T_getI (pc := 57) fd_10_14 hw1517 dX12_fault_57 ?_
      exact T_ireturn (pc := 60) rfl dX12_fault_60 rfl
  · refine T_bipush (pc := 14) (v := -2) dX12_fault_14 (by decide) ?_
    exact T_ireturn (pc := 16) rfl dX12_fault_16 rfl
set_option maxRecDepth 100000 in
set_option maxHeartbeats 4000000 in
theorem fX12_put_L3_T (v1 : Int32) (σ : St) {kb : St → Int32 → Option St} (hkb : ∀ (σ' : St) (w2 : Int32), T kX12_put cSv σ' 3 [(0, .ref 10), (1, .int v1), (2, .int w2)] [] (kb σ' w2)) (v2 : Int32) : T kX12_put cSv σ 3 [(0, .ref 10), (1, .int v1), (2, .int v2)] [] (fX12_put_L3 v1 kb σ v2) := by
  unfold fX12_put_L3
  refine T_iload_n (pc := 3) 2 dX12_put_3 rfl rfl ?_
  refine T_if_lt (pc := 4) 49 dX12_put_4 (by decide) (fun _ => ?_) (fun _ => ?_)
  · exact T_return (pc := 49) rfl dX12_put_49 rfl
  · refine T_iload_n (pc := 7) 1 dX12_put_7 rfl rfl ?_
    refine T_iload_n (pc := 8) 2 dX12_put_8 rfl rfl ?_
    refine T_ishr (pc := 9) dX12_put_9 ?_
    refine T_sipush (pc := 10) (v := 255) dX12_put_10 (by decide) ?_
    refine T_iand (pc := 13) dX12_put_13 ?_
    refine T_if_ne (pc := 14) 20 dX12_put_14 (by decide) (fun _ => ?_) (fun _ => ?_)
    · refine T_aload_n (pc := 20) 0 dX12_put_20 rfl rfl ?_
      refine T_getA (pc := 21) fd_10_1 hw1504 dX12_put_21 ?_
      refine T_aload_n (pc := 24) 0 dX12_put_24 rfl rfl ?_
      refine T_getI (pc := 25) fd_10_7 hw1510 dX12_put_25 ?_
      refine T_iload_n (pc := 28) 1 dX12_put_28 rfl rfl ?_
      refine T_iload_n (pc := 29) 2 dX12_put_29 rfl rfl ?_
      refine T_ishr (pc := 30) dX12_put_30 ?_
      refine T_i2b (pc := 31) dX12_put_31 ?_
      refine T_bast (pc := 32) rfl dX12_put_32 ?_
      refine T_letS (fun s1 => ?_)
      refine T_aload_n (pc := 33) 0 dX12_put_33 rfl rfl ?_
      refine T_dup_a (pc := 34) dX12_put_34 ?_
      refine T_getI (pc := 35) fd_10_7 hw1510 dX12_put_35 ?_
      refine T_iconst (pc := 38) (v := 1) dX12_put_38 (by decide) ?_
      refine T_iadd (pc := 39) dX12_put_39 ?_
      refine T_putI (pc := 40) fd_10_7 hw1510 dX12_put_40 ?_
      refine T_letS (fun s2 => ?_)
      refine T_iinc (pc := 43) (y := -8) (lv' := [(0, .ref 10), (1, .int v1), (2, .int (v2 + (-8 : Int32)))]) 2 dX12_put_43 (by decide) rfl (Nat.le_of_ble_eq_true rfl) rfl ?_
      refine T_goto (pc := 46) 3 dX12_put_46 (by decide) ?_
      exact hkb s2 (v2 + (-8 : Int32))
    · refine T_goto (pc := 17) 43 dX12_put_17 (by decide) ?_
      refine T_iinc (pc := 43) (y := -8) (lv' := [(0, .ref 10), (1, .int v1), (2, .int (v2 + (-8 : Int32)))]) 2 dX12_put_43 (by decide) rfl (Nat.le_of_ble_eq_true rfl) rfl ?_
      refine T_goto (pc := 46) 3 dX12_put_46 (by decide) ?_
      exact hkb σ (v2 + (-8 : Int32))
set_option maxRecDepth 100000 in
set_option maxHeartbeats 4000000 in
theorem fX12_put_P3_T (v1 : Int32) (σ : St) (v2 : Int32) : T kX12_put cSv σ 3 [(0, .ref 10), (1, .int v1), (2, .int v2)] [] (fX12_put_P3 v1 σ v2) :=
  it_T (S := (fun t : St × Int32 => t.1)) (lv := fun t : St × Int32 => [(0, .ref 10), (1, .int v1), (2, .int t.2)]) (st := fun _ => []) (fun kb hkb t => fX12_put_L3_T v1 (hkb := fun σ v2 => hkb (σ, v2)) t.1 t.2) FU (σ, v2)
set_option maxRecDepth 100000 in
set_option maxHeartbeats 4000000 in
theorem ctX12_put (σ : St) (p0 : Int32) : Ct yX12_put kX12_put [.ref 10, .int p0] σ cSv (fX12_put σ p0) := by
  refine Ct.of (by decide +kernel) rfl rfl (Nat.le_of_ble_eq_true rfl) ?_
  unfold fX12_put
  show T _ _ _ 0 [(0, .ref 10), (1, .int p0)] [] _
  refine T_bipush (pc := 0) (v := 24) dX12_put_0 (by decide) ?_
  refine T_istore_n (pc := 2) (lv' := [(0, .ref 10), (1, .int p0), (2, .int (24 : Int32))]) dX12_put_2 rfl (Nat.le_of_ble_eq_true rfl) rfl ?_
  exact fX12_put_P3_T p0 σ (24 : Int32)
set_option maxRecDepth 100000 in
set_option maxHeartbeats 4000000 in
theorem ctX12_feed (σ : St) (p0 : Int32) (p1 : Int32) (p2 : Int32) (p3 : Int32) (p4 : Int32) : Ct yX12_feed kX12_feed [.ref 10, .int p0, .int p1, .int p2, .int p3, .int p4] σ cSi (fX12_feed σ p0 p1 p2 p3 p4) := by
  refine Ct.of (by decide +kernel) rfl rfl (Nat.le_of_ble_eq_true rfl) ?_
  unfold fX12_feed
  show T _ _ _ 0 [(0, .ref 10), (1, .int p0), (2, .int p1), (3, .int p2), (4, .int p3), (5, .int p4)] [] _
  refine T_aload_n (pc := 0) 0 dX12_feed_0 rfl rfl ?_
  refine T_iconst (pc := 1) (v := 0) dX12_feed_1 (by decide) ?_
  refine T_putI (pc := 2) fd_10_0 hw1503 dX12_feed_2 ?_
  refine T_letS (fun s1 => ?_)
  refine T_aload_n (pc := 5) 0 dX12_feed_5 rfl rfl ?_
  refine T_getI (pc := 6) fd_10_7 hw1510 dX12_feed_6 ?_
  refine T_iload_n (pc := 9) 1 dX12_feed_9 rfl rfl ?_
  refine T_callPi (pc := 10) (rest := [.int (zI s1 31)]) (Rn_S (pc := 10) (as := [.int p0]) (rest := [.int (zI s1 31)]) (ctX12_bytesIn s1 p0) ms_X12_bytesIn hw1674 rfl ⟨Nat.le_of_ble_eq_true rfl, Nat.le_of_ble_eq_true rfl⟩ (Nat.le_of_ble_eq_true rfl) dX12_feed_10 rfl) rfl (fun x2 => ?_)
  refine T_iadd (pc := 13) dX12_feed_13 ?_
  refine T_iload_n (pc := 14) 2 dX12_feed_14 rfl rfl ?_
  refine T_callPi (pc := 15) (rest := [.int ((zI s1 31) + x2)]) (Rn_S (pc := 15) (as := [.int p1]) (rest := [.int ((zI s1 31) + x2)]) (ctX12_bytesIn s1 p1) ms_X12_bytesIn hw1674 rfl ⟨Nat.le_of_ble_eq_true rfl, Nat.le_of_ble_eq_true rfl⟩ (Nat.le_of_ble_eq_true rfl) dX12_feed_15 rfl) rfl (fun x3 => ?_)
  refine T_iadd (pc := 18) dX12_feed_18 ?_
  refine T_iload_n (pc := 19) 3 dX12_feed_19 rfl rfl ?_
  refine T_callPi (pc := 20) (rest := [.int (((zI s1 31) + x2) + x3)]) (Rn_S (pc := 20) (as := [.int p2]) (rest := [.int (((zI s1 31) + x2) + x3)]) (ctX12_bytesIn s1 p2) ms_X12_bytesIn hw1674 rfl ⟨Nat.le_of_ble_eq_true rfl, Nat.le_of_ble_eq_true rfl⟩ (Nat.le_of_ble_eq_true rfl) dX12_feed_20 rfl) rfl (fun x4 => ?_)
  refine T_iadd (pc := 23) dX12_feed_23 ?_
  refine T_iload (pc := 24) 4 dX12_feed_24 rfl ?_
  refine T_callPi (pc := 26) (rest := [.int ((((zI s1 31) + x2) + x3) + x4)]) (Rn_S (pc := 26) (as := [.int p3]) (rest := [.int ((((zI s1 31) + x2) + x3) + x4)]) (ctX12_bytesIn s1 p3) ms_X12_bytesIn hw1674 rfl ⟨Nat.le_of_ble_eq_true rfl, Nat.le_of_ble_eq_true rfl⟩ (Nat.le_of_ble_eq_true rfl) dX12_feed_26 rfl) rfl (fun x5 => ?_)
  refine T_iadd (pc := 29) dX12_feed_29 ?_
  refine T_iload (pc := 30) 5 dX12_feed_30 rfl ?_
  refine T_callPi (pc := 32) (rest := [.int (((((zI s1 31) + x2) + x3) + x4) + x5)]) (Rn_S (pc := 32) (as := [.int p4]) (rest := [.int (((((zI s1 31) + x2) + x3) + x4) + x5)]) (ctX12_bytesIn s1 p4) ms_X12_bytesIn hw1674 rfl ⟨Nat.le_of_ble_eq_true rfl, Nat.le_of_ble_eq_true rfl⟩ (Nat.le_of_ble_eq_true rfl) dX12_feed_32 rfl) rfl (fun x6 => ?_)
  refine T_iadd (pc := 35) dX12_feed_35 ?_
  refine T_sipush (pc := 36) (v := 200) dX12_feed_36 (by decide) ?_
  refine T_icmp_le (pc := 39) 44 dX12_feed_39 (by decide) (fun _ => ?_) (fun _ => ?_)
  · refine T_aload_n (pc := 44) 0 dX12_feed_44 rfl rfl ?_
    refine T_iload_n (pc := 45) 1 dX12_feed_45 rfl rfl ?_
    refine T_callSv (pc := 46) (rest := []) (Rn_V (pc := 46) (as := [.int p0]) (rest := []) (ctX12_put s1 p0) rfl rfl mv_X12_put hw1677 rfl ⟨Nat.le_of_ble_eq_true rfl, Nat.le_of_ble_eq_true rfl⟩ (Nat.le_of_ble_eq_true rfl) dX12_feed_46 rfl) rfl (fun s7 => ?_)
    refine T_aload_n (pc := 49) 0 dX12_feed_49 rfl rfl ?_
    refine T_iload_n (pc := 50) 2 dX12_feed_50 rfl rfl ?_
    refine T_callSv (pc := 51) (rest := []) (Rn_V (pc := 51) (as := [.int p1]) (rest := []) (ctX12_put s7 p1) rfl rfl mv_X12_put hw1677 rfl ⟨Nat.le_of_ble_eq_true rfl, Nat.le_of_ble_eq_true rfl⟩ (Nat.le_of_ble_eq_true rfl) dX12_feed_51 rfl) rfl (fun s8 => ?_)
    refine T_aload_n (pc := 54) 0 dX12_feed_54 rfl rfl ?_
    refine T_iload_n (pc := 55) 3 dX12_feed_55 rfl rfl ?_
    refine T_callSv (pc := 56) (rest := []) (Rn_V (pc := 56) (as := [.int p2]) (rest := []) (ctX12_put s8 p2) rfl rfl mv_X12_put hw1677 rfl ⟨Nat.le_of_ble_eq_true rfl, Nat.le_of_ble_eq_true rfl⟩ (Nat.le_of_ble_eq_true rfl) dX12_feed_56 rfl) rfl (fun s9 => ?_)
    refine T_aload_n (pc := 59) 0 dX12_feed_59 rfl rfl ?_
    refine T_iload (pc := 60) 4 dX12_feed_60 rfl ?_
    refine T_callSv (pc := 62) (rest := []) (Rn_V (pc := 62) (as := [.int p3]) (rest := []) (ctX12_put s9 p3) rfl rfl mv_X12_put hw1677 rfl ⟨Nat.le_of_ble_eq_true rfl, Nat.le_of_ble_eq_true rfl⟩ (Nat.le_of_ble_eq_true rfl) dX12_feed_62 rfl) rfl (fun s10 => ?_)
    refine T_aload_n (pc := 65) 0 dX12_feed_65 rfl rfl ?_
    refine T_iload (pc := 66) 5 dX12_feed_66 rfl ?_
    refine T_callSv (pc := 68) (rest := []) (Rn_V (pc := 68) (as := [.int p4]) (rest := []) (ctX12_put s10 p4) rfl rfl mv_X12_put hw1677 rfl ⟨Nat.le_of_ble_eq_true rfl, Nat.le_of_ble_eq_true rfl⟩ (Nat.le_of_ble_eq_true rfl) dX12_feed_68 rfl) rfl (fun s11 => ?_)
    refine T_aload_n (pc := 71) 0 dX12_feed_71 rfl rfl ?_
    refine T_getI (pc := 72) fd_10_7 hw1510 dX12_feed_72 ?_
    exact T_ireturn (pc := 75) rfl dX12_feed_75 rfl
  · refine T_iconst (pc := 42) (v := -1) dX12_feed_42 (by decide) ?_
    exact T_ireturn (pc := 43) rfl dX12_feed_43 rfl
set_option maxRecDepth 100000 in
set_option maxHeartbeats 4000000 in
theorem ctX12_sizeOf (σ : St) (p0 : Int32) : Ct yX12_sizeOf kX12_sizeOf [.ref 10, .int p0] σ (cPi σ) (fX12_sizeOf σ p0) := by
  refine Ct.of (by decide +kernel) rfl rfl (Nat.le_of_ble_eq_true rfl) ?_
  unfold fX12_sizeOf
  show T _ _ _ 0 [(0, .ref 10), (1, .int p0)] [] _
  refine T_aload_n (pc := 0) 0 dX12_sizeOf_0 rfl rfl ?_
  refine T_getI (pc := 1) fd_10_43 hw1546 dX12_sizeOf_1 ?_
  refine T_iload_n (pc := 4) 1 dX12_sizeOf_4 rfl rfl ?_
  refine T_callPz (pc := 5) (rest := []) (Rn_S (pc := 5) (as := [.int (zI σ 47), .int p0]) (rest := []) (ctX12_has σ (zI σ 47) p0) ms_X12_has hw1732 rfl ⟨Nat.le_of_ble_eq_true rfl, Nat.le_of_ble_eq_true rfl⟩ (Nat.le_of_ble_eq_true rfl) dX12_sizeOf_5 rfl) rfl (fun x1 => ?_)
  refine T_if_eq (pc := 8) 20 dX12_sizeOf_8 (by decide) (fun _ => ?_) (fun _ => ?_)
  · refine T_iconst (pc := 20) (v := 0) dX12_sizeOf_20 (by decide) ?_
    exact T_ireturn (pc := 21) rfl dX12_sizeOf_21 rfl
  · refine T_aload_n (pc := 11) 0 dX12_sizeOf_11 rfl rfl ?_
    refine T_getA (pc := 12) fd_10_21 hw1524 dX12_sizeOf_12 ?_
    refine T_iload_n (pc := 15) 1 dX12_sizeOf_15 rfl rfl ?_
    refine T_iald (pc := 16) rfl dX12_sizeOf_16 (fun x2 => ?_)
    refine T_goto (pc := 17) 21 dX12_sizeOf_17 (by decide) ?_
    exact T_ireturn (pc := 21) rfl dX12_sizeOf_21 rfl
set_option maxRecDepth 100000 in
set_option maxHeartbeats 4000000 in
theorem fX12_isSmall_L26_T (σ : St) {kb : St → Int32 → Int32 → Int32 → Option (Bool × St)} (hkb : ∀ (σ' : St) (w2 : Int32) (w3 : Int32) (w4 : Int32), T kX12_isSmall cSz σ' 26 [(0, .ref 10), (2, .int w2), (3, .int w3), (4, .int w4)] [] (kb σ' w2 w3 w4)) (v2 : Int32) (v3 : Int32) (v4 : Int32) : T kX12_isSmall cSz σ 26 [(0, .ref 10), (2, .int v2), (3, .int v3), (4, .int v4)] [] (fX12_isSmall_L26 kb σ v2 v3 v4) := by
  unfold fX12_isSmall_L26
  refine T_iload (pc := 26) 3 dX12_isSmall_26 rfl ?_
  refine T_bipush (pc := 28) (v := 8) dX12_isSmall_28 (by decide) ?_
  refine T_icmp_ge (pc := 30) 91 dX12_isSmall_30 (by decide) (fun _ => ?_) (fun _ => ?_)
  · refine T_aload_n (pc := 91) 0 dX12_isSmall_91 rfl rfl ?_
    refine T_iload_n (pc := 92) 1 dX12_isSmall_92 rfl rfl ?_
    refine T_putI (pc := 93) fd_10_42 hw1545 dX12_isSmall_93 ?_
    refine T_letS (fun s3 => ?_)
    refine T_iconst (pc := 96) (v := 1) dX12_isSmall_96 (by decide) ?_
    exact T_zreturn (pc := 97) true rfl dX12_isSmall_97 rfl rfl
  · refine T_aload_n (pc := 33) 0 dX12_isSmall_33 rfl rfl ?_
    refine T_getA (pc := 34) fd_10_37 hw1540 dX12_isSmall_34 ?_
    refine T_iload (pc := 37) 3 dX12_isSmall_37 rfl ?_
    refine T_iload_n (pc := 39) 1 dX12_isSmall_39 rfl rfl ?_
    refine T_iast (pc := 40) rfl dX12_isSmall_40 ?_
    refine T_letS (fun s4 => ?_)
    refine T_aload_n (pc := 41) 0 dX12_isSmall_41 rfl rfl ?_
    refine T_iload (pc := 42) 3 dX12_isSmall_42 rfl ?_
    refine T_callPz (pc := 44) (rest := []) (Rn_V (pc := 44) (as := [.int v4]) (rest := []) (ctX12_isRoll s4 v4) rfl rfl mv_X12_isRoll hw1853 rfl ⟨Nat.le_of_ble_eq_true rfl, Nat.le_of_ble_eq_true rfl⟩ (Nat.le_of_ble_eq_true rfl) dX12_isSmall_44 rfl) rfl (fun x5 => ?_)
    refine T_if_eq (pc := 47) 70 dX12_isSmall_47 (by decide) (fun _ => ?_) (fun _ => ?_)
    · refine T_iload_n (pc := 70) 1 dX12_isSmall_70 rfl rfl ?_
      refine T_sipush (pc := 71) (v := 20001) dX12_isSmall_71 (by decide) ?_
      refine T_icmp_ge (pc := 74) 83 dX12_isSmall_74 (by decide) (fun _ => ?_) (fun _ => ?_)
      · refine T_iconst (pc := 83) (v := 0) dX12_isSmall_83 (by decide) ?_
        exact T_zreturn (pc := 84) false rfl dX12_isSmall_84 rfl rfl
      · refine T_iload_n (pc := 77) 2 dX12_isSmall_77 rfl rfl ?_
        refine T_bipush (pc := 78) (v := 20) dX12_isSmall_78 (by decide) ?_
        refine T_icmp_le (pc := 80) 85 dX12_isSmall_80 (by decide) (fun _ => ?_) (fun _ => ?_)
        · refine T_iinc (pc := 85) (y := 1) (lv' := [(0, .ref 10), (2, .int v2), (3, .int v3), (4, .int (v4 + (1 : Int32)))]) 3 dX12_isSmall_85 (by decide) rfl (Nat.le_of_ble_eq_true rfl) rfl ?_
          refine T_goto (pc := 88) 26 dX12_isSmall_88 (by decide) ?_
          exact hkb s4 v2 v3 (v4 + (1 : Int32))
        · refine T_iconst (pc := 83) (v := 0) dX12_isSmall_83 (by decide) ?_
          exact T_zreturn (pc := 84) false rfl dX12_isSmall_84 rfl rfl
    · refine T_iload_n (pc := 50) 1 dX12_isSmall_50 rfl rfl ?_
      refine T_aload_n (pc := 51) 0 dX12_isSmall_51 rfl rfl ?_
      refine T_iload (pc := 52) 3 dX12_isSmall_52 rfl ?_
      refine T_callPi (pc := 54) (rest := [.int v2]) (Rn_V (pc := 54) (as := [.int v4]) (rest := [.int v2]) (ctX12_sizeOf s4 v4) rfl rfl mv_X12_sizeOf hw1943 rfl ⟨Nat.le_of_ble_eq_true rfl, Nat.le_of_ble_eq_true rfl⟩ (Nat.le_of_ble_eq_true rfl) dX12_isSmall_54 rfl) rfl (fun x6 => ?_)
      refine T_iconst (pc := 57) (v := 1) dX12_isSmall_57 (by decide) ?_
      refine T_iadd (pc := 58) dX12_isSmall_58 ?_
      refine T_imul (pc := 59) dX12_isSmall_59 ?_
      refine T_letI (fun x7 => ?_)
      refine T_istore_n (pc := 60) (lv' := [(0, .ref 10), (2, .int x7), (3, .int v3), (4, .int v4)]) dX12_isSmall_60 rfl (Nat.le_of_ble_eq_true rfl) rfl ?_
      refine T_iload_n (pc := 61) 2 dX12_isSmall_61 rfl rfl ?_
      refine T_aload_n (pc := 62) 0 dX12_isSmall_62 rfl rfl ?_
      refine T_iload (pc := 63) 3 dX12_isSmall_63 rfl ?_
      refine T_callPi (pc := 65) (rest := [.int v3]) (Rn_V (pc := 65) (as := [.int v4]) (rest := [.int v3]) (ctX12_sizeOf s4 v4) rfl rfl mv_X12_sizeOf hw1943 rfl ⟨Nat.le_of_ble_eq_true rfl, Nat.le_of_ble_eq_true rfl⟩ (Nat.le_of_ble_eq_true rfl) dX12_isSmall_65 rfl) rfl (fun x8 => ?_)
      refine T_iadd (pc := 68) dX12_isSmall_68 ?_
      refine T_letI (fun x9 => ?_)
      refine T_istore_n (pc := 69) (lv' := [(0, .ref 10), (2, .int x7), (3, .int x9), (4, .int v4)]) dX12_isSmall_69 rfl (Nat.le_of_ble_eq_true rfl) rfl ?_
      refine T_iload_n (pc := 70) 1 dX12_isSmall_70 rfl rfl ?_
      refine T_sipush (pc := 71) (v := 20001) dX12_isSmall_71 (by decide) ?_
      refine T_icmp_ge (pc := 74) 83 dX12_isSmall_74 (by decide) (fun _ => ?_) (fun _ => ?_)
      · refine T_iconst (pc := 83) (v := 0) dX12_isSmall_83 (by decide) ?_
        exact T_zreturn (pc := 84) false rfl dX12_isSmall_84 rfl rfl
      · refine T_iload_n (pc := 77) 2 dX12_isSmall_77 rfl rfl ?_
        refine T_bipush (pc := 78) (v := 20) dX12_isSmall_78 (by decide) ?_
        refine T_icmp_le (pc := 80) 85 dX12_isSmall_80 (by decide) (fun _ => ?_) (fun _ => ?_)
        · refine T_iinc (pc := 85) (y := 1) (lv' := [(0, .ref 10), (2, .int x7), (3, .int x9), (4, .int (v4 + (1 : Int32)))]) 3 dX12_isSmall_85 (by decide) rfl (Nat.le_of_ble_eq_true rfl) rfl ?_
          refine T_goto (pc := 88) 26 dX12_isSmall_88 (by decide) ?_
          exact hkb s4 x7 x9 (v4 + (1 : Int32))
        · refine T_iconst (pc := 83) (v := 0) dX12_isSmall_83 (by decide) ?_
          exact T_zreturn (pc := 84) false rfl dX12_isSmall_84 rfl rfl
set_option maxRecDepth 100000 in
set_option maxHeartbeats 4000000 in
theorem fX12_isSmall_P26_T (σ : St) (v2 : Int32) (v3 : Int32) (v4 : Int32) : T kX12_isSmall cSz σ 26 [(0, .ref 10), (2, .int v2), (3, .int v3), (4, .int v4)] [] (fX12_isSmall_P26 σ v2 v3 v4) :=
  it_T (S := (fun t : St × Int32 × Int32 × Int32 => t.1)) (lv := fun t : St × Int32 × Int32 × Int32 => [(0, .ref 10), (2, .int t.2.1), (3, .int t.2.2.1), (4, .int t.2.2.2)]) (st := fun _ => []) (fun kb hkb t => fX12_isSmall_L26_T (hkb := fun σ v2 v3 v4 => hkb (σ, v2, v3, v4)) t.1 t.2.1 t.2.2.1 t.2.2.2) FU (σ, v2, v3, v4)
set_option maxRecDepth 100000 in
set_option maxHeartbeats 4000000 in
theorem ctX12_isSmall (σ : St) (p0 : Int32) : Ct yX12_isSmall kX12_isSmall [.ref 10, .int p0] σ cSz (fX12_isSmall σ p0) := by
  refine Ct.of (by decide +kernel) rfl rfl (Nat.le_of_ble_eq_true rfl) ?_
  unfold fX12_isSmall
  show T _ _ _ 0 [(0, .ref 10), (1, .int p0)] [] _
  refine T_aload_n (pc := 0) 0 dX12_isSmall_0 rfl rfl ?_
  refine T_iload_n (pc := 1) 1 dX12_isSmall_1 rfl rfl ?_
  refine T_callPz (pc := 2) (rest := []) (Rn_V (pc := 2) (as := [.int p0]) (rest := []) (ctX12_areRolls σ p0) rfl rfl mv_X12_areRolls hw1911 rfl ⟨Nat.le_of_ble_eq_true rfl, Nat.le_of_ble_eq_true rfl⟩ (Nat.le_of_ble_eq_true rfl) dX12_isSmall_2 rfl) rfl (fun x1 => ?_)
  refine T_if_eq (pc := 5) 12 dX12_isSmall_5 (by decide) (fun _ => ?_) (fun _ => ?_)
  · refine T_iconst (pc := 12) (v := 0) dX12_isSmall_12 (by decide) ?_
    exact T_zreturn (pc := 13) false rfl dX12_isSmall_13 rfl rfl
  · refine T_iload_n (pc := 8) 1 dX12_isSmall_8 rfl rfl ?_
    refine T_if_ne (pc := 9) 14 dX12_isSmall_9 (by decide) (fun _ => ?_) (fun _ => ?_)
    · refine T_aload_n (pc := 14) 0 dX12_isSmall_14 rfl rfl ?_
      refine T_iload_n (pc := 15) 1 dX12_isSmall_15 rfl rfl ?_
      refine T_putI (pc := 16) fd_10_43 hw1546 dX12_isSmall_16 ?_
      refine T_letS (fun s2 => ?_)
      refine T_iconst (pc := 19) (v := 1) dX12_isSmall_19 (by decide) ?_
      refine T_istore_n (pc := 20) (lv' := [(0, .ref 10), (1, .int p0), (2, .int (1 : Int32))]) dX12_isSmall_20 rfl (Nat.le_of_ble_eq_true rfl) rfl ?_
      refine T_iconst (pc := 21) (v := 0) dX12_isSmall_21 (by decide) ?_
      refine T_istore_n (pc := 22) (lv' := [(0, .ref 10), (1, .int p0), (2, .int (1 : Int32)), (3, .int (0 : Int32))]) dX12_isSmall_22 rfl (Nat.le_of_ble_eq_true rfl) rfl ?_
      refine T_iconst (pc := 23) (v := 0) dX12_isSmall_23 (by decide) ?_
      refine T_istore (pc := 24) (lv' := [(0, .ref 10), (1, .int p0), (2, .int (1 : Int32)), (3, .int (0 : Int32)), (4, .int (0 : Int32))]) dX12_isSmall_24 (Nat.le_of_ble_eq_true rfl) rfl ?_
      refine T_pick (lv' := [(0, .ref 10), (2, .int (1 : Int32)), (3, .int (0 : Int32)), (4, .int (0 : Int32))]) [0, 2, 3, 4] rfl ?_
      exact fX12_isSmall_P26_T s2 (1 : Int32) (0 : Int32) (0 : Int32)
    · refine T_iconst (pc := 12) (v := 0) dX12_isSmall_12 (by decide) ?_
      exact T_zreturn (pc := 13) false rfl dX12_isSmall_13 rfl rfl
set_option maxRecDepth 100000 in
set_option maxHeartbeats 4000000 in
theorem ctX12_saidOf (σ : St) (p0 : Int32) (p1 : Int32) : Ct yX12_saidOf kX12_saidOf [.ref 10, .int p0, .int p1] σ (cPi σ) (fX12_saidOf σ p0 p1) := by
  refine Ct.of (by decide +kernel) rfl rfl (Nat.le_of_ble_eq_true rfl) ?_
  unfold fX12_saidOf
  show T _ _ _ 0 [(0, .ref 10), (1, .int p0), (2, .int p1)] [] _
  refine T_iload_n (pc := 0) 1 dX12_saidOf_0 rfl rfl ?_
  refine T_aload_n (pc := 1) 0 dX12_saidOf_1 rfl rfl ?_
  refine T_getA (pc := 2) fd_10_37 hw1540 dX12_saidOf_2 ?_
  refine T_iload_n (pc := 5) 2 dX12_saidOf_5 rfl rfl ?_
  refine T_iald (pc := 6) rfl dX12_saidOf_6 (fun x1 => ?_)
  refine T_idiv (pc := 7) dX12_saidOf_7 ?_
  refine T_aload_n (pc := 8) 0 dX12_saidOf_8 rfl rfl ?_
  refine T_iload_n (pc := 9) 2 dX12_saidOf_9 rfl rfl ?_
  refine T_callPi (pc := 10) (rest := [.int (p0 / x1)]) (Rn_V (pc := 10) (as := [.int p1]) (rest := [.int (p0 / x1)]) (ctX12_sizeOf σ p1) rfl rfl mv_X12_sizeOf hw1943 rfl ⟨Nat.le_of_ble_eq_true rfl, Nat.le_of_ble_eq_true rfl⟩ (Nat.le_of_ble_eq_true rfl) dX12_saidOf_10 rfl) rfl (fun x2 => ?_)
  refine T_iconst (pc := 13) (v := 1) dX12_saidOf_13 (by decide) ?_
  refine T_iadd (pc := 14) dX12_saidOf_14 ?_
  refine T_irem (pc := 15) dX12_saidOf_15 ?_
  exact T_ireturn (pc := 16) rfl dX12_saidOf_16 rfl
set_option maxRecDepth 100000 in
set_option maxHeartbeats 4000000 in
theorem ctX12_mayGo (σ : St) (p0 : Int32) (p1 : Int32) : Ct yX12_mayGo kX12_mayGo [.ref 10, .int p0, .int p1] σ (cPz σ) (fX12_mayGo σ p0 p1) := by
  refine Ct.of (by decide +kernel) rfl rfl (Nat.le_of_ble_eq_true rfl) ?_
  unfold fX12_mayGo
  show T _ _ _ 0 [(0, .ref 10), (1, .int p0), (2, .int p1)] [] _
  refine T_aload_n (pc := 0) 0 dX12_mayGo_0 rfl rfl ?_
  refine T_iload_n (pc := 1) 2 dX12_mayGo_1 rfl rfl ?_
  refine T_callPz (pc := 2) (rest := []) (Rn_V (pc := 2) (as := [.int p1]) (rest := []) (ctX12_isRoll σ p1) rfl rfl mv_X12_isRoll hw1853 rfl ⟨Nat.le_of_ble_eq_true rfl, Nat.le_of_ble_eq_true rfl⟩ (Nat.le_of_ble_eq_true rfl) dX12_mayGo_2 rfl) rfl (fun x1 => ?_)
  refine T_if_eq (pc := 5) 26 dX12_mayGo_5 (by decide) (fun _ => ?_) (fun _ => ?_)
  · refine T_iconst (pc := 26) (v := 0) dX12_mayGo_26 (by decide) ?_
    exact T_zreturn (pc := 27) false rfl dX12_mayGo_27 rfl rfl
  · refine T_aload_n (pc := 8) 0 dX12_mayGo_8 rfl rfl ?_
    refine T_iload_n (pc := 9) 1 dX12_mayGo_9 rfl rfl ?_
    refine T_iload_n (pc := 10) 2 dX12_mayGo_10 rfl rfl ?_
    refine T_callPi (pc := 11) (rest := []) (Rn_V (pc := 11) (as := [.int p0, .int p1]) (rest := []) (ctX12_saidOf σ p0 p1) rfl rfl mv_X12_saidOf hw1951 rfl ⟨Nat.le_of_ble_eq_true rfl, Nat.le_of_ble_eq_true rfl⟩ (Nat.le_of_ble_eq_true rfl) dX12_mayGo_11 rfl) rfl (fun x2 => ?_)
    refine T_aload_n (pc := 14) 0 dX12_mayGo_14 rfl rfl ?_
    refine T_iload_n (pc := 15) 2 dX12_mayGo_15 rfl rfl ?_
    refine T_callPi (pc := 16) (rest := [.int x2]) (Rn_V (pc := 16) (as := [.int p1]) (rest := [.int x2]) (ctX12_sizeOf σ p1) rfl rfl mv_X12_sizeOf hw1943 rfl ⟨Nat.le_of_ble_eq_true rfl, Nat.le_of_ble_eq_true rfl⟩ (Nat.le_of_ble_eq_true rfl) dX12_mayGo_16 rfl) rfl (fun x3 => ?_)
    refine T_icmp_ge (pc := 19) 26 dX12_mayGo_19 (by decide) (fun _ => ?_) (fun _ => ?_)
    · refine T_iconst (pc := 26) (v := 0) dX12_mayGo_26 (by decide) ?_
      exact T_zreturn (pc := 27) false rfl dX12_mayGo_27 rfl rfl
    · refine T_iconst (pc := 22) (v := 1) dX12_mayGo_22 (by decide) ?_
      refine T_goto (pc := 23) 27 dX12_mayGo_23 (by decide) ?_
      exact T_zreturn (pc := 27) true rfl dX12_mayGo_27 rfl rfl
set_option maxRecDepth 100000 in
set_option maxHeartbeats 4000000 in
theorem ctX12_gapOf (σ : St) (p0 : Int32) (p1 : Int32) (p2 : Int32) : Ct yX12_gapOf kX12_gapOf [.ref 10, .int p0, .int p1, .int p2] σ (cPi σ) (fX12_gapOf σ p0 p1 p2) := by
  refine Ct.of (by decide +kernel) rfl rfl (Nat.le_of_ble_eq_true rfl) ?_
  unfold fX12_gapOf
  show T _ _ _ 0 [(0, .ref 10), (1, .int p0), (2, .int p1), (3, .int p2)] [] _
  refine T_bipush (pc := 0) (v := 16) dX12_gapOf_0 (by decide) ?_
  refine T_iload_n (pc := 2) 3 dX12_gapOf_2 rfl rfl ?_
  refine T_imul (pc := 3) dX12_gapOf_3 ?_
  refine T_aload_n (pc := 4) 0 dX12_gapOf_4 rfl rfl ?_
  refine T_iload_n (pc := 5) 1 dX12_gapOf_5 rfl rfl ?_
  refine T_iload_n (pc := 6) 3 dX12_gapOf_6 rfl rfl ?_
  refine T_callPi (pc := 7) (rest := [.int ((16 : Int32) * p2)]) (Rn_V (pc := 7) (as := [.int p0, .int p2]) (rest := [.int ((16 : Int32) * p2)]) (ctX12_saidOf σ p0 p2) rfl rfl mv_X12_saidOf hw1951 rfl ⟨Nat.le_of_ble_eq_true rfl, Nat.le_of_ble_eq_true rfl⟩ (Nat.le_of_ble_eq_true rfl) dX12_gapOf_7 rfl) rfl (fun x1 => ?_)
  refine T_iadd (pc := 10) dX12_gapOf_10 ?_
  refine T_letI (fun x2 => ?_)
  refine T_istore (pc := 11) (lv' := [(0, .ref 10), (1, .int p0), (2, .int p1), (3, .int p2), (4, .int x2)]) dX12_gapOf_11 (Nat.le_of_ble_eq_true rfl) rfl ?_
  refine T_iload_n (pc := 13) 2 dX12_gapOf_13 rfl rfl ?_
  refine T_if_ne (pc := 14) 33 dX12_gapOf_14 (by decide) (fun _ => ?_) (fun _ => ?_)
  · refine T_iload_n (pc := 33) 2 dX12_gapOf_33 rfl rfl ?_
    refine T_iconst (pc := 34) (v := 1) dX12_gapOf_34 (by decide) ?_
    refine T_isub (pc := 35) dX12_gapOf_35 ?_
    refine T_iload_n (pc := 36) 3 dX12_gapOf_36 rfl rfl ?_
    refine T_icmp_eq (pc := 37) 70 dX12_gapOf_37 (by decide) (fun _ => ?_) (fun _ => ?_)
    · refine T_iconst (pc := 70) (v := 1) dX12_gapOf_70 (by decide) ?_
      exact T_ireturn (pc := 71) rfl dX12_gapOf_71 rfl
    · refine T_aload_n (pc := 40) 0 dX12_gapOf_40 rfl rfl ?_
      refine T_iload (pc := 41) 4 dX12_gapOf_41 rfl ?_
      refine T_bipush (pc := 43) (v := 16) dX12_gapOf_43 (by decide) ?_
      refine T_iload_n (pc := 45) 2 dX12_gapOf_45 rfl rfl ?_
      refine T_iconst (pc := 46) (v := 1) dX12_gapOf_46 (by decide) ?_
      refine T_isub (pc := 47) dX12_gapOf_47 ?_
      refine T_imul (pc := 48) dX12_gapOf_48 ?_
      refine T_aload_n (pc := 49) 0 dX12_gapOf_49 rfl rfl ?_
      refine T_iload_n (pc := 50) 1 dX12_gapOf_50 rfl rfl ?_
      refine T_iload_n (pc := 51) 2 dX12_gapOf_51 rfl rfl ?_
      refine T_iconst (pc := 52) (v := 1) dX12_gapOf_52 (by decide) ?_
      refine T_isub (pc := 53) dX12_gapOf_53 ?_
      refine T_callPi (pc := 54) (rest := [.int ((16 : Int32) * (p1 - (1 : Int32))), .int x2, .ref 10]) (Rn_V (pc := 54) (as := [.int p0, .int (p1 - (1 : Int32))]) (rest := [.int ((16 : Int32) * (p1 - (1 : Int32))), .int x2, .ref 10]) (ctX12_saidOf σ p0 (p1 - (1 : Int32))) rfl rfl mv_X12_saidOf hw1951 rfl ⟨Nat.le_of_ble_eq_true rfl, Nat.le_of_ble_eq_true rfl⟩ (Nat.le_of_ble_eq_true rfl) dX12_gapOf_54 rfl) rfl (fun x3 => ?_)
      refine T_iadd (pc := 57) dX12_gapOf_57 ?_
      refine T_iconst (pc := 58) (v := 1) dX12_gapOf_58 (by decide) ?_
      refine T_isub (pc := 59) dX12_gapOf_59 ?_
      refine T_callPz (pc := 60) (rest := []) (Rn_V (pc := 60) (as := [.int x2, .int ((((16 : Int32) * (p1 - (1 : Int32))) + x3) - (1 : Int32))]) (rest := []) (ctX12_endsIt σ x2 ((((16 : Int32) * (p1 - (1 : Int32))) + x3) - (1 : Int32))) rfl rfl mv_X12_endsIt hw1865 rfl ⟨Nat.le_of_ble_eq_true rfl, Nat.le_of_ble_eq_true rfl⟩ (Nat.le_of_ble_eq_true rfl) dX12_gapOf_60 rfl) rfl (fun x4 => ?_)
      refine T_if_eq (pc := 63) 70 dX12_gapOf_63 (by decide) (fun _ => ?_) (fun _ => ?_)
      · refine T_iconst (pc := 70) (v := 1) dX12_gapOf_70 (by decide) ?_
        exact T_ireturn (pc := 71) rfl dX12_gapOf_71 rfl
      · refine T_iconst (pc := 66) (v := 0) dX12_gapOf_66 (by decide) ?_
        refine T_goto (pc := 67) 71 dX12_gapOf_67 (by decide) ?_
        exact T_ireturn (pc := 71) rfl dX12_gapOf_71 rfl
  · refine T_aload_n (pc := 17) 0 dX12_gapOf_17 rfl rfl ?_
    refine T_getA (pc := 18) fd_10_22 hw1525 dX12_gapOf_18 ?_
    refine T_iload (pc := 21) 4 dX12_gapOf_21 rfl ?_
    refine T_iald (pc := 23) rfl dX12_gapOf_23 (fun x5 => ?_)
    refine T_if_ne (pc := 24) 31 dX12_gapOf_24 (by decide) (fun _ => ?_) (fun _ => ?_)
    · refine T_iconst (pc := 31) (v := 1) dX12_gapOf_31 (by decide) ?_
      exact T_ireturn (pc := 32) rfl dX12_gapOf_32 rfl
    · refine T_iconst (pc := 27) (v := 0) dX12_gapOf_27 (by decide) ?_
      refine T_goto (pc := 28) 32 dX12_gapOf_28 (by decide) ?_
      exact T_ireturn (pc := 32) rfl dX12_gapOf_32 rfl
set_option maxRecDepth 100000 in
set_option maxHeartbeats 4000000 in
theorem fX12_layLeft_L101_T (v1 : Int32) (v2 : Int32) (v3 : Int32) (σ : St) {k1 : St → Option St} {kb : St → Int32 → Option St} (hk1 : ∀ (σ' : St), T kX12_layLeft cSv σ' 228 [(0, .ref 10), (1, .int v1), (2, .int v2)] [] (k1 σ')) (hkb : ∀ (σ' : St) (w4 : Int32), T kX12_layLeft cSv σ' 101 [(0, .ref 10), (1, .int v1), (2, .int v2), (3, .int v3), (4, .int w4)] [] (kb σ' w4)) (v4 : Int32) : T kX12_layLeft cSv σ 101 [(0, .ref 10), (1, .int v1), (2, .int v2), (3, .int v3), (4, .int v4)] [] (fX12_layLeft_L101 v1 v2 v3 k1 kb σ v4) := by
  unfold fX12_layLeft_L101
  refine T_iload (pc := 101) 4 dX12_layLeft_101 rfl ?_
  refine T_aload_n (pc := 103) 0 dX12_layLeft_103 rfl rfl ?_
  refine T_getI (pc := 104) fd_10_8 hw1511 dX12_layLeft_104 ?_
  refine T_icmp_ge (pc := 107) 228 dX12_layLeft_107 (by decide) (fun _ => ?_) (fun _ => ?_)
  · refine T_pick (lv' := [(0, .ref 10), (1, .int v1), (2, .int v2)]) [0, 1, 2] rfl ?_
    exact hk1 σ
  · refine T_aload_n (pc := 110) 0 dX12_layLeft_110 rfl rfl ?_
    refine T_iload_n (pc := 111) 1 dX12_layLeft_111 rfl rfl ?_
    refine T_iload (pc := 112) 4 dX12_layLeft_112 rfl ?_
    refine T_callPz (pc := 114) (rest := []) (Rn_V (pc := 114) (as := [.int v1, .int v4]) (rest := []) (ctX12_mayGo σ v1 v4) rfl rfl mv_X12_mayGo hw1955 rfl ⟨Nat.le_of_ble_eq_true rfl, Nat.le_of_ble_eq_true rfl⟩ (Nat.le_of_ble_eq_true rfl) dX12_layLeft_114 rfl) rfl (fun x5 => ?_)
    refine T_if_ne (pc := 117) 123 dX12_layLeft_117 (by decide) (fun _ => ?_) (fun _ => ?_)
    · refine T_bipush (pc := 123) (v := 9) dX12_layLeft_123 (by decide) ?_
      refine T_iload_n (pc := 125) 1 dX12_layLeft_125 rfl rfl ?_
      refine T_aload_n (pc := 126) 0 dX12_layLeft_126 rfl rfl ?_
      refine T_getA (pc := 127) fd_10_37 hw1540 dX12_layLeft_127 ?_
      refine T_iload (pc := 130) 4 dX12_layLeft_130 rfl ?_
      refine T_iald (pc := 132) rfl dX12_layLeft_132 (fun x6 => ?_)
      refine T_iadd (pc := 133) dX12_layLeft_133 ?_
      refine T_imul (pc := 134) dX12_layLeft_134 ?_
      refine T_iload (pc := 135) 4 dX12_layLeft_135 rfl ?_
      refine T_iadd (pc := 137) dX12_layLeft_137 ?_
      refine T_iconst (pc := 138) (v := 1) dX12_layLeft_138 (by decide) ?_
      refine T_iadd (pc := 139) dX12_layLeft_139 ?_
      refine T_letI (fun x7 => ?_)
      refine T_istore (pc := 140) (lv' := [(0, .ref 10), (1, .int v1), (2, .int v2), (3, .int v3), (4, .int v4), (5, .int x7)]) dX12_layLeft_140 (Nat.le_of_ble_eq_true rfl) rfl ?_
      refine T_aload_n (pc := 142) 0 dX12_layLeft_142 rfl rfl ?_
      refine T_getA (pc := 143) fd_10_38 hw1541 dX12_layLeft_143 ?_
      refine T_iload (pc := 146) 5 dX12_layLeft_146 rfl ?_
      refine T_iald (pc := 148) rfl dX12_layLeft_148 (fun x8 => ?_)
      refine T_aload_n (pc := 149) 0 dX12_layLeft_149 rfl rfl ?_
      refine T_iload_n (pc := 150) 1 dX12_layLeft_150 rfl rfl ?_
      refine T_iload_n (pc := 151) 2 dX12_layLeft_151 rfl rfl ?_
      refine T_iload (pc := 152) 4 dX12_layLeft_152 rfl ?_
      refine T_callPi (pc := 154) (rest := [.int x8]) (Rn_V (pc := 154) (as := [.int v1, .int v2, .int v4]) (rest := [.int x8]) (ctX12_gapOf σ v1 v2 v4) rfl rfl mv_X12_gapOf hw1959 rfl ⟨Nat.le_of_ble_eq_true rfl, Nat.le_of_ble_eq_true rfl⟩ (Nat.le_of_ble_eq_true rfl) dX12_layLeft_154 rfl) rfl (fun x9 => ?_)
      refine T_iadd (pc := 157) dX12_layLeft_157 ?_
      refine T_letI (fun x10 => ?_)
      refine T_istore (pc := 158) (lv' := [(0, .ref 10), (1, .int v1), (2, .int v2), (3, .int v3), (4, .int v4), (5, .int x7), (6, .int x10)]) dX12_layLeft_158 (Nat.le_of_ble_eq_true rfl) rfl ?_
      refine T_iload (pc := 160) 6 dX12_layLeft_160 rfl ?_
      refine T_aload_n (pc := 162) 0 dX12_layLeft_162 rfl rfl ?_
      refine T_getA (pc := 163) fd_10_38 hw1541 dX12_layLeft_163 ?_
      refine T_iload_n (pc := 166) 3 dX12_layLeft_166 rfl rfl ?_
      refine T_iald (pc := 167) rfl dX12_layLeft_167 (fun x11 => ?_)
      refine T_icmp_ge (pc := 168) 178 dX12_layLeft_168 (by decide) (fun _ => ?_) (fun _ => ?_)
      · refine T_iload (pc := 178) 6 dX12_layLeft_178 rfl ?_
        refine T_aload_n (pc := 180) 0 dX12_layLeft_180 rfl rfl ?_
        refine T_getA (pc := 181) fd_10_38 hw1541 dX12_layLeft_181 ?_
        refine T_iload_n (pc := 184) 3 dX12_layLeft_184 rfl rfl ?_
        refine T_iald (pc := 185) rfl dX12_layLeft_185 (fun x12 => ?_)
        refine T_icmp_gt (pc := 186) 205 dX12_layLeft_186 (by decide) (fun _ => ?_) (fun _ => ?_)
        · refine T_aload_n (pc := 205) 0 dX12_layLeft_205 rfl rfl ?_
          refine T_getA (pc := 206) fd_10_38 hw1541 dX12_layLeft_206 ?_
          refine T_iload_n (pc := 209) 3 dX12_layLeft_209 rfl rfl ?_
          refine T_aload_n (pc := 210) 0 dX12_layLeft_210 rfl rfl ?_
          refine T_getA (pc := 211) fd_10_38 hw1541 dX12_layLeft_211 ?_
          refine T_iload_n (pc := 214) 3 dX12_layLeft_214 rfl rfl ?_
          refine T_iald (pc := 215) rfl dX12_layLeft_215 (fun x13 => ?_)
          refine T_iload (pc := 216) 6 dX12_layLeft_216 rfl ?_
          refine T_callPi (pc := 218) (rest := [.int v3, .ref 74]) (Rn_S (pc := 218) (as := [.int x13, .int x10]) (rest := [.int v3, .ref 74]) (ctJ9_min_7cf53 σ x13 x10) ms_J9_min_7cf53 hw1898 rfl ⟨Nat.le_of_ble_eq_true rfl, Nat.le_of_ble_eq_true rfl⟩ (Nat.le_of_ble_eq_true rfl) dX12_layLeft_218 rfl) rfl (fun x14 => ?_)
          refine T_iast (pc := 221) rfl dX12_layLeft_221 ?_
          refine T_letS (fun s15 => ?_)
          refine T_iinc (pc := 222) (y := 1) (lv' := [(0, .ref 10), (1, .int v1), (2, .int v2), (3, .int v3), (4, .int (v4 + (1 : Int32))), (5, .int x7), (6, .int x10)]) 4 dX12_layLeft_222 (by decide) rfl (Nat.le_of_ble_eq_true rfl) rfl ?_
          refine T_goto (pc := 225) 101 dX12_layLeft_225 (by decide) ?_
          refine T_pick (lv' := [(0, .ref 10), (1, .int v1), (2, .int v2), (3, .int v3), (4, .int (v4 + (1 : Int32)))]) [0, 1, 2, 3, 4] rfl ?_
          exact hkb s15 (v4 + (1 : Int32))
        · refine T_aload_n (pc := 189) 0 dX12_layLeft_189 rfl rfl ?_
          refine T_getA (pc := 190) fd_10_40 hw1543 dX12_layLeft_190 ?_
          refine T_iload_n (pc := 193) 3 dX12_layLeft_193 rfl rfl ?_
          refine T_dup2_ia (pc := 194) dX12_layLeft_194 ?_
          refine T_lald (pc := 195) rfl dX12_layLeft_195 (fun x16 => ?_)
          refine T_aload_n (pc := 196) 0 dX12_layLeft_196 rfl rfl ?_
          refine T_getA (pc := 197) fd_10_40 hw1543 dX12_layLeft_197 ?_
          refine T_iload (pc := 200) 5 dX12_layLeft_200 rfl ?_
          refine T_lald (pc := 202) rfl dX12_layLeft_202 (fun x17 => ?_)
          refine T_ladd (pc := 203) dX12_layLeft_203 ?_
          refine T_last (pc := 204) rfl dX12_layLeft_204 ?_
          refine T_letS (fun s18 => ?_)
          refine T_aload_n (pc := 205) 0 dX12_layLeft_205 rfl rfl ?_
          refine T_getA (pc := 206) fd_10_38 hw1541 dX12_layLeft_206 ?_
          refine T_iload_n (pc := 209) 3 dX12_layLeft_209 rfl rfl ?_
          refine T_aload_n (pc := 210) 0 dX12_layLeft_210 rfl rfl ?_
          refine T_getA (pc := 211) fd_10_38 hw1541 dX12_layLeft_211 ?_
          refine T_iload_n (pc := 214) 3 dX12_layLeft_214 rfl rfl ?_
          refine T_iald (pc := 215) rfl dX12_layLeft_215 (fun x19 => ?_)
          refine T_iload (pc := 216) 6 dX12_layLeft_216 rfl ?_
          refine T_callPi (pc := 218) (rest := [.int v3, .ref 74]) (Rn_S (pc := 218) (as := [.int x19, .int x10]) (rest := [.int v3, .ref 74]) (ctJ9_min_7cf53 s18 x19 x10) ms_J9_min_7cf53 hw1898 rfl ⟨Nat.le_of_ble_eq_true rfl, Nat.le_of_ble_eq_true rfl⟩ (Nat.le_of_ble_eq_true rfl) dX12_layLeft_218 rfl) rfl (fun x20 => ?_)
          refine T_iast (pc := 221) rfl dX12_layLeft_221 ?_
          refine T_letS (fun s21 => ?_)
          refine T_iinc (pc := 222) (y := 1) (lv' := [(0, .ref 10), (1, .int v1), (2, .int v2), (3, .int v3), (4, .int (v4 + (1 : Int32))), (5, .int x7), (6, .int x10)]) 4 dX12_layLeft_222 (by decide) rfl (Nat.le_of_ble_eq_true rfl) rfl ?_
          refine T_goto (pc := 225) 101 dX12_layLeft_225 (by decide) ?_
          refine T_pick (lv' := [(0, .ref 10), (1, .int v1), (2, .int v2), (3, .int v3), (4, .int (v4 + (1 : Int32)))]) [0, 1, 2, 3, 4] rfl ?_
          exact hkb s21 (v4 + (1 : Int32))
      · refine T_aload_n (pc := 171) 0 dX12_layLeft_171 rfl rfl ?_
        refine T_getA (pc := 172) fd_10_40 hw1543 dX12_layLeft_172 ?_
        refine T_iload_n (pc := 175) 3 dX12_layLeft_175 rfl rfl ?_
        refine T_lconst (pc := 176) (v := 0) dX12_layLeft_176 (by decide) ?_
        refine T_last (pc := 177) rfl dX12_layLeft_177 ?_
        refine T_letS (fun s22 => ?_)
        refine T_iload (pc := 178) 6 dX12_layLeft_178 rfl ?_
        refine T_aload_n (pc := 180) 0 dX12_layLeft_180 rfl rfl ?_
        refine T_getA (pc := 181) fd_10_38 hw1541 dX12_layLeft_181 ?_
        refine T_iload_n (pc := 184) 3 dX12_layLeft_184 rfl rfl ?_
        refine T_iald (pc := 185) rfl dX12_layLeft_185 (fun x23 => ?_)
        refine T_icmp_gt (pc := 186) 205 dX12_layLeft_186 (by decide) (fun _ => ?_) (fun _ => ?_)
        · refine T_aload_n (pc := 205) 0 dX12_layLeft_205 rfl rfl ?_
          refine T_getA (pc := 206) fd_10_38 hw1541 dX12_layLeft_206 ?_
          refine T_iload_n (pc := 209) 3 dX12_layLeft_209 rfl rfl ?_
          refine T_aload_n (pc := 210) 0 dX12_layLeft_210 rfl rfl ?_
          refine T_getA (pc := 211) fd_10_38 hw1541 dX12_layLeft_211 ?_
          refine T_iload_n (pc := 214) 3 dX12_layLeft_214 rfl rfl ?_
          refine T_iald (pc := 215) rfl dX12_layLeft_215 (fun x24 => ?_)
          refine T_iload (pc := 216) 6 dX12_layLeft_216 rfl ?_
          refine T_callPi (pc := 218) (rest := [.int v3, .ref 74]) (Rn_S (pc := 218) (as := [.int x24, .int x10]) (rest := [.int v3, .ref 74]) (ctJ9_min_7cf53 s22 x24 x10) ms_J9_min_7cf53 hw1898 rfl ⟨Nat.le_of_ble_eq_true rfl, Nat.le_of_ble_eq_true rfl⟩ (Nat.le_of_ble_eq_true rfl) dX12_layLeft_218 rfl) rfl (fun x25 => ?_)
          refine T_iast (pc := 221) rfl dX12_layLeft_221 ?_
          refine T_letS (fun s26 => ?_)
          refine T_iinc (pc := 222) (y := 1) (lv' := [(0, .ref 10), (1, .int v1), (2, .int v2), (3, .int v3), (4, .int (v4 + (1 : Int32))), (5, .int x7), (6, .int x10)]) 4 dX12_layLeft_222 (by decide) rfl (Nat.le_of_ble_eq_true rfl) rfl ?_
          refine T_goto (pc := 225) 101 dX12_layLeft_225 (by decide) ?_
          refine T_pick (lv' := [(0, .ref 10), (1, .int v1), (2, .int v2), (3, .int v3), (4, .int (v4 + (1 : Int32)))]) [0, 1, 2, 3, 4] rfl ?_
          exact hkb s26 (v4 + (1 : Int32))
        · refine T_aload_n (pc := 189) 0 dX12_layLeft_189 rfl rfl ?_
          refine T_getA (pc := 190) fd_10_40 hw1543 dX12_layLeft_190 ?_
          refine T_iload_n (pc := 193) 3 dX12_layLeft_193 rfl rfl ?_
          refine T_dup2_ia (pc := 194) dX12_layLeft_194 ?_
          refine T_lald (pc := 195) rfl dX12_layLeft_195 (fun x27 => ?_)
          refine T_aload_n (pc := 196) 0 dX12_layLeft_196 rfl rfl ?_
          refine T_getA (pc := 197) fd_10_40 hw1543 dX12_layLeft_197 ?_
          refine T_iload (pc := 200) 5 dX12_layLeft_200 rfl ?_
          refine T_lald (pc := 202) rfl dX12_layLeft_202 (fun x28 => ?_)
          refine T_ladd (pc := 203) dX12_layLeft_203 ?_
          refine T_last (pc := 204) rfl dX12_layLeft_204 ?_
          refine T_letS (fun s29 => ?_)
          refine T_aload_n (pc := 205) 0 dX12_layLeft_205 rfl rfl ?_
          refine T_getA (pc := 206) fd_10_38 hw1541 dX12_layLeft_206 ?_
          refine T_iload_n (pc := 209) 3 dX12_layLeft_209 rfl rfl ?_
          refine T_aload_n (pc := 210) 0 dX12_layLeft_210 rfl rfl ?_
          refine T_getA (pc := 211) fd_10_38 hw1541 dX12_layLeft_211 ?_
          refine T_iload_n (pc := 214) 3 dX12_layLeft_214 rfl rfl ?_
          refine T_iald (pc := 215) rfl dX12_layLeft_215 (fun x30 => ?_)
          refine T_iload (pc := 216) 6 dX12_layLeft_216 rfl ?_
          refine T_callPi (pc := 218) (rest := [.int v3, .ref 74]) (Rn_S (pc := 218) (as := [.int x30, .int x10]) (rest := [.int v3, .ref 74]) (ctJ9_min_7cf53 s29 x30 x10) ms_J9_min_7cf53 hw1898 rfl ⟨Nat.le_of_ble_eq_true rfl, Nat.le_of_ble_eq_true rfl⟩ (Nat.le_of_ble_eq_true rfl) dX12_layLeft_218 rfl) rfl (fun x31 => ?_)
          refine T_iast (pc := 221) rfl dX12_layLeft_221 ?_
          refine T_letS (fun s32 => ?_)
          refine T_iinc (pc := 222) (y := 1) (lv' := [(0, .ref 10), (1, .int v1), (2, .int v2), (3, .int v3), (4, .int (v4 + (1 : Int32))), (5, .int x7), (6, .int x10)]) 4 dX12_layLeft_222 (by decide) rfl (Nat.le_of_ble_eq_true rfl) rfl ?_
          refine T_goto (pc := 225) 101 dX12_layLeft_225 (by decide) ?_
          refine T_pick (lv' := [(0, .ref 10), (1, .int v1), (2, .int v2), (3, .int v3), (4, .int (v4 + (1 : Int32)))]) [0, 1, 2, 3, 4] rfl ?_
          exact hkb s32 (v4 + (1 : Int32))
    · refine T_goto (pc := 120) 222 dX12_layLeft_120 (by decide) ?_
      refine T_iinc (pc := 222) (y := 1) (lv' := [(0, .ref 10), (1, .int v1), (2, .int v2), (3, .int v3), (4, .int (v4 + (1 : Int32)))]) 4 dX12_layLeft_222 (by decide) rfl (Nat.le_of_ble_eq_true rfl) rfl ?_
      refine T_goto (pc := 225) 101 dX12_layLeft_225 (by decide) ?_
      exact hkb σ (v4 + (1 : Int32))
set_option maxRecDepth 100000 in
set_option maxHeartbeats 4000000 in
theorem fX12_layLeft_P101_T (v1 : Int32) (v2 : Int32) (v3 : Int32) (σ : St) {k1 : St → Option St} (hk1 : ∀ (σ' : St), T kX12_layLeft cSv σ' 228 [(0, .ref 10), (1, .int v1), (2, .int v2)] [] (k1 σ')) (v4 : Int32) : T kX12_layLeft cSv σ 101 [(0, .ref 10), (1, .int v1), (2, .int v2), (3, .int v3), (4, .int v4)] [] (fX12_layLeft_P101 v1 v2 v3 k1 σ v4) :=
  it_T (S := (fun t : St × Int32 => t.1)) (lv := fun t : St × Int32 => [(0, .ref 10), (1, .int v1), (2, .int v2), (3, .int v3), (4, .int t.2)]) (st := fun _ => []) (fun kb hkb t => fX12_layLeft_L101_T v1 v2 v3 (hk1 := hk1) (hkb := fun σ v4 => hkb (σ, v4)) t.1 t.2) FU (σ, v4)
set_option maxRecDepth 100000 in
set_option maxHeartbeats 4000000 in
theorem fX12_layLeft_J98_T (σ : St) (v1 : Int32) (v2 : Int32) (v3 : Int32) {kb : St → Int32 → Option St} (hkb : ∀ (σ' : St) (w2 : Int32), T kX12_layLeft cSv σ' 13 [(0, .ref 10), (1, .int v1), (2, .int w2)] [] (kb σ' w2)) : T kX12_layLeft cSv σ 98 [(0, .ref 10), (1, .int v1), (2, .int v2), (3, .int v3)] [] (fX12_layLeft_J98 kb σ v1 v2 v3) := by
  unfold fX12_layLeft_J98
  refine T_iconst (pc := 98) (v := 0) dX12_layLeft_98 (by decide) ?_
  refine T_istore (pc := 99) (lv' := [(0, .ref 10), (1, .int v1), (2, .int v2), (3, .int v3), (4, .int (0 : Int32))]) dX12_layLeft_99 (Nat.le_of_ble_eq_true rfl) rfl ?_
  refine fX12_layLeft_P101_T v1 v2 v3 (hk1 := fun s33 => ?_) σ (0 : Int32)
  · refine T_iinc (pc := 228) (y := 1) (lv' := [(0, .ref 10), (1, .int v1), (2, .int (v2 + (1 : Int32)))]) 2 dX12_layLeft_228 (by decide) rfl (Nat.le_of_ble_eq_true rfl) rfl ?_
    refine T_goto (pc := 231) 13 dX12_layLeft_231 (by decide) ?_
    exact hkb s33 (v2 + (1 : Int32))
set_option maxRecDepth 100000 in
set_option maxHeartbeats 4000000 in
theorem fX12_layLeft_J50_T (σ : St) (v1 : Int32) (v2 : Int32) (v3 : Int32) (t0 : Int32) (t1 : Int32) {kb : St → Int32 → Option St} (hkb : ∀ (σ' : St) (w2 : Int32), T kX12_layLeft cSv σ' 13 [(0, .ref 10), (1, .int v1), (2, .int w2)] [] (kb σ' w2)) : T kX12_layLeft cSv σ 50 [(0, .ref 10), (1, .int v1), (2, .int v2), (3, .int v3)] [.int t0, .int t1, .ref 74] (fX12_layLeft_J50 kb σ v1 v2 v3 t0 t1) := by
  unfold fX12_layLeft_J50
  refine T_iast (pc := 50) rfl dX12_layLeft_50 ?_
  refine T_letS (fun s3 => ?_)
  refine T_aload_n (pc := 51) 0 dX12_layLeft_51 rfl rfl ?_
  refine T_getA (pc := 52) fd_10_40 hw1543 dX12_layLeft_52 ?_
  refine T_iload_n (pc := 55) 3 dX12_layLeft_55 rfl rfl ?_
  refine T_iload_n (pc := 56) 1 dX12_layLeft_56 rfl rfl ?_
  refine T_aload_n (pc := 57) 0 dX12_layLeft_57 rfl rfl ?_
  refine T_getI (pc := 58) fd_10_42 hw1545 dX12_layLeft_58 ?_
  refine T_iconst (pc := 61) (v := 1) dX12_layLeft_61 (by decide) ?_
  refine T_isub (pc := 62) dX12_layLeft_62 ?_
  refine T_icmp_ne (pc := 63) 70 dX12_layLeft_63 (by decide) (fun _ => ?_) (fun _ => ?_)
  · refine T_lconst (pc := 70) (v := 0) dX12_layLeft_70 (by decide) ?_
    refine T_last (pc := 71) rfl dX12_layLeft_71 ?_
    refine T_letS (fun s4 => ?_)
    refine T_iload_n (pc := 72) 2 dX12_layLeft_72 rfl rfl ?_
    refine T_if_le (pc := 73) 87 dX12_layLeft_73 (by decide) (fun _ => ?_) (fun _ => ?_)
    · refine T_iload_n (pc := 87) 2 dX12_layLeft_87 rfl rfl ?_
      refine T_if_ne (pc := 88) 98 dX12_layLeft_88 (by decide) (fun _ => ?_) (fun _ => ?_)
      · exact fX12_layLeft_J98_T (hkb := hkb) s4 v1 v2 v3
      · refine T_iload_n (pc := 91) 1 dX12_layLeft_91 rfl rfl ?_
        refine T_if_le (pc := 92) 98 dX12_layLeft_92 (by decide) (fun _ => ?_) (fun _ => ?_)
        · exact fX12_layLeft_J98_T (hkb := hkb) s4 v1 v2 v3
        · refine T_goto (pc := 95) 228 dX12_layLeft_95 (by decide) ?_
          refine T_iinc (pc := 228) (y := 1) (lv' := [(0, .ref 10), (1, .int v1), (2, .int (v2 + (1 : Int32))), (3, .int v3)]) 2 dX12_layLeft_228 (by decide) rfl (Nat.le_of_ble_eq_true rfl) rfl ?_
          refine T_goto (pc := 231) 13 dX12_layLeft_231 (by decide) ?_
          refine T_pick (lv' := [(0, .ref 10), (1, .int v1), (2, .int (v2 + (1 : Int32)))]) [0, 1, 2] rfl ?_
          exact hkb s4 (v2 + (1 : Int32))
    · refine T_aload_n (pc := 76) 0 dX12_layLeft_76 rfl rfl ?_
      refine T_iload_n (pc := 77) 1 dX12_layLeft_77 rfl rfl ?_
      refine T_iload_n (pc := 78) 2 dX12_layLeft_78 rfl rfl ?_
      refine T_iconst (pc := 79) (v := 1) dX12_layLeft_79 (by decide) ?_
      refine T_isub (pc := 80) dX12_layLeft_80 ?_
      refine T_callPi (pc := 81) (rest := []) (Rn_V (pc := 81) (as := [.int v1, .int (v2 - (1 : Int32))]) (rest := []) (ctX12_saidOf s4 v1 (v2 - (1 : Int32))) rfl rfl mv_X12_saidOf hw1951 rfl ⟨Nat.le_of_ble_eq_true rfl, Nat.le_of_ble_eq_true rfl⟩ (Nat.le_of_ble_eq_true rfl) dX12_layLeft_81 rfl) rfl (fun x34 => ?_)
      refine T_if_eq (pc := 84) 228 dX12_layLeft_84 (by decide) (fun _ => ?_) (fun _ => ?_)
      · refine T_iinc (pc := 228) (y := 1) (lv' := [(0, .ref 10), (1, .int v1), (2, .int (v2 + (1 : Int32))), (3, .int v3)]) 2 dX12_layLeft_228 (by decide) rfl (Nat.le_of_ble_eq_true rfl) rfl ?_
        refine T_goto (pc := 231) 13 dX12_layLeft_231 (by decide) ?_
        refine T_pick (lv' := [(0, .ref 10), (1, .int v1), (2, .int (v2 + (1 : Int32)))]) [0, 1, 2] rfl ?_
        exact hkb s4 (v2 + (1 : Int32))
      · refine T_iload_n (pc := 87) 2 dX12_layLeft_87 rfl rfl ?_
        refine T_if_ne (pc := 88) 98 dX12_layLeft_88 (by decide) (fun _ => ?_) (fun _ => ?_)
        · exact fX12_layLeft_J98_T (hkb := hkb) s4 v1 v2 v3
        · refine T_iload_n (pc := 91) 1 dX12_layLeft_91 rfl rfl ?_
          refine T_if_le (pc := 92) 98 dX12_layLeft_92 (by decide) (fun _ => ?_) (fun _ => ?_)
          · exact fX12_layLeft_J98_T (hkb := hkb) s4 v1 v2 v3
          · refine T_goto (pc := 95) 228 dX12_layLeft_95 (by decide) ?_
            refine T_iinc (pc := 228) (y := 1) (lv' := [(0, .ref 10), (1, .int v1), (2, .int (v2 + (1 : Int32))), (3, .int v3)]) 2 dX12_layLeft_228 (by decide) rfl (Nat.le_of_ble_eq_true rfl) rfl ?_
            refine T_goto (pc := 231) 13 dX12_layLeft_231 (by decide) ?_
            refine T_pick (lv' := [(0, .ref 10), (1, .int v1), (2, .int (v2 + (1 : Int32)))]) [0, 1, 2] rfl ?_
            exact hkb s4 (v2 + (1 : Int32))
  · refine T_lconst (pc := 66) (v := 1) dX12_layLeft_66 (by decide) ?_
    refine T_goto (pc := 67) 71 dX12_layLeft_67 (by decide) ?_
    refine T_last (pc := 71) rfl dX12_layLeft_71 ?_
    refine T_letS (fun s35 => ?_)
    refine T_iload_n (pc := 72) 2 dX12_layLeft_72 rfl rfl ?_
    refine T_if_le (pc := 73) 87 dX12_layLeft_73 (by decide) (fun _ => ?_) (fun _ => ?_)
    · refine T_iload_n (pc := 87) 2 dX12_layLeft_87 rfl rfl ?_
      refine T_if_ne (pc := 88) 98 dX12_layLeft_88 (by decide) (fun _ => ?_) (fun _ => ?_)
      · exact fX12_layLeft_J98_T (hkb := hkb) s35 v1 v2 v3
      · refine T_iload_n (pc := 91) 1 dX12_layLeft_91 rfl rfl ?_
        refine T_if_le (pc := 92) 98 dX12_layLeft_92 (by decide) (fun _ => ?_) (fun _ => ?_)
        · exact fX12_layLeft_J98_T (hkb := hkb) s35 v1 v2 v3
        · refine T_goto (pc := 95) 228 dX12_layLeft_95 (by decide) ?_
          refine T_iinc (pc := 228) (y := 1) (lv' := [(0, .ref 10), (1, .int v1), (2, .int (v2 + (1 : Int32))), (3, .int v3)]) 2 dX12_layLeft_228 (by decide) rfl (Nat.le_of_ble_eq_true rfl) rfl ?_
          refine T_goto (pc := 231) 13 dX12_layLeft_231 (by decide) ?_
          refine T_pick (lv' := [(0, .ref 10), (1, .int v1), (2, .int (v2 + (1 : Int32)))]) [0, 1, 2] rfl ?_
          exact hkb s35 (v2 + (1 : Int32))
    · refine T_aload_n (pc := 76) 0 dX12_layLeft_76 rfl rfl ?_
      refine T_iload_n (pc := 77) 1 dX12_layLeft_77 rfl rfl ?_
      refine T_iload_n (pc := 78) 2 dX12_layLeft_78 rfl rfl ?_
      refine T_iconst (pc := 79) (v := 1) dX12_layLeft_79 (by decide) ?_
      refine T_isub (pc := 80) dX12_layLeft_80 ?_
      refine T_callPi (pc := 81) (rest := []) (Rn_V (pc := 81) (as := [.int v1, .int (v2 - (1 : Int32))]) (rest := []) (ctX12_saidOf s35 v1 (v2 - (1 : Int32))) rfl rfl mv_X12_saidOf hw1951 rfl ⟨Nat.le_of_ble_eq_true rfl, Nat.le_of_ble_eq_true rfl⟩ (Nat.le_of_ble_eq_true rfl) dX12_layLeft_81 rfl) rfl (fun x36 => ?_)
      refine T_if_eq (pc := 84) 228 dX12_layLeft_84 (by decide) (fun _ => ?_) (fun _ => ?_)
      · refine T_iinc (pc := 228) (y := 1) (lv' := [(0, .ref 10), (1, .int v1), (2, .int (v2 + (1 : Int32))), (3, .int v3)]) 2 dX12_layLeft_228 (by decide) rfl (Nat.le_of_ble_eq_true rfl) rfl ?_
        refine T_goto (pc := 231) 13 dX12_layLeft_231 (by decide) ?_
        refine T_pick (lv' := [(0, .ref 10), (1, .int v1), (2, .int (v2 + (1 : Int32)))]) [0, 1, 2] rfl ?_
        exact hkb s35 (v2 + (1 : Int32))
      · refine T_iload_n (pc := 87) 2 dX12_layLeft_87 rfl rfl ?_
        refine T_if_ne (pc := 88) 98 dX12_layLeft_88 (by decide) (fun _ => ?_) (fun _ => ?_)
        · exact fX12_layLeft_J98_T (hkb := hkb) s35 v1 v2 v3
        · refine T_iload_n (pc := 91) 1 dX12_layLeft_91 rfl rfl ?_
          refine T_if_le (pc := 92) 98 dX12_layLeft_92 (by decide) (fun _ => ?_) (fun _ => ?_)
          · exact fX12_layLeft_J98_T (hkb := hkb) s35 v1 v2 v3
          · refine T_goto (pc := 95) 228 dX12_layLeft_95 (by decide) ?_
            refine T_iinc (pc := 228) (y := 1) (lv' := [(0, .ref 10), (1, .int v1), (2, .int (v2 + (1 : Int32))), (3, .int v3)]) 2 dX12_layLeft_228 (by decide) rfl (Nat.le_of_ble_eq_true rfl) rfl ?_
            refine T_goto (pc := 231) 13 dX12_layLeft_231 (by decide) ?_
            refine T_pick (lv' := [(0, .ref 10), (1, .int v1), (2, .int (v2 + (1 : Int32)))]) [0, 1, 2] rfl ?_
            exact hkb s35 (v2 + (1 : Int32))
set_option maxRecDepth 100000 in
set_option maxHeartbeats 4000000 in
theorem fX12_layLeft_L13_T (v1 : Int32) (σ : St) {k1 : St → Option St} {kb : St → Int32 → Option St} (hk1 : ∀ (σ' : St), T kX12_layLeft cSv σ' 234 [(0, .ref 10), (1, .int v1)] [] (k1 σ')) (hkb : ∀ (σ' : St) (w2 : Int32), T kX12_layLeft cSv σ' 13 [(0, .ref 10), (1, .int v1), (2, .int w2)] [] (kb σ' w2)) (v2 : Int32) : T kX12_layLeft cSv σ 13 [(0, .ref 10), (1, .int v1), (2, .int v2)] [] (fX12_layLeft_L13 v1 k1 kb σ v2) := by
  unfold fX12_layLeft_L13
  refine T_iload_n (pc := 13) 2 dX12_layLeft_13 rfl rfl ?_
  refine T_aload_n (pc := 14) 0 dX12_layLeft_14 rfl rfl ?_
  refine T_getI (pc := 15) fd_10_8 hw1511 dX12_layLeft_15 ?_
  refine T_icmp_gt (pc := 18) 234 dX12_layLeft_18 (by decide) (fun _ => ?_) (fun _ => ?_)
  · refine T_pick (lv' := [(0, .ref 10), (1, .int v1)]) [0, 1] rfl ?_
    exact hk1 σ
  · refine T_bipush (pc := 21) (v := 9) dX12_layLeft_21 (by decide) ?_
    refine T_iload_n (pc := 23) 1 dX12_layLeft_23 rfl rfl ?_
    refine T_imul (pc := 24) dX12_layLeft_24 ?_
    refine T_iload_n (pc := 25) 2 dX12_layLeft_25 rfl rfl ?_
    refine T_iadd (pc := 26) dX12_layLeft_26 ?_
    refine T_letI (fun x2 => ?_)
    refine T_istore_n (pc := 27) (lv' := [(0, .ref 10), (1, .int v1), (2, .int v2), (3, .int x2)]) dX12_layLeft_27 rfl (Nat.le_of_ble_eq_true rfl) rfl ?_
    refine T_aload_n (pc := 28) 0 dX12_layLeft_28 rfl rfl ?_
    refine T_getA (pc := 29) fd_10_38 hw1541 dX12_layLeft_29 ?_
    refine T_iload_n (pc := 32) 3 dX12_layLeft_32 rfl rfl ?_
    refine T_iload_n (pc := 33) 1 dX12_layLeft_33 rfl rfl ?_
    refine T_aload_n (pc := 34) 0 dX12_layLeft_34 rfl rfl ?_
    refine T_getI (pc := 35) fd_10_42 hw1545 dX12_layLeft_35 ?_
    refine T_iconst (pc := 38) (v := 1) dX12_layLeft_38 (by decide) ?_
    refine T_isub (pc := 39) dX12_layLeft_39 ?_
    refine T_icmp_ne (pc := 40) 47 dX12_layLeft_40 (by decide) (fun _ => ?_) (fun _ => ?_)
    · refine T_sipush (pc := 47) (v := 10000) dX12_layLeft_47 (by decide) ?_
      exact fX12_layLeft_J50_T (hkb := hkb) σ v1 v2 x2 (10000 : Int32) x2
    · refine T_iconst (pc := 43) (v := 0) dX12_layLeft_43 (by decide) ?_
      refine T_goto (pc := 44) 50 dX12_layLeft_44 (by decide) ?_
      exact fX12_layLeft_J50_T (hkb := hkb) σ v1 v2 x2 (0 : Int32) x2
set_option maxRecDepth 100000 in
set_option maxHeartbeats 4000000 in
theorem fX12_layLeft_P13_T (v1 : Int32) (σ : St) {k1 : St → Option St} (hk1 : ∀ (σ' : St), T kX12_layLeft cSv σ' 234 [(0, .ref 10), (1, .int v1)] [] (k1 σ')) (v2 : Int32) : T kX12_layLeft cSv σ 13 [(0, .ref 10), (1, .int v1), (2, .int v2)] [] (fX12_layLeft_P13 v1 k1 σ v2) :=
  it_T (S := (fun t : St × Int32 => t.1)) (lv := fun t : St × Int32 => [(0, .ref 10), (1, .int v1), (2, .int t.2)]) (st := fun _ => []) (fun kb hkb t => fX12_layLeft_L13_T v1 (hk1 := hk1) (hkb := fun σ v2 => hkb (σ, v2)) t.1 t.2) FU (σ, v2)
set_option maxRecDepth 100000 in
set_option maxHeartbeats 4000000 in
theorem fX12_layLeft_L7_T (σ : St) {kb : St → Int32 → Option St} (hkb : ∀ (σ' : St) (w1 : Int32), T kX12_layLeft cSv σ' 7 [(0, .ref 10), (1, .int w1)] [] (kb σ' w1)) (v1 : Int32) : T kX12_layLeft cSv σ 7 [(0, .ref 10), (1, .int v1)] [] (fX12_layLeft_L7 kb σ v1) := by
  unfold fX12_layLeft_L7
  refine T_iload_n (pc := 7) 1 dX12_layLeft_7 rfl rfl ?_
  refine T_if_lt (pc := 8) 240 dX12_layLeft_8 (by decide) (fun _ => ?_) (fun _ => ?_)
  · exact T_return (pc := 240) rfl dX12_layLeft_240 rfl
  · refine T_iconst (pc := 11) (v := 0) dX12_layLeft_11 (by decide) ?_
    refine T_istore_n (pc := 12) (lv' := [(0, .ref 10), (1, .int v1), (2, .int (0 : Int32))]) dX12_layLeft_12 rfl (Nat.le_of_ble_eq_true rfl) rfl ?_
    refine fX12_layLeft_P13_T v1 (hk1 := fun s37 => ?_) σ (0 : Int32)
    · refine T_iinc (pc := 234) (y := -1) (lv' := [(0, .ref 10), (1, .int (v1 + (-1 : Int32)))]) 1 dX12_layLeft_234 (by decide) rfl (Nat.le_of_ble_eq_true rfl) rfl ?_
      refine T_goto (pc := 237) 7 dX12_layLeft_237 (by decide) ?_
      exact hkb s37 (v1 + (-1 : Int32))
set_option maxRecDepth 100000 in
set_option maxHeartbeats 4000000 in
theorem fX12_layLeft_P7_T (σ : St) (v1 : Int32) : T kX12_layLeft cSv σ 7 [(0, .ref 10), (1, .int v1)] [] (fX12_layLeft_P7 σ v1) :=
  it_T (S := (fun t : St × Int32 => t.1)) (lv := fun t : St × Int32 => [(0, .ref 10), (1, .int t.2)]) (st := fun _ => []) (fun kb hkb t => fX12_layLeft_L7_T (hkb := fun σ v1 => hkb (σ, v1)) t.1 t.2) FU (σ, v1)
set_option maxRecDepth 100000 in
set_option maxHeartbeats 4000000 in
theorem ctX12_layLeft (σ : St) : Ct yX12_layLeft kX12_layLeft [.ref 10] σ cSv (fX12_layLeft σ) := by
  refine Ct.of (by decide +kernel) rfl rfl (Nat.le_of_ble_eq_true rfl) ?_
  unfold fX12_layLeft
  show T _ _ _ 0 [(0, .ref 10)] [] _
  refine T_aload_n (pc := 0) 0 dX12_layLeft_0 rfl rfl ?_
  refine T_getI (pc := 1) fd_10_42 hw1545 dX12_layLeft_1 ?_
  refine T_iconst (pc := 4) (v := 1) dX12_layLeft_4 (by decide) ?_
  refine T_isub (pc := 5) dX12_layLeft_5 ?_
  refine T_letI (fun x1 => ?_)
  refine T_istore_n (pc := 6) (lv' := [(0, .ref 10), (1, .int x1)]) dX12_layLeft_6 rfl (Nat.le_of_ble_eq_true rfl) rfl ?_
  exact fX12_layLeft_P7_T σ x1
set_option maxRecDepth 100000 in
set_option maxHeartbeats 4000000 in
theorem fX12_first_L55_T (v2 : Int32) (v3 : Int32) (v4 : Int32) (v6 : Int32) (σ : St) {k1 : Int32 → Option (Int32 × St)} {kb : Int32 → Option (Int32 × St)} (hk1 : ∀ (w7 : Int32), T kX12_first cSi σ 118 [(0, .ref 10), (2, .int v2), (3, .int v3), (6, .int v6), (7, .int w7)] [] (k1 w7)) (hkb : ∀ (w7 : Int32), T kX12_first cSi σ 55 [(0, .ref 10), (2, .int v2), (3, .int v3), (4, .int v4), (6, .int v6), (7, .int w7)] [] (kb w7)) (v7 : Int32) : T kX12_first cSi σ 55 [(0, .ref 10), (2, .int v2), (3, .int v3), (4, .int v4), (6, .int v6), (7, .int v7)] [] (fX12_first_L55 v2 v3 v4 v6 k1 kb σ v7) := by
  unfold fX12_first_L55
  refine T_aload_n (pc := 55) 0 dX12_first_55 rfl rfl ?_
  refine T_iload_n (pc := 56) 2 dX12_first_56 rfl rfl ?_
  refine T_iload (pc := 57) 5 dX12_first_57 rfl ?_
  refine T_callPz (pc := 59) (rest := []) (Rn_V (pc := 59) (as := [.int v3, .int v7]) (rest := []) (ctX12_mayGo σ v3 v7) rfl rfl mv_X12_mayGo hw1955 rfl ⟨Nat.le_of_ble_eq_true rfl, Nat.le_of_ble_eq_true rfl⟩ (Nat.le_of_ble_eq_true rfl) dX12_first_59 rfl) rfl (fun x4 => ?_)
  refine T_if_eq (pc := 62) 112 dX12_first_62 (by decide) (fun _ => ?_) (fun _ => ?_)
  · refine T_iinc (pc := 112) (y := 1) (lv' := [(0, .ref 10), (2, .int v2), (3, .int v3), (4, .int v4), (6, .int v6), (7, .int (v7 + (1 : Int32)))]) 5 dX12_first_112 (by decide) rfl (Nat.le_of_ble_eq_true rfl) rfl ?_
    refine T_goto (pc := 115) 55 dX12_first_115 (by decide) ?_
    exact hkb (v7 + (1 : Int32))
  · refine T_aload_n (pc := 65) 0 dX12_first_65 rfl rfl ?_
    refine T_getA (pc := 66) fd_10_38 hw1541 dX12_first_66 ?_
    refine T_bipush (pc := 69) (v := 9) dX12_first_69 (by decide) ?_
    refine T_iload_n (pc := 71) 2 dX12_first_71 rfl rfl ?_
    refine T_aload_n (pc := 72) 0 dX12_first_72 rfl rfl ?_
    refine T_getA (pc := 73) fd_10_37 hw1540 dX12_first_73 ?_
    refine T_iload (pc := 76) 5 dX12_first_76 rfl ?_
    refine T_iald (pc := 78) rfl dX12_first_78 (fun x5 => ?_)
    refine T_iadd (pc := 79) dX12_first_79 ?_
    refine T_imul (pc := 80) dX12_first_80 ?_
    refine T_iload (pc := 81) 5 dX12_first_81 rfl ?_
    refine T_iadd (pc := 83) dX12_first_83 ?_
    refine T_iconst (pc := 84) (v := 1) dX12_first_84 (by decide) ?_
    refine T_iadd (pc := 85) dX12_first_85 ?_
    refine T_iald (pc := 86) rfl dX12_first_86 (fun x6 => ?_)
    refine T_aload_n (pc := 87) 0 dX12_first_87 rfl rfl ?_
    refine T_iload_n (pc := 88) 2 dX12_first_88 rfl rfl ?_
    refine T_iload (pc := 89) 3 dX12_first_89 rfl ?_
    refine T_iload (pc := 91) 5 dX12_first_91 rfl ?_
    refine T_callPi (pc := 93) (rest := [.int x6]) (Rn_V (pc := 93) (as := [.int v3, .int v4, .int v7]) (rest := [.int x6]) (ctX12_gapOf σ v3 v4 v7) rfl rfl mv_X12_gapOf hw1959 rfl ⟨Nat.le_of_ble_eq_true rfl, Nat.le_of_ble_eq_true rfl⟩ (Nat.le_of_ble_eq_true rfl) dX12_first_93 rfl) rfl (fun x7 => ?_)
    refine T_iadd (pc := 96) dX12_first_96 ?_
    refine T_aload_n (pc := 97) 0 dX12_first_97 rfl rfl ?_
    refine T_getA (pc := 98) fd_10_38 hw1541 dX12_first_98 ?_
    refine T_bipush (pc := 101) (v := 9) dX12_first_101 (by decide) ?_
    refine T_iload_n (pc := 103) 2 dX12_first_103 rfl rfl ?_
    refine T_imul (pc := 104) dX12_first_104 ?_
    refine T_iload (pc := 105) 3 dX12_first_105 rfl ?_
    refine T_iadd (pc := 107) dX12_first_107 ?_
    refine T_iald (pc := 108) rfl dX12_first_108 (fun x8 => ?_)
    refine T_icmp_eq (pc := 109) 118 dX12_first_109 (by decide) (fun _ => ?_) (fun _ => ?_)
    · refine T_pick (lv' := [(0, .ref 10), (2, .int v2), (3, .int v3), (6, .int v6), (7, .int v7)]) [0, 1, 2, 4, 5] rfl ?_
      exact hk1 v7
    · refine T_iinc (pc := 112) (y := 1) (lv' := [(0, .ref 10), (2, .int v2), (3, .int v3), (4, .int v4), (6, .int v6), (7, .int (v7 + (1 : Int32)))]) 5 dX12_first_112 (by decide) rfl (Nat.le_of_ble_eq_true rfl) rfl ?_
      refine T_goto (pc := 115) 55 dX12_first_115 (by decide) ?_
      exact hkb (v7 + (1 : Int32))
set_option maxRecDepth 100000 in
set_option maxHeartbeats 4000000 in
theorem fX12_first_P55_T (v2 : Int32) (v3 : Int32) (v4 : Int32) (v6 : Int32) (σ : St) {k1 : Int32 → Option (Int32 × St)} (hk1 : ∀ (w7 : Int32), T kX12_first cSi σ 118 [(0, .ref 10), (2, .int v2), (3, .int v3), (6, .int v6), (7, .int w7)] [] (k1 w7)) (v7 : Int32) : T kX12_first cSi σ 55 [(0, .ref 10), (2, .int v2), (3, .int v3), (4, .int v4), (6, .int v6), (7, .int v7)] [] (fX12_first_P55 v2 v3 v4 v6 k1 σ v7) :=
  it_T (S := (fun _ : Int32 => σ)) (lv := fun t : Int32 => [(0, .ref 10), (2, .int v2), (3, .int v3), (4, .int v4), (6, .int v6), (7, .int t)]) (st := fun _ => []) (fun kb hkb t => fX12_first_L55_T v2 v3 v4 v6 (hk1 := hk1) (hkb := fun v7 => hkb v7) σ t) FU v7
set_option maxRecDepth 100000 in
set_option maxHeartbeats 4000000 in
theorem fX12_first_L34_T (v2 : Int32) (σ : St) {kb : Int32 → Int32 → Int32 → Int32 → Option (Int32 × St)} (hkb : ∀ (w3 : Int32) (w4 : Int32) (w5 : Int32) (w6 : Int32), T kX12_first cSi σ 34 [(0, .ref 10), (2, .int v2), (3, .int w3), (4, .int w4), (5, .int w5), (6, .int w6)] [] (kb w3 w4 w5 w6)) (v3 : Int32) (v4 : Int32) (v5 : Int32) (v6 : Int32) : T kX12_first cSi σ 34 [(0, .ref 10), (2, .int v2), (3, .int v3), (4, .int v4), (5, .int v5), (6, .int v6)] [] (fX12_first_L34 v2 kb σ v3 v4 v5 v6) := by
  unfold fX12_first_L34
  refine T_iload (pc := 34) 5 dX12_first_34 rfl ?_
  refine T_iload_n (pc := 36) 1 dX12_first_36 rfl rfl ?_
  refine T_icmp_gt (pc := 37) 155 dX12_first_37 (by decide) (fun _ => ?_) (fun _ => ?_)
  · refine T_iload (pc := 155) 4 dX12_first_155 rfl ?_
    exact T_ireturn (pc := 157) rfl dX12_first_157 rfl
  · refine T_iload_n (pc := 40) 2 dX12_first_40 rfl rfl ?_
    refine T_aload_n (pc := 41) 0 dX12_first_41 rfl rfl ?_
    refine T_getI (pc := 42) fd_10_42 hw1545 dX12_first_42 ?_
    refine T_iconst (pc := 45) (v := 1) dX12_first_45 (by decide) ?_
    refine T_isub (pc := 46) dX12_first_46 ?_
    refine T_icmp_ne (pc := 47) 52 dX12_first_47 (by decide) (fun _ => ?_) (fun _ => ?_)
    · refine T_iconst (pc := 52) (v := 0) dX12_first_52 (by decide) ?_
      refine T_istore (pc := 53) (lv' := [(0, .ref 10), (2, .int v2), (3, .int v3), (4, .int v4), (5, .int v5), (6, .int v6), (7, .int (0 : Int32))]) dX12_first_53 (Nat.le_of_ble_eq_true rfl) rfl ?_
      refine T_pick (lv' := [(0, .ref 10), (2, .int v2), (3, .int v3), (4, .int v4), (6, .int v6), (7, .int (0 : Int32))]) [0, 1, 2, 3, 5, 6] rfl ?_
      refine fX12_first_P55_T v2 v3 v4 v6 (hk1 := fun x9 => ?_) σ (0 : Int32)
      · refine T_bipush (pc := 118) (v := 16) dX12_first_118 (by decide) ?_
        refine T_iload (pc := 120) 4 dX12_first_120 rfl ?_
        refine T_imul (pc := 122) dX12_first_122 ?_
        refine T_aload_n (pc := 123) 0 dX12_first_123 rfl rfl ?_
        refine T_iload_n (pc := 124) 2 dX12_first_124 rfl rfl ?_
        refine T_iload (pc := 125) 4 dX12_first_125 rfl ?_
        refine T_callPi (pc := 127) (rest := [.int ((16 : Int32) * x9)]) (Rn_V (pc := 127) (as := [.int v3, .int x9]) (rest := [.int ((16 : Int32) * x9)]) (ctX12_saidOf σ v3 x9) rfl rfl mv_X12_saidOf hw1951 rfl ⟨Nat.le_of_ble_eq_true rfl, Nat.le_of_ble_eq_true rfl⟩ (Nat.le_of_ble_eq_true rfl) dX12_first_127 rfl) rfl (fun x10 => ?_)
        refine T_iadd (pc := 130) dX12_first_130 ?_
        refine T_letI (fun x11 => ?_)
        refine T_istore (pc := 131) (lv' := [(0, .ref 10), (2, .int v2), (3, .int v3), (5, .int x11), (6, .int v6), (7, .int x9)]) dX12_first_131 (Nat.le_of_ble_eq_true rfl) rfl ?_
        refine T_iload_n (pc := 133) 2 dX12_first_133 rfl rfl ?_
        refine T_aload_n (pc := 134) 0 dX12_first_134 rfl rfl ?_
        refine T_getA (pc := 135) fd_10_37 hw1540 dX12_first_135 ?_
        refine T_iload (pc := 138) 5 dX12_first_138 rfl ?_
        refine T_iald (pc := 140) rfl dX12_first_140 (fun x12 => ?_)
        refine T_iadd (pc := 141) dX12_first_141 ?_
        refine T_letI (fun x13 => ?_)
        refine T_istore_n (pc := 142) (lv' := [(0, .ref 10), (2, .int v2), (3, .int x13), (5, .int x11), (6, .int v6), (7, .int x9)]) dX12_first_142 rfl (Nat.le_of_ble_eq_true rfl) rfl ?_
        refine T_iload (pc := 143) 5 dX12_first_143 rfl ?_
        refine T_iconst (pc := 145) (v := 1) dX12_first_145 (by decide) ?_
        refine T_iadd (pc := 146) dX12_first_146 ?_
        refine T_letI (fun x14 => ?_)
        refine T_istore (pc := 147) (lv' := [(0, .ref 10), (2, .int v2), (3, .int x13), (4, .int x14), (5, .int x11), (6, .int v6), (7, .int x9)]) dX12_first_147 (Nat.le_of_ble_eq_true rfl) rfl ?_
        refine T_iinc (pc := 149) (y := 1) (lv' := [(0, .ref 10), (2, .int v2), (3, .int x13), (4, .int x14), (5, .int x11), (6, .int (v6 + (1 : Int32))), (7, .int x9)]) 5 dX12_first_149 (by decide) rfl (Nat.le_of_ble_eq_true rfl) rfl ?_
        refine T_goto (pc := 152) 34 dX12_first_152 (by decide) ?_
        refine T_pick (lv' := [(0, .ref 10), (2, .int v2), (3, .int x13), (4, .int x14), (5, .int x11), (6, .int (v6 + (1 : Int32)))]) [0, 1, 2, 3, 4, 5] rfl ?_
        exact hkb x13 x14 x11 (v6 + (1 : Int32))
    · refine T_iconst (pc := 50) (v := -1) dX12_first_50 (by decide) ?_
      exact T_ireturn (pc := 51) rfl dX12_first_51 rfl
set_option maxRecDepth 100000 in
set_option maxHeartbeats 4000000 in
theorem fX12_first_P34_T (v2 : Int32) (σ : St) (v3 : Int32) (v4 : Int32) (v5 : Int32) (v6 : Int32) : T kX12_first cSi σ 34 [(0, .ref 10), (2, .int v2), (3, .int v3), (4, .int v4), (5, .int v5), (6, .int v6)] [] (fX12_first_P34 v2 σ v3 v4 v5 v6) :=
  it_T (S := (fun _ : Int32 × Int32 × Int32 × Int32 => σ)) (lv := fun t : Int32 × Int32 × Int32 × Int32 => [(0, .ref 10), (2, .int v2), (3, .int t.1), (4, .int t.2.1), (5, .int t.2.2.1), (6, .int t.2.2.2)]) (st := fun _ => []) (fun kb hkb t => fX12_first_L34_T v2 (hkb := fun v3 v4 v5 v6 => hkb (v3, v4, v5, v6)) σ t.1 t.2.1 t.2.2.1 t.2.2.2) FU (v3, v4, v5, v6)
set_option maxRecDepth 100000 in
set_option maxHeartbeats 4000000 in
theorem ctX12_first (σ : St) (p0 : Int32) (p1 : Int32) : Ct yX12_first kX12_first [.ref 10, .int p0, .int p1] σ cSi (fX12_first σ p0 p1) := by
  refine Ct.of (by decide +kernel) rfl rfl (Nat.le_of_ble_eq_true rfl) ?_
  unfold fX12_first
  show T _ _ _ 0 [(0, .ref 10), (1, .int p0), (2, .int p1)] [] _
  refine T_aload_n (pc := 0) 0 dX12_first_0 rfl rfl ?_
  refine T_iconst (pc := 1) (v := 0) dX12_first_1 (by decide) ?_
  refine T_putI (pc := 2) fd_10_0 hw1503 dX12_first_2 ?_
  refine T_letS (fun s1 => ?_)
  refine T_aload_n (pc := 5) 0 dX12_first_5 rfl rfl ?_
  refine T_iload_n (pc := 6) 1 dX12_first_6 rfl rfl ?_
  refine T_callSz (pc := 7) (rest := []) (Rn_V (pc := 7) (as := [.int p0]) (rest := []) (ctX12_isSmall s1 p0) rfl rfl mv_X12_isSmall hw1939 rfl ⟨Nat.le_of_ble_eq_true rfl, Nat.le_of_ble_eq_true rfl⟩ (Nat.le_of_ble_eq_true rfl) dX12_first_7 rfl) rfl (fun r2 => ?_)
  refine T_if_eq (pc := 10) 17 dX12_first_10 (by decide) (fun _ => ?_) (fun _ => ?_)
  · refine T_iconst (pc := 17) (v := -1) dX12_first_17 (by decide) ?_
    exact T_ireturn (pc := 18) rfl dX12_first_18 rfl
  · refine T_iload_n (pc := 13) 2 dX12_first_13 rfl rfl ?_
    refine T_if_ge (pc := 14) 19 dX12_first_14 (by decide) (fun _ => ?_) (fun _ => ?_)
    · refine T_aload_n (pc := 19) 0 dX12_first_19 rfl rfl ?_
      refine T_callSv (pc := 20) (rest := []) (Rn_V (pc := 20) (as := []) (rest := []) (ctX12_layLeft r2.2) rfl rfl mv_X12_layLeft hw1947 rfl ⟨Nat.le_of_ble_eq_true rfl, Nat.le_of_ble_eq_true rfl⟩ (Nat.le_of_ble_eq_true rfl) dX12_first_20 rfl) rfl (fun s3 => ?_)
      refine T_iconst (pc := 23) (v := 0) dX12_first_23 (by decide) ?_
      refine T_istore_n (pc := 24) (lv' := [(0, .ref 10), (1, .int p0), (2, .int p1), (3, .int (0 : Int32))]) dX12_first_24 rfl (Nat.le_of_ble_eq_true rfl) rfl ?_
      refine T_iconst (pc := 25) (v := 0) dX12_first_25 (by decide) ?_
      refine T_istore (pc := 26) (lv' := [(0, .ref 10), (1, .int p0), (2, .int p1), (3, .int (0 : Int32)), (4, .int (0 : Int32))]) dX12_first_26 (Nat.le_of_ble_eq_true rfl) rfl ?_
      refine T_iconst (pc := 28) (v := -1) dX12_first_28 (by decide) ?_
      refine T_istore (pc := 29) (lv' := [(0, .ref 10), (1, .int p0), (2, .int p1), (3, .int (0 : Int32)), (4, .int (0 : Int32)), (5, .int (-1 : Int32))]) dX12_first_29 (Nat.le_of_ble_eq_true rfl) rfl ?_
      refine T_iconst (pc := 31) (v := 0) dX12_first_31 (by decide) ?_
      refine T_istore (pc := 32) (lv' := [(0, .ref 10), (1, .int p0), (2, .int p1), (3, .int (0 : Int32)), (4, .int (0 : Int32)), (5, .int (-1 : Int32)), (6, .int (0 : Int32))]) dX12_first_32 (Nat.le_of_ble_eq_true rfl) rfl ?_
      refine T_pick (lv' := [(0, .ref 10), (2, .int p1), (3, .int (0 : Int32)), (4, .int (0 : Int32)), (5, .int (-1 : Int32)), (6, .int (0 : Int32))]) [0, 2, 3, 4, 5, 6] rfl ?_
      exact fX12_first_P34_T p1 s3 (0 : Int32) (0 : Int32) (-1 : Int32) (0 : Int32)
    · refine T_iconst (pc := 17) (v := -1) dX12_first_17 (by decide) ?_
      exact T_ireturn (pc := 18) rfl dX12_first_18 rfl
