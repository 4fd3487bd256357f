/-! methods X12_act .. X12_bars: by program (wip/gen) -/
set_option maxRecDepth 100000 in
set_option maxHeartbeats 4000000 in
theorem fX12_act_L19_T (v1 : Int32) (σ : St) {k1 : Int32 → Option (Int32 × St)} {kb : Int32 → Int32 → Option (Int32 × St)} (hk1 : ∀ (w2 : Int32), T kX12_act cSi σ 54 [(0, .ref 10), (1, .int v1), (2, .int w2)] [] (k1 w2)) (hkb : ∀ (w2 : Int32) (w3 : Int32), T kX12_act cSi σ 19 [(0, .ref 10), (1, .int v1), (2, .int w2), (3, .int w3)] [] (kb w2 w3)) (v2 : Int32) (v3 : Int32) : T kX12_act cSi σ 19 [(0, .ref 10), (1, .int v1), (2, .int v2), (3, .int v3)] [] (fX12_act_L19 v1 k1 kb σ v2 v3) := by
  unfold fX12_act_L19
  refine T_iload_n (pc := 19) 3 dX12_act_19 rfl rfl ?_
  refine T_aload_n (pc := 20) 0 dX12_act_20 rfl rfl ?_
  refine T_getI (pc := 21) fd_10_48 hw1551 dX12_act_21 ?_
  refine T_icmp_ge (pc := 24) 54 dX12_act_24 (by decide) (fun _ => ?_) (fun _ => ?_)
  · refine T_pick (lv' := [(0, .ref 10), (1, .int v1), (2, .int v2)]) [0, 1, 2] rfl ?_
    exact hk1 v2
  · refine T_iload_n (pc := 27) 2 dX12_act_27 rfl rfl ?_
    refine T_aload_n (pc := 28) 0 dX12_act_28 rfl rfl ?_
    refine T_getA (pc := 29) fd_10_44 hw1547 dX12_act_29 ?_
    refine T_iload_n (pc := 32) 3 dX12_act_32 rfl rfl ?_
    refine T_iald (pc := 33) rfl dX12_act_33 (fun x3 => ?_)
    refine T_bipush (pc := 34) (v := 16) dX12_act_34 (by decide) ?_
    refine T_idiv (pc := 36) dX12_act_36 ?_
    refine T_iload_n (pc := 37) 1 dX12_act_37 rfl rfl ?_
    refine T_icmp_ne (pc := 38) 45 dX12_act_38 (by decide) (fun _ => ?_) (fun _ => ?_)
    · refine T_iconst (pc := 45) (v := 0) dX12_act_45 (by decide) ?_
      refine T_iadd (pc := 46) dX12_act_46 ?_
      refine T_letI (fun x4 => ?_)
      refine T_istore_n (pc := 47) (lv' := [(0, .ref 10), (1, .int v1), (2, .int x4), (3, .int v3)]) dX12_act_47 rfl (Nat.le_of_ble_eq_true rfl) rfl ?_
      refine T_iinc (pc := 48) (y := 1) (lv' := [(0, .ref 10), (1, .int v1), (2, .int x4), (3, .int (v3 + (1 : Int32)))]) 3 dX12_act_48 (by decide) rfl (Nat.le_of_ble_eq_true rfl) rfl ?_
      refine T_goto (pc := 51) 19 dX12_act_51 (by decide) ?_
      exact hkb x4 (v3 + (1 : Int32))
    · refine T_iconst (pc := 41) (v := 1) dX12_act_41 (by decide) ?_
      refine T_goto (pc := 42) 46 dX12_act_42 (by decide) ?_
      refine T_iadd (pc := 46) dX12_act_46 ?_
      refine T_letI (fun x5 => ?_)
      refine T_istore_n (pc := 47) (lv' := [(0, .ref 10), (1, .int v1), (2, .int x5), (3, .int v3)]) dX12_act_47 rfl (Nat.le_of_ble_eq_true rfl) rfl ?_
      refine T_iinc (pc := 48) (y := 1) (lv' := [(0, .ref 10), (1, .int v1), (2, .int x5), (3, .int (v3 + (1 : Int32)))]) 3 dX12_act_48 (by decide) rfl (Nat.le_of_ble_eq_true rfl) rfl ?_
      refine T_goto (pc := 51) 19 dX12_act_51 (by decide) ?_
      exact hkb x5 (v3 + (1 : Int32))
set_option maxRecDepth 100000 in
set_option maxHeartbeats 4000000 in
theorem fX12_act_P19_T (v1 : Int32) (σ : St) {k1 : Int32 → Option (Int32 × St)} (hk1 : ∀ (w2 : Int32), T kX12_act cSi σ 54 [(0, .ref 10), (1, .int v1), (2, .int w2)] [] (k1 w2)) (v2 : Int32) (v3 : Int32) : T kX12_act cSi σ 19 [(0, .ref 10), (1, .int v1), (2, .int v2), (3, .int v3)] [] (fX12_act_P19 v1 k1 σ v2 v3) :=
  it_T (S := (fun _ : Int32 × Int32 => σ)) (lv := fun t : Int32 × Int32 => [(0, .ref 10), (1, .int v1), (2, .int t.1), (3, .int t.2)]) (st := fun _ => []) (fun kb hkb t => fX12_act_L19_T v1 (hk1 := hk1) (hkb := fun v2 v3 => hkb (v2, v3)) σ t.1 t.2) FU (v2, v3)
set_option maxRecDepth 100000 in
set_option maxHeartbeats 4000000 in
theorem ctX12_act (σ : St) (p0 : Int32) : Ct yX12_act kX12_act [.ref 10, .int p0] σ cSi (fX12_act σ p0) := by
  refine Ct.of (by decide +kernel) rfl rfl (Nat.le_of_ble_eq_true rfl) ?_
  unfold fX12_act
  show T _ _ _ 0 [(0, .ref 10), (1, .int p0)] [] _
  refine T_aload_n (pc := 0) 0 dX12_act_0 rfl rfl ?_
  refine T_iconst (pc := 1) (v := 0) dX12_act_1 (by decide) ?_
  refine T_putI (pc := 2) fd_10_0 hw1503 dX12_act_2 ?_
  refine T_letS (fun s1 => ?_)
  refine T_aload_n (pc := 5) 0 dX12_act_5 rfl rfl ?_
  refine T_iload_n (pc := 6) 1 dX12_act_6 rfl rfl ?_
  refine T_callPz (pc := 7) (rest := []) (Rn_V (pc := 7) (as := [.int p0]) (rest := []) (ctX12_isRoll s1 p0) rfl rfl mv_X12_isRoll hw1853 rfl ⟨Nat.le_of_ble_eq_true rfl, Nat.le_of_ble_eq_true rfl⟩ (Nat.le_of_ble_eq_true rfl) dX12_act_7 rfl) rfl (fun x2 => ?_)
  refine T_if_ne (pc := 10) 15 dX12_act_10 (by decide) (fun _ => ?_) (fun _ => ?_)
  · refine T_iconst (pc := 15) (v := 0) dX12_act_15 (by decide) ?_
    refine T_istore_n (pc := 16) (lv' := [(0, .ref 10), (1, .int p0), (2, .int (0 : Int32))]) dX12_act_16 rfl (Nat.le_of_ble_eq_true rfl) rfl ?_
    refine T_iconst (pc := 17) (v := 0) dX12_act_17 (by decide) ?_
    refine T_istore_n (pc := 18) (lv' := [(0, .ref 10), (1, .int p0), (2, .int (0 : Int32)), (3, .int (0 : Int32))]) dX12_act_18 rfl (Nat.le_of_ble_eq_true rfl) rfl ?_
    refine fX12_act_P19_T p0 (hk1 := fun x6 => ?_) s1 (0 : Int32) (0 : Int32)
    · refine T_iload_n (pc := 54) 2 dX12_act_54 rfl rfl ?_
      refine T_aload_n (pc := 55) 0 dX12_act_55 rfl rfl ?_
      refine T_getA (pc := 56) fd_10_21 hw1524 dX12_act_56 ?_
      refine T_iload_n (pc := 59) 1 dX12_act_59 rfl rfl ?_
      refine T_iald (pc := 60) rfl dX12_act_60 (fun x7 => ?_)
      refine T_icmp_ne (pc := 61) 66 dX12_act_61 (by decide) (fun _ => ?_) (fun _ => ?_)
      · refine T_aload_n (pc := 66) 0 dX12_act_66 rfl rfl ?_
        refine T_getA (pc := 67) fd_10_44 hw1547 dX12_act_67 ?_
        refine T_aload_n (pc := 70) 0 dX12_act_70 rfl rfl ?_
        refine T_getI (pc := 71) fd_10_48 hw1551 dX12_act_71 ?_
        refine T_bipush (pc := 74) (v := 16) dX12_act_74 (by decide) ?_
        refine T_iload_n (pc := 76) 1 dX12_act_76 rfl rfl ?_
        refine T_imul (pc := 77) dX12_act_77 ?_
        refine T_iload_n (pc := 78) 2 dX12_act_78 rfl rfl ?_
        refine T_iadd (pc := 79) dX12_act_79 ?_
        refine T_iast (pc := 80) rfl dX12_act_80 ?_
        refine T_letS (fun s8 => ?_)
        refine T_aload_n (pc := 81) 0 dX12_act_81 rfl rfl ?_
        refine T_dup_a (pc := 82) dX12_act_82 ?_
        refine T_getI (pc := 83) fd_10_48 hw1551 dX12_act_83 ?_
        refine T_iconst (pc := 86) (v := 1) dX12_act_86 (by decide) ?_
        refine T_iadd (pc := 87) dX12_act_87 ?_
        refine T_putI (pc := 88) fd_10_48 hw1551 dX12_act_88 ?_
        refine T_letS (fun s9 => ?_)
        refine T_bipush (pc := 91) (v := 16) dX12_act_91 (by decide) ?_
        refine T_iload_n (pc := 93) 1 dX12_act_93 rfl rfl ?_
        refine T_imul (pc := 94) dX12_act_94 ?_
        refine T_iload_n (pc := 95) 2 dX12_act_95 rfl rfl ?_
        refine T_iadd (pc := 96) dX12_act_96 ?_
        exact T_ireturn (pc := 97) rfl dX12_act_97 rfl
      · refine T_iconst (pc := 64) (v := -1) dX12_act_64 (by decide) ?_
        exact T_ireturn (pc := 65) rfl dX12_act_65 rfl
  · refine T_iconst (pc := 13) (v := -1) dX12_act_13 (by decide) ?_
    exact T_ireturn (pc := 14) rfl dX12_act_14 rfl
set_option maxRecDepth 100000 in
set_option maxHeartbeats 4000000 in
theorem ctX12_addOne (σ : St) (p0 : Int32) : Ct yX12_addOne kX12_addOne [.ref 10, .int p0] σ cSv (fX12_addOne σ p0) := by
  refine Ct.of (by decide +kernel) rfl rfl (Nat.le_of_ble_eq_true rfl) ?_
  unfold fX12_addOne
  show T _ _ _ 0 [(0, .ref 10), (1, .int p0)] [] _
  refine T_aload_n (pc := 0) 0 dX12_addOne_0 rfl rfl ?_
  refine T_getA (pc := 1) fd_10_31 hw1534 dX12_addOne_1 ?_
  refine T_aload_n (pc := 4) 0 dX12_addOne_4 rfl rfl ?_
  refine T_getI (pc := 5) fd_10_34 hw1537 dX12_addOne_5 ?_
  refine T_iload_n (pc := 8) 1 dX12_addOne_8 rfl rfl ?_
  refine T_iast (pc := 9) rfl dX12_addOne_9 ?_
  refine T_letS (fun s1 => ?_)
  refine T_aload_n (pc := 10) 0 dX12_addOne_10 rfl rfl ?_
  refine T_dup_a (pc := 11) dX12_addOne_11 ?_
  refine T_getI (pc := 12) fd_10_34 hw1537 dX12_addOne_12 ?_
  refine T_iconst (pc := 15) (v := 1) dX12_addOne_15 (by decide) ?_
  refine T_iadd (pc := 16) dX12_addOne_16 ?_
  refine T_putI (pc := 17) fd_10_34 hw1537 dX12_addOne_17 ?_
  refine T_letS (fun s2 => ?_)
  exact T_return (pc := 20) rfl dX12_addOne_20 rfl
set_option maxRecDepth 100000 in
set_option maxHeartbeats 4000000 in
theorem ctX12_addOther (σ : St) (p0 : Int32) : Ct yX12_addOther kX12_addOther [.ref 10, .int p0] σ cSv (fX12_addOther σ p0) := by
  refine Ct.of (by decide +kernel) rfl rfl (Nat.le_of_ble_eq_true rfl) ?_
  unfold fX12_addOther
  show T _ _ _ 0 [(0, .ref 10), (1, .int p0)] [] _
  refine T_aload_n (pc := 0) 0 dX12_addOther_0 rfl rfl ?_
  refine T_getA (pc := 1) fd_10_32 hw1535 dX12_addOther_1 ?_
  refine T_aload_n (pc := 4) 0 dX12_addOther_4 rfl rfl ?_
  refine T_getI (pc := 5) fd_10_35 hw1538 dX12_addOther_5 ?_
  refine T_iload_n (pc := 8) 1 dX12_addOther_8 rfl rfl ?_
  refine T_iast (pc := 9) rfl dX12_addOther_9 ?_
  refine T_letS (fun s1 => ?_)
  refine T_aload_n (pc := 10) 0 dX12_addOther_10 rfl rfl ?_
  refine T_dup_a (pc := 11) dX12_addOther_11 ?_
  refine T_getI (pc := 12) fd_10_35 hw1538 dX12_addOther_12 ?_
  refine T_iconst (pc := 15) (v := 1) dX12_addOther_15 (by decide) ?_
  refine T_iadd (pc := 16) dX12_addOther_16 ?_
  refine T_putI (pc := 17) fd_10_35 hw1538 dX12_addOther_17 ?_
  refine T_letS (fun s2 => ?_)
  exact T_return (pc := 20) rfl dX12_addOther_20 rfl
set_option maxRecDepth 100000 in
set_option maxHeartbeats 4000000 in
theorem ctX12_areRolls (σ : St) (p0 : Int32) : Ct yX12_areRolls kX12_areRolls [.ref 10, .int p0] σ (cPz σ) (fX12_areRolls σ p0) := by
  refine Ct.of (by decide +kernel) rfl rfl (Nat.le_of_ble_eq_true rfl) ?_
  unfold fX12_areRolls
  show T _ _ _ 0 [(0, .ref 10), (1, .int p0)] [] _
  refine T_iload_n (pc := 0) 1 dX12_areRolls_0 rfl rfl ?_
  refine T_if_le (pc := 1) 18 dX12_areRolls_1 (by decide) (fun _ => ?_) (fun _ => ?_)
  · refine T_iconst (pc := 18) (v := 0) dX12_areRolls_18 (by decide) ?_
    exact T_zreturn (pc := 19) false rfl dX12_areRolls_19 rfl rfl
  · refine T_iload_n (pc := 4) 1 dX12_areRolls_4 rfl rfl ?_
    refine T_iconst (pc := 5) (v := 1) dX12_areRolls_5 (by decide) ?_
    refine T_aload_n (pc := 6) 0 dX12_areRolls_6 rfl rfl ?_
    refine T_getI (pc := 7) fd_10_8 hw1511 dX12_areRolls_7 ?_
    refine T_ishl (pc := 10) dX12_areRolls_10 ?_
    refine T_icmp_ge (pc := 11) 18 dX12_areRolls_11 (by decide) (fun _ => ?_) (fun _ => ?_)
    · refine T_iconst (pc := 18) (v := 0) dX12_areRolls_18 (by decide) ?_
      exact T_zreturn (pc := 19) false rfl dX12_areRolls_19 rfl rfl
    · refine T_iconst (pc := 14) (v := 1) dX12_areRolls_14 (by decide) ?_
      refine T_goto (pc := 15) 19 dX12_areRolls_15 (by decide) ?_
      exact T_zreturn (pc := 19) true rfl dX12_areRolls_19 rfl rfl
set_option maxRecDepth 100000 in
set_option maxHeartbeats 4000000 in
theorem fX12_look_L0_T (σ : St) {k1 : St → Option (Int32 × St)} {kb : St → Option (Int32 × St)} (hk1 : ∀ (σ' : St), T kX12_look cSi σ' 43 [(0, .ref 10)] [] (k1 σ')) (hkb : ∀ (σ' : St), T kX12_look cSi σ' 0 [(0, .ref 10)] [] (kb σ')) : T kX12_look cSi σ 0 [(0, .ref 10)] [] (fX12_look_L0 k1 kb σ) := by
  unfold fX12_look_L0
  refine T_aload_n (pc := 0) 0 dX12_look_0 rfl rfl ?_
  refine T_getI (pc := 1) fd_10_13 hw1516 dX12_look_1 ?_
  refine T_aload_n (pc := 4) 0 dX12_look_4 rfl rfl ?_
  refine T_getI (pc := 5) fd_10_12 hw1515 dX12_look_5 ?_
  refine T_icmp_ge (pc := 8) 43 dX12_look_8 (by decide) (fun _ => ?_) (fun _ => ?_)
  · exact hk1 σ
  · refine T_aload_n (pc := 11) 0 dX12_look_11 rfl rfl ?_
    refine T_getR (pc := 12) fd_10_6 hw1509 dX12_look_12 ?_
    refine T_aload_n (pc := 15) 0 dX12_look_15 rfl rfl ?_
    refine T_getI (pc := 16) fd_10_11 hw1514 dX12_look_16 ?_
    refine T_aload_n (pc := 19) 0 dX12_look_19 rfl rfl ?_
    refine T_getI (pc := 20) fd_10_13 hw1516 dX12_look_20 ?_
    refine T_iadd (pc := 23) dX12_look_23 ?_
    refine T_baldX (pc := 24) dX12_look_24 (fun x1 => ?_)
    refine T_bipush (pc := 25) (v := 32) dX12_look_25 (by decide) ?_
    refine T_icmp_ne (pc := 27) 43 dX12_look_27 (by decide) (fun _ => ?_) (fun _ => ?_)
    · exact hk1 σ
    · refine T_aload_n (pc := 30) 0 dX12_look_30 rfl rfl ?_
      refine T_dup_a (pc := 31) dX12_look_31 ?_
      refine T_getI (pc := 32) fd_10_13 hw1516 dX12_look_32 ?_
      refine T_iconst (pc := 35) (v := 1) dX12_look_35 (by decide) ?_
      refine T_iadd (pc := 36) dX12_look_36 ?_
      refine T_putI (pc := 37) fd_10_13 hw1516 dX12_look_37 ?_
      refine T_letS (fun s2 => ?_)
      refine T_goto (pc := 40) 0 dX12_look_40 (by decide) ?_
      exact hkb s2
set_option maxRecDepth 100000 in
set_option maxHeartbeats 4000000 in
theorem fX12_look_P0_T (σ : St) {k1 : St → Option (Int32 × St)} (hk1 : ∀ (σ' : St), T kX12_look cSi σ' 43 [(0, .ref 10)] [] (k1 σ')) : T kX12_look cSi σ 0 [(0, .ref 10)] [] (fX12_look_P0 k1 σ) :=
  it_T (S := (fun t : St => t)) (lv := fun t : St => [(0, .ref 10)]) (st := fun _ => []) (fun kb hkb t => fX12_look_L0_T (hk1 := hk1) (hkb := fun σ => hkb σ) t) FU σ
set_option maxRecDepth 100000 in
set_option maxHeartbeats 4000000 in
theorem ctX12_look (σ : St) : Ct yX12_look kX12_look [.ref 10] σ cSi (fX12_look σ) := by
  refine Ct.of (by decide +kernel) rfl rfl (Nat.le_of_ble_eq_true rfl) ?_
  unfold fX12_look
  show T _ _ _ 0 [(0, .ref 10)] [] _
  refine fX12_look_P0_T (hk1 := fun s3 => ?_) σ
  · refine T_aload_n (pc := 43) 0 dX12_look_43 rfl rfl ?_
    refine T_getI (pc := 44) fd_10_13 hw1516 dX12_look_44 ?_
    refine T_aload_n (pc := 47) 0 dX12_look_47 rfl rfl ?_
    refine T_getI (pc := 48) fd_10_12 hw1515 dX12_look_48 ?_
    refine T_icmp_ge (pc := 51) 75 dX12_look_51 (by decide) (fun _ => ?_) (fun _ => ?_)
    · refine T_iconst (pc := 75) (v := -1) dX12_look_75 (by decide) ?_
      exact T_ireturn (pc := 76) rfl dX12_look_76 rfl
    · refine T_aload_n (pc := 54) 0 dX12_look_54 rfl rfl ?_
      refine T_getR (pc := 55) fd_10_6 hw1509 dX12_look_55 ?_
      refine T_aload_n (pc := 58) 0 dX12_look_58 rfl rfl ?_
      refine T_getI (pc := 59) fd_10_11 hw1514 dX12_look_59 ?_
      refine T_aload_n (pc := 62) 0 dX12_look_62 rfl rfl ?_
      refine T_getI (pc := 63) fd_10_13 hw1516 dX12_look_63 ?_
      refine T_iadd (pc := 66) dX12_look_66 ?_
      refine T_baldX (pc := 67) dX12_look_67 (fun x4 => ?_)
      refine T_sipush (pc := 68) (v := 255) dX12_look_68 (by decide) ?_
      refine T_iand (pc := 71) dX12_look_71 ?_
      refine T_goto (pc := 72) 76 dX12_look_72 (by decide) ?_
      exact T_ireturn (pc := 76) rfl dX12_look_76 rfl
set_option maxRecDepth 100000 in
set_option maxHeartbeats 4000000 in
theorem ctJ0_coder_7d493_201 (σ : St) : Ct yJ0_coder_7d493 kJ0_coder_7d493_201 [.ref 201] σ (cPi σ) (fJ0_coder_7d493_201) := by
  refine Ct.ofJ (by decide +kernel) rfl rfl (Nat.le_of_ble_eq_true rfl) ?_
  unfold fJ0_coder_7d493_201
  show T _ _ _ 0 [(0, .ref 201)] [] _
  refine T_getsCS (pc := 0) hw1754 dJ0_coder_7d493_0 ?_
  refine T_if_eq (pc := 3) 13 dJ0_coder_7d493_3 (by decide) (fun _ => ?_) (fun _ => ?_)
  · refine T_iconst (pc := 13) (v := 1) dJ0_coder_7d493_13 (by decide) ?_
    exact T_nret (pc := 14) .byte rfl dJ0_coder_7d493_14 rfl rfl
  · refine T_aload_n (pc := 6) 0 dJ0_coder_7d493_6 rfl rfl ?_
    refine T_getSc (pc := 7) 1 (by decide) hw2151 dJ0_coder_7d493_7 ?_
    refine T_goto (pc := 10) 14 dJ0_coder_7d493_10 (by decide) ?_
    exact T_nret (pc := 14) .byte rfl dJ0_coder_7d493_14 rfl rfl
set_option maxRecDepth 100000 in
set_option maxHeartbeats 4000000 in
theorem ctJ0_length_8abf5_201 (σ : St) : Ct yJ0_length_8abf5 kJ0_length_8abf5_201 [.ref 201] σ (cPi σ) (fJ0_length_8abf5_201) := by
  refine Ct.ofJ (by decide +kernel) rfl rfl (Nat.le_of_ble_eq_true rfl) ?_
  unfold fJ0_length_8abf5_201
  show T _ _ _ 0 [(0, .ref 201)] [] _
  refine T_aload_n (pc := 0) 0 dJ0_length_8abf5_0 rfl rfl ?_
  refine T_getSv (pc := 1) 1 (by decide) hw2150 dJ0_length_8abf5_1 ?_
  refine T_slenS (pc := 4) (v := 5) 1 (by decide) (by decide) dJ0_length_8abf5_4 ?_
  refine T_aload_n (pc := 5) 0 dJ0_length_8abf5_5 rfl rfl ?_
  refine T_callPi (pc := 6) (rest := [.int (5 : Int32)]) (Rn_VS (pc := 6) (as := []) (rest := [.int (5 : Int32)]) 1 (by decide) (ctJ0_coder_7d493_201 σ) rfl mv_J0_coder_7d493 hw1750 rfl ⟨Nat.le_of_ble_eq_true rfl, Nat.le_of_ble_eq_true rfl⟩ (Nat.le_of_ble_eq_true rfl) dJ0_length_8abf5_6 rfl) rfl (fun x1 => ?_)
  refine T_ishr (pc := 9) dJ0_length_8abf5_9 ?_
  exact T_ireturn (pc := 10) rfl dJ0_length_8abf5_10 rfl
set_option maxRecDepth 100000 in
set_option maxHeartbeats 4000000 in
theorem ctJ0_isLatin1_aae02_201 (σ : St) : Ct yJ0_isLatin1_aae02 kJ0_isLatin1_aae02_201 [.ref 201] σ (cPz σ) (fJ0_isLatin1_aae02_201) := by
  refine Ct.ofJ (by decide +kernel) rfl rfl (Nat.le_of_ble_eq_true rfl) ?_
  unfold fJ0_isLatin1_aae02_201
  show T _ _ _ 0 [(0, .ref 201)] [] _
  refine T_getsCS (pc := 0) hw1754 dJ0_isLatin1_aae02_0 ?_
  refine T_if_eq (pc := 3) 17 dJ0_isLatin1_aae02_3 (by decide) (fun _ => ?_) (fun _ => ?_)
  · refine T_iconst (pc := 17) (v := 0) dJ0_isLatin1_aae02_17 (by decide) ?_
    exact T_zreturn (pc := 18) false rfl dJ0_isLatin1_aae02_18 rfl rfl
  · refine T_aload_n (pc := 6) 0 dJ0_isLatin1_aae02_6 rfl rfl ?_
    refine T_getSc (pc := 7) 1 (by decide) hw2151 dJ0_isLatin1_aae02_7 ?_
    refine T_if_ne (pc := 10) 17 dJ0_isLatin1_aae02_10 (by decide) (fun _ => ?_) (fun _ => ?_)
    · refine T_iconst (pc := 17) (v := 0) dJ0_isLatin1_aae02_17 (by decide) ?_
      exact T_zreturn (pc := 18) false rfl dJ0_isLatin1_aae02_18 rfl rfl
    · refine T_iconst (pc := 13) (v := 1) dJ0_isLatin1_aae02_13 (by decide) ?_
      refine T_goto (pc := 14) 18 dJ0_isLatin1_aae02_14 (by decide) ?_
      exact T_zreturn (pc := 18) true rfl dJ0_isLatin1_aae02_18 rfl rfl
set_option maxRecDepth 100000 in
set_option maxHeartbeats 4000000 in
theorem ctJ3_checkIndex_8e157_n (σ : St) (p0 : Int32) (p1 : Int32) : Ct yJ3_checkIndex_8e157 kJ3_checkIndex_8e157_n [.int p0, .int p1, .null] σ (cPi σ) (fJ3_checkIndex_8e157_n p0 p1) := by
  refine Ct.ofJ (by decide +kernel) rfl rfl (Nat.le_of_ble_eq_true rfl) ?_
  unfold fJ3_checkIndex_8e157_n
  show T _ _ _ 0 [(0, .int p0), (1, .int p1), (2, .null)] [] _
  refine T_iload_n (pc := 0) 0 dJ3_checkIndex_8e157_0 rfl rfl ?_
  refine T_if_lt (pc := 1) 9 dJ3_checkIndex_8e157_1 (by decide) (fun _ => ?_) (fun _ => ?_)
  · refine T_aload_nN (pc := 9) 2 dJ3_checkIndex_8e157_9 rfl rfl ?_
    refine T_iload_n (pc := 10) 0 dJ3_checkIndex_8e157_10 rfl rfl ?_
    refine T_iload_n (pc := 11) 1 dJ3_checkIndex_8e157_11 rfl rfl ?_
    exact T_none
  · refine T_iload_n (pc := 4) 0 dJ3_checkIndex_8e157_4 rfl rfl ?_
    refine T_iload_n (pc := 5) 1 dJ3_checkIndex_8e157_5 rfl rfl ?_
    refine T_icmp_lt (pc := 6) 16 dJ3_checkIndex_8e157_6 (by decide) (fun _ => ?_) (fun _ => ?_)
    · refine T_iload_n (pc := 16) 0 dJ3_checkIndex_8e157_16 rfl rfl ?_
      exact T_ireturn (pc := 17) rfl dJ3_checkIndex_8e157_17 rfl
    · refine T_aload_nN (pc := 9) 2 dJ3_checkIndex_8e157_9 rfl rfl ?_
      refine T_iload_n (pc := 10) 0 dJ3_checkIndex_8e157_10 rfl rfl ?_
      refine T_iload_n (pc := 11) 1 dJ3_checkIndex_8e157_11 rfl rfl ?_
      exact T_none
set_option maxRecDepth 100000 in
set_option maxHeartbeats 4000000 in
theorem ctJ3_checkIndex_8e157_220 (σ : St) (p0 : Int32) (p1 : Int32) : Ct yJ3_checkIndex_8e157 kJ3_checkIndex_8e157_220 [.int p0, .int p1, .ref 220] σ (cPi σ) (fJ3_checkIndex_8e157_220 p0 p1) := by
  refine Ct.ofJ (by decide +kernel) rfl rfl (Nat.le_of_ble_eq_true rfl) ?_
  unfold fJ3_checkIndex_8e157_220
  show T _ _ _ 0 [(0, .int p0), (1, .int p1), (2, .ref 220)] [] _
  refine T_iload_n (pc := 0) 0 dJ3_checkIndex_8e157_0 rfl rfl ?_
  refine T_if_lt (pc := 1) 9 dJ3_checkIndex_8e157_1 (by decide) (fun _ => ?_) (fun _ => ?_)
  · refine T_aload_n (pc := 9) 2 dJ3_checkIndex_8e157_9 rfl rfl ?_
    refine T_iload_n (pc := 10) 0 dJ3_checkIndex_8e157_10 rfl rfl ?_
    refine T_iload_n (pc := 11) 1 dJ3_checkIndex_8e157_11 rfl rfl ?_
    exact T_none
  · refine T_iload_n (pc := 4) 0 dJ3_checkIndex_8e157_4 rfl rfl ?_
    refine T_iload_n (pc := 5) 1 dJ3_checkIndex_8e157_5 rfl rfl ?_
    refine T_icmp_lt (pc := 6) 16 dJ3_checkIndex_8e157_6 (by decide) (fun _ => ?_) (fun _ => ?_)
    · refine T_iload_n (pc := 16) 0 dJ3_checkIndex_8e157_16 rfl rfl ?_
      exact T_ireturn (pc := 17) rfl dJ3_checkIndex_8e157_17 rfl
    · refine T_aload_n (pc := 9) 2 dJ3_checkIndex_8e157_9 rfl rfl ?_
      refine T_iload_n (pc := 10) 0 dJ3_checkIndex_8e157_10 rfl rfl ?_
      refine T_iload_n (pc := 11) 1 dJ3_checkIndex_8e157_11 rfl rfl ?_
      exact T_none
set_option maxRecDepth 100000 in
set_option maxHeartbeats 4000000 in
theorem ctJ0_checkIndex_df160 (σ : St) (p0 : Int32) (p1 : Int32) : Ct yJ0_checkIndex_df160 kJ0_checkIndex_df160 [.int p0, .int p1] σ (cPv σ) (fJ0_checkIndex_df160 p0 p1) := by
  refine Ct.ofJ (by decide +kernel) rfl rfl (Nat.le_of_ble_eq_true rfl) ?_
  unfold fJ0_checkIndex_df160
  show T _ _ _ 0 [(0, .int p0), (1, .int p1)] [] _
  refine T_iload_n (pc := 0) 0 dJ0_checkIndex_df160_0 rfl rfl ?_
  refine T_iload_n (pc := 1) 1 dJ0_checkIndex_df160_1 rfl rfl ?_
  refine T_getsF (pc := 2) hw1770 dJ0_checkIndex_df160_2 ?_ ?_
  · refine T_callPi (pc := 5) (rest := []) (Rn_S (pc := 5) (as := [.int p0, .int p1, .null]) (rest := []) (ctJ3_checkIndex_8e157_n σ p0 p1) ms_J3_checkIndex_8e157 hw1772 rfl ⟨Nat.le_of_ble_eq_true rfl, Nat.le_of_ble_eq_true rfl⟩ (Nat.le_of_ble_eq_true rfl) dJ0_checkIndex_df160_5 rfl) rfl (fun x1 => ?_)
    refine T_pop_i (pc := 8) dJ0_checkIndex_df160_8 ?_
    exact T_return (pc := 9) rfl dJ0_checkIndex_df160_9 rfl
  · refine T_callPi (pc := 5) (rest := []) (Rn_S (pc := 5) (as := [.int p0, .int p1, .ref 220]) (rest := []) (ctJ3_checkIndex_8e157_220 σ p0 p1) ms_J3_checkIndex_8e157 hw1772 rfl ⟨Nat.le_of_ble_eq_true rfl, Nat.le_of_ble_eq_true rfl⟩ (Nat.le_of_ble_eq_true rfl) dJ0_checkIndex_df160_5 rfl) rfl (fun x2 => ?_)
    refine T_pop_i (pc := 8) dJ0_checkIndex_df160_8 ?_
    exact T_return (pc := 9) rfl dJ0_checkIndex_df160_9 rfl
set_option maxRecDepth 100000 in
set_option maxHeartbeats 4000000 in
theorem ctJ1_charAt_3b067_211 (σ : St) (p1 : Int32) : Ct yJ1_charAt_3b067 kJ1_charAt_3b067_211 [.ref 211, .int p1] σ (cPi σ) (fJ1_charAt_3b067_211 p1) := by
  refine Ct.ofJ (by decide +kernel) rfl rfl (Nat.le_of_ble_eq_true rfl) ?_
  unfold fJ1_charAt_3b067_211
  show T _ _ _ 0 [(0, .ref 211), (1, .int p1)] [] _
  refine T_iload_n (pc := 0) 1 dJ1_charAt_3b067_0 rfl rfl ?_
  refine T_aload_n (pc := 1) 0 dJ1_charAt_3b067_1 rfl rfl ?_
  refine T_slenS (pc := 2) (v := 5) 1 (by decide) (by decide) dJ1_charAt_3b067_2 ?_
  refine T_callPv (pc := 3) (rest := []) (Rn_S (pc := 3) (as := [.int p1, .int (5 : Int32)]) (rest := []) (ctJ0_checkIndex_df160 σ p1 (5 : Int32)) ms_J0_checkIndex_df160 hw1767 rfl ⟨Nat.le_of_ble_eq_true rfl, Nat.le_of_ble_eq_true rfl⟩ (Nat.le_of_ble_eq_true rfl) dJ1_charAt_3b067_3 rfl) rfl (fun u1 => ?_)
  refine T_aload_n (pc := 6) 0 dJ1_charAt_3b067_6 rfl rfl ?_
  refine T_iload_n (pc := 7) 1 dJ1_charAt_3b067_7 rfl rfl ?_
  refine T_baldS (pc := 8) 1 (by decide) dJ1_charAt_3b067_8 (fun x2 => ?_)
  refine T_sipush (pc := 9) (v := 255) dJ1_charAt_3b067_9 (by decide) ?_
  refine T_iand (pc := 12) dJ1_charAt_3b067_12 ?_
  refine T_i2c (pc := 13) dJ1_charAt_3b067_13 ?_
  exact T_nret (pc := 14) .char rfl dJ1_charAt_3b067_14 (pk_nc _) rfl
set_option maxRecDepth 100000 in
set_option maxHeartbeats 4000000 in
theorem ctJ0_charAt_5068e_201 (σ : St) (p0 : Int32) : Ct yJ0_charAt_5068e kJ0_charAt_5068e_201 [.ref 201, .int p0] σ (cPi σ) (fJ0_charAt_5068e_201 p0) := by
  refine Ct.ofJ (by decide +kernel) rfl rfl (Nat.le_of_ble_eq_true rfl) ?_
  unfold fJ0_charAt_5068e_201
  show T _ _ _ 0 [(0, .ref 201), (1, .int p0)] [] _
  refine T_aload_n (pc := 0) 0 dJ0_charAt_5068e_0 rfl rfl ?_
  refine T_callPz (pc := 1) (rest := []) (Rn_VS (pc := 1) (as := []) (rest := []) 1 (by decide) (ctJ0_isLatin1_aae02_201 σ) rfl mv_J0_isLatin1_aae02 hw1760 rfl ⟨Nat.le_of_ble_eq_true rfl, Nat.le_of_ble_eq_true rfl⟩ (Nat.le_of_ble_eq_true rfl) dJ0_charAt_5068e_1 rfl) rfl (fun x1 => ?_)
  refine T_if_eq (pc := 4) 16 dJ0_charAt_5068e_4 (by decide) (fun _ => ?_) (fun _ => ?_)
  · refine T_aload_n (pc := 16) 0 dJ0_charAt_5068e_16 rfl rfl ?_
    refine T_getSv (pc := 17) 1 (by decide) hw2150 dJ0_charAt_5068e_17 ?_
    refine T_iload_n (pc := 20) 1 dJ0_charAt_5068e_20 rfl rfl ?_
    exact T_none
  · refine T_aload_n (pc := 7) 0 dJ0_charAt_5068e_7 rfl rfl ?_
    refine T_getSv (pc := 8) 1 (by decide) hw2150 dJ0_charAt_5068e_8 ?_
    refine T_iload_n (pc := 11) 1 dJ0_charAt_5068e_11 rfl rfl ?_
    refine T_callPi (pc := 12) (rest := []) (Rn_S (pc := 12) (as := [.ref 211, .int p0]) (rest := []) (ctJ1_charAt_3b067_211 σ p0) ms_J1_charAt_3b067 hw1764 rfl ⟨Nat.le_of_ble_eq_true rfl, Nat.le_of_ble_eq_true rfl⟩ (Nat.le_of_ble_eq_true rfl) dJ0_charAt_5068e_12 rfl) rfl (fun x2 => ?_)
    exact T_creturn (pc := 15) rfl dJ0_charAt_5068e_15
set_option maxRecDepth 100000 in
set_option maxHeartbeats 4000000 in
theorem fX12_isAmong_201_L2_T (v1 : Int32) (σ : St) {kb : Int32 → Option Bool} (hkb : ∀ (w2 : Int32), T kX12_isAmong_201 (cPz σ) σ 2 [(0, .ref 201), (1, .int v1), (2, .int w2)] [] (kb w2)) (v2 : Int32) : T kX12_isAmong_201 (cPz σ) σ 2 [(0, .ref 201), (1, .int v1), (2, .int v2)] [] (fX12_isAmong_201_L2 v1 kb v2) := by
  unfold fX12_isAmong_201_L2
  refine T_iload_n (pc := 2) 2 dX12_isAmong_2 rfl rfl ?_
  refine T_aload_n (pc := 3) 0 dX12_isAmong_3 rfl rfl ?_
  refine T_callPi (pc := 4) (rest := [.int v2]) (Rn_VS (pc := 4) (as := []) (rest := [.int v2]) 1 (by decide) (ctJ0_length_8abf5_201 σ) rfl mv_J0_length_8abf5 hw1746 rfl ⟨Nat.le_of_ble_eq_true rfl, Nat.le_of_ble_eq_true rfl⟩ (Nat.le_of_ble_eq_true rfl) dX12_isAmong_4 rfl) rfl (fun x1 => ?_)
  refine T_icmp_ge (pc := 7) 27 dX12_isAmong_7 (by decide) (fun _ => ?_) (fun _ => ?_)
  · refine T_iconst (pc := 27) (v := 0) dX12_isAmong_27 (by decide) ?_
    exact T_zreturn (pc := 28) false rfl dX12_isAmong_28 rfl rfl
  · refine T_aload_n (pc := 10) 0 dX12_isAmong_10 rfl rfl ?_
    refine T_iload_n (pc := 11) 2 dX12_isAmong_11 rfl rfl ?_
    refine T_callPi (pc := 12) (rest := []) (Rn_VS (pc := 12) (as := [.int v2]) (rest := []) 1 (by decide) (ctJ0_charAt_5068e_201 σ v2) rfl mv_J0_charAt_5068e hw1756 rfl ⟨Nat.le_of_ble_eq_true rfl, Nat.le_of_ble_eq_true rfl⟩ (Nat.le_of_ble_eq_true rfl) dX12_isAmong_12 rfl) rfl (fun x2 => ?_)
    refine T_iload_n (pc := 15) 1 dX12_isAmong_15 rfl rfl ?_
    refine T_icmp_ne (pc := 16) 21 dX12_isAmong_16 (by decide) (fun _ => ?_) (fun _ => ?_)
    · refine T_iinc (pc := 21) (y := 1) (lv' := [(0, .ref 201), (1, .int v1), (2, .int (v2 + (1 : Int32)))]) 2 dX12_isAmong_21 (by decide) rfl (Nat.le_of_ble_eq_true rfl) rfl ?_
      refine T_goto (pc := 24) 2 dX12_isAmong_24 (by decide) ?_
      exact hkb (v2 + (1 : Int32))
    · refine T_iconst (pc := 19) (v := 1) dX12_isAmong_19 (by decide) ?_
      exact T_zreturn (pc := 20) true rfl dX12_isAmong_20 rfl rfl
set_option maxRecDepth 100000 in
set_option maxHeartbeats 4000000 in
theorem fX12_isAmong_201_P2_T (v1 : Int32) (σ : St) (v2 : Int32) : T kX12_isAmong_201 (cPz σ) σ 2 [(0, .ref 201), (1, .int v1), (2, .int v2)] [] (fX12_isAmong_201_P2 v1 v2) :=
  it_T (S := (fun _ : Int32 => σ)) (lv := fun t : Int32 => [(0, .ref 201), (1, .int v1), (2, .int t)]) (st := fun _ => []) (fun kb hkb t => fX12_isAmong_201_L2_T v1 (hkb := fun v2 => hkb v2) σ t) FU v2
set_option maxRecDepth 100000 in
set_option maxHeartbeats 4000000 in
theorem ctX12_isAmong_201 (σ : St) (p1 : Int32) : Ct yX12_isAmong kX12_isAmong_201 [.ref 201, .int p1] σ (cPz σ) (fX12_isAmong_201 p1) := by
  refine Ct.of (by decide +kernel) rfl rfl (Nat.le_of_ble_eq_true rfl) ?_
  unfold fX12_isAmong_201
  show T _ _ _ 0 [(0, .ref 201), (1, .int p1)] [] _
  refine T_iconst (pc := 0) (v := 0) dX12_isAmong_0 (by decide) ?_
  refine T_istore_n (pc := 1) (lv' := [(0, .ref 201), (1, .int p1), (2, .int (0 : Int32))]) dX12_isAmong_1 rfl (Nat.le_of_ble_eq_true rfl) rfl ?_
  exact fX12_isAmong_201_P2_T p1 σ (0 : Int32)
set_option maxRecDepth 100000 in
set_option maxHeartbeats 4000000 in
theorem ctX12_isDigit (σ : St) : Ct yX12_isDigit kX12_isDigit [.ref 10] σ (cPz σ) (fX12_isDigit σ) := by
  refine Ct.of (by decide +kernel) rfl rfl (Nat.le_of_ble_eq_true rfl) ?_
  unfold fX12_isDigit
  show T _ _ _ 0 [(0, .ref 10)] [] _
  refine T_aload_n (pc := 0) 0 dX12_isDigit_0 rfl rfl ?_
  refine T_getI (pc := 1) fd_10_13 hw1516 dX12_isDigit_1 ?_
  refine T_aload_n (pc := 4) 0 dX12_isDigit_4 rfl rfl ?_
  refine T_getI (pc := 5) fd_10_12 hw1515 dX12_isDigit_5 ?_
  refine T_icmp_ge (pc := 8) 53 dX12_isDigit_8 (by decide) (fun _ => ?_) (fun _ => ?_)
  · refine T_iconst (pc := 53) (v := 0) dX12_isDigit_53 (by decide) ?_
    exact T_zreturn (pc := 54) false rfl dX12_isDigit_54 rfl rfl
  · refine T_aload_n (pc := 11) 0 dX12_isDigit_11 rfl rfl ?_
    refine T_getR (pc := 12) fd_10_6 hw1509 dX12_isDigit_12 ?_
    refine T_aload_n (pc := 15) 0 dX12_isDigit_15 rfl rfl ?_
    refine T_getI (pc := 16) fd_10_11 hw1514 dX12_isDigit_16 ?_
    refine T_aload_n (pc := 19) 0 dX12_isDigit_19 rfl rfl ?_
    refine T_getI (pc := 20) fd_10_13 hw1516 dX12_isDigit_20 ?_
    refine T_iadd (pc := 23) dX12_isDigit_23 ?_
    refine T_baldX (pc := 24) dX12_isDigit_24 (fun x1 => ?_)
    refine T_bipush (pc := 25) (v := 48) dX12_isDigit_25 (by decide) ?_
    refine T_icmp_lt (pc := 27) 53 dX12_isDigit_27 (by decide) (fun _ => ?_) (fun _ => ?_)
    · refine T_iconst (pc := 53) (v := 0) dX12_isDigit_53 (by decide) ?_
      exact T_zreturn (pc := 54) false rfl dX12_isDigit_54 rfl rfl
    · refine T_aload_n (pc := 30) 0 dX12_isDigit_30 rfl rfl ?_
      refine T_getR (pc := 31) fd_10_6 hw1509 dX12_isDigit_31 ?_
      refine T_aload_n (pc := 34) 0 dX12_isDigit_34 rfl rfl ?_
      refine T_getI (pc := 35) fd_10_11 hw1514 dX12_isDigit_35 ?_
      refine T_aload_n (pc := 38) 0 dX12_isDigit_38 rfl rfl ?_
      refine T_getI (pc := 39) fd_10_13 hw1516 dX12_isDigit_39 ?_
      refine T_iadd (pc := 42) dX12_isDigit_42 ?_
      refine T_baldX (pc := 43) dX12_isDigit_43 (fun x2 => ?_)
      refine T_bipush (pc := 44) (v := 57) dX12_isDigit_44 (by decide) ?_
      refine T_icmp_gt (pc := 46) 53 dX12_isDigit_46 (by decide) (fun _ => ?_) (fun _ => ?_)
      · refine T_iconst (pc := 53) (v := 0) dX12_isDigit_53 (by decide) ?_
        exact T_zreturn (pc := 54) false rfl dX12_isDigit_54 rfl rfl
      · refine T_iconst (pc := 49) (v := 1) dX12_isDigit_49 (by decide) ?_
        refine T_goto (pc := 50) 54 dX12_isDigit_50 (by decide) ?_
        exact T_zreturn (pc := 54) true rfl dX12_isDigit_54 rfl rfl
set_option maxRecDepth 100000 in
set_option maxHeartbeats 4000000 in
theorem ctX12_fails (σ : St) : Ct yX12_fails kX12_fails [.ref 10] σ cSz (fX12_fails σ) := by
  refine Ct.of (by decide +kernel) rfl rfl (Nat.le_of_ble_eq_true rfl) ?_
  unfold fX12_fails
  show T _ _ _ 0 [(0, .ref 10)] [] _
  refine T_aload_n (pc := 0) 0 dX12_fails_0 rfl rfl ?_
  refine T_getI (pc := 1) fd_10_14 hw1517 dX12_fails_1 ?_
  refine T_iconst (pc := 4) (v := -1) dX12_fails_4 (by decide) ?_
  refine T_icmp_ne (pc := 5) 16 dX12_fails_5 (by decide) (fun _ => ?_) (fun _ => ?_)
  · refine T_iconst (pc := 16) (v := 0) dX12_fails_16 (by decide) ?_
    exact T_zreturn (pc := 17) false rfl dX12_fails_17 rfl rfl
  · refine T_aload_n (pc := 8) 0 dX12_fails_8 rfl rfl ?_
    refine T_aload_n (pc := 9) 0 dX12_fails_9 rfl rfl ?_
    refine T_getI (pc := 10) fd_10_13 hw1516 dX12_fails_10 ?_
    refine T_putI (pc := 13) fd_10_14 hw1517 dX12_fails_13 ?_
    refine T_letS (fun s1 => ?_)
    refine T_iconst (pc := 16) (v := 0) dX12_fails_16 (by decide) ?_
    exact T_zreturn (pc := 17) false rfl dX12_fails_17 rfl rfl
set_option maxRecDepth 100000 in
set_option maxHeartbeats 4000000 in
theorem ctX12_goesIn (σ : St) : Ct yX12_goesIn kX12_goesIn [.ref 10] σ cSz (fX12_goesIn σ) := by
  refine Ct.of (by decide +kernel) rfl rfl (Nat.le_of_ble_eq_true rfl) ?_
  unfold fX12_goesIn
  show T _ _ _ 0 [(0, .ref 10)] [] _
  refine T_aload_n (pc := 0) 0 dX12_goesIn_0 rfl rfl ?_
  refine T_getI (pc := 1) fd_10_15 hw1518 dX12_goesIn_1 ?_
  refine T_bipush (pc := 4) (v := 6) dX12_goesIn_4 (by decide) ?_
  refine T_icmp_ne (pc := 6) 14 dX12_goesIn_6 (by decide) (fun _ => ?_) (fun _ => ?_)
  · refine T_aload_n (pc := 14) 0 dX12_goesIn_14 rfl rfl ?_
    refine T_dup_a (pc := 15) dX12_goesIn_15 ?_
    refine T_getI (pc := 16) fd_10_15 hw1518 dX12_goesIn_16 ?_
    refine T_iconst (pc := 19) (v := 1) dX12_goesIn_19 (by decide) ?_
    refine T_iadd (pc := 20) dX12_goesIn_20 ?_
    refine T_putI (pc := 21) fd_10_15 hw1518 dX12_goesIn_21 ?_
    refine T_letS (fun s1 => ?_)
    refine T_aload_n (pc := 24) 0 dX12_goesIn_24 rfl rfl ?_
    refine T_dup_a (pc := 25) dX12_goesIn_25 ?_
    refine T_getI (pc := 26) fd_10_13 hw1516 dX12_goesIn_26 ?_
    refine T_iconst (pc := 29) (v := 1) dX12_goesIn_29 (by decide) ?_
    refine T_iadd (pc := 30) dX12_goesIn_30 ?_
    refine T_putI (pc := 31) fd_10_13 hw1516 dX12_goesIn_31 ?_
    refine T_letS (fun s2 => ?_)
    refine T_iconst (pc := 34) (v := 1) dX12_goesIn_34 (by decide) ?_
    exact T_zreturn (pc := 35) true rfl dX12_goesIn_35 rfl rfl
  · refine T_aload_n (pc := 9) 0 dX12_goesIn_9 rfl rfl ?_
    refine T_callSz (pc := 10) (rest := []) (Rn_V (pc := 10) (as := []) (rest := []) (ctX12_fails σ) rfl rfl mv_X12_fails hw1708 rfl ⟨Nat.le_of_ble_eq_true rfl, Nat.le_of_ble_eq_true rfl⟩ (Nat.le_of_ble_eq_true rfl) dX12_goesIn_10 rfl) rfl (fun r3 => ?_)
    exact T_zreturn (pc := 13) r3.1 rfl dX12_goesIn_13 rfl rfl
set_option maxRecDepth 100000 in
set_option maxHeartbeats 4000000 in
theorem ctX12_within (σ : St) (p0 : Int64) : Ct yX12_within kX12_within [.long p0] σ (cPi σ) (fX12_within p0) := by
  refine Ct.of (by decide +kernel) rfl rfl (Nat.le_of_ble_eq_true rfl) ?_
  unfold fX12_within
  show T _ _ _ 0 [(0, .long p0)] [] _
  refine T_ldc2 (pc := 0) hw1829 dX12_within_0 ?_
  refine T_ldc2 (pc := 3) hw1830 dX12_within_3 ?_
  refine T_lload_n (pc := 6) 0 dX12_within_6 rfl rfl ?_
  refine T_callPl (pc := 7) (rest := [.long (-1000000 : Int64)]) (Rn_S (pc := 7) (as := [.long (1000000 : Int64), .long p0]) (rest := [.long (-1000000 : Int64)]) (ctJ9_min_f86c9 σ (1000000 : Int64) p0) ms_J9_min_f86c9 hw1831 rfl ⟨Nat.le_of_ble_eq_true rfl, Nat.le_of_ble_eq_true rfl⟩ (Nat.le_of_ble_eq_true rfl) dX12_within_7 rfl) rfl (fun x1 => ?_)
  refine T_callPl (pc := 10) (rest := []) (Rn_S (pc := 10) (as := [.long (-1000000 : Int64), .long x1]) (rest := []) (ctJ9_max_f86c9 σ (-1000000 : Int64) x1) ms_J9_max_f86c9 hw1832 rfl ⟨Nat.le_of_ble_eq_true rfl, Nat.le_of_ble_eq_true rfl⟩ (Nat.le_of_ble_eq_true rfl) dX12_within_10 rfl) rfl (fun x2 => ?_)
  refine T_l2i (pc := 13) dX12_within_13 ?_
  exact T_ireturn (pc := 14) rfl dX12_within_14 rfl
set_option maxRecDepth 100000 in
set_option maxHeartbeats 4000000 in
theorem ctX12_takes (σ : St) (p0 : Int32) : Ct yX12_takes kX12_takes [.ref 10, .int p0] σ cSz (fX12_takes σ p0) := by
  refine Ct.of (by decide +kernel) rfl rfl (Nat.le_of_ble_eq_true rfl) ?_
  unfold fX12_takes
  show T _ _ _ 0 [(0, .ref 10), (1, .int p0)] [] _
  refine T_aload_n (pc := 0) 0 dX12_takes_0 rfl rfl ?_
  refine T_getI (pc := 1) fd_10_14 hw1517 dX12_takes_1 ?_
  refine T_iconst (pc := 4) (v := -1) dX12_takes_4 (by decide) ?_
  refine T_icmp_ne (pc := 5) 16 dX12_takes_5 (by decide) (fun _ => ?_) (fun _ => ?_)
  · refine T_aload_n (pc := 16) 0 dX12_takes_16 rfl rfl ?_
    refine T_callSz (pc := 17) (rest := []) (Rn_V (pc := 17) (as := []) (rest := []) (ctX12_fails σ) rfl rfl mv_X12_fails hw1708 rfl ⟨Nat.le_of_ble_eq_true rfl, Nat.le_of_ble_eq_true rfl⟩ (Nat.le_of_ble_eq_true rfl) dX12_takes_17 rfl) rfl (fun r1 => ?_)
    exact T_zreturn (pc := 20) r1.1 rfl dX12_takes_20 rfl rfl
  · refine T_aload_n (pc := 8) 0 dX12_takes_8 rfl rfl ?_
    refine T_callSi (pc := 9) (rest := []) (Rn_V (pc := 9) (as := []) (rest := []) (ctX12_look σ) rfl rfl mv_X12_look hw1704 rfl ⟨Nat.le_of_ble_eq_true rfl, Nat.le_of_ble_eq_true rfl⟩ (Nat.le_of_ble_eq_true rfl) dX12_takes_9 rfl) rfl (fun r2 => ?_)
    refine T_iload_n (pc := 12) 1 dX12_takes_12 rfl rfl ?_
    refine T_icmp_eq (pc := 13) 21 dX12_takes_13 (by decide) (fun _ => ?_) (fun _ => ?_)
    · refine T_aload_n (pc := 21) 0 dX12_takes_21 rfl rfl ?_
      refine T_dup_a (pc := 22) dX12_takes_22 ?_
      refine T_getI (pc := 23) fd_10_13 hw1516 dX12_takes_23 ?_
      refine T_iconst (pc := 26) (v := 1) dX12_takes_26 (by decide) ?_
      refine T_iadd (pc := 27) dX12_takes_27 ?_
      refine T_putI (pc := 28) fd_10_13 hw1516 dX12_takes_28 ?_
      refine T_letS (fun s3 => ?_)
      refine T_iconst (pc := 31) (v := 1) dX12_takes_31 (by decide) ?_
      exact T_zreturn (pc := 32) true rfl dX12_takes_32 rfl rfl
    · refine T_aload_n (pc := 16) 0 dX12_takes_16 rfl rfl ?_
      refine T_callSz (pc := 17) (rest := []) (Rn_V (pc := 17) (as := []) (rest := []) (ctX12_fails r2.2) rfl rfl mv_X12_fails hw1708 rfl ⟨Nat.le_of_ble_eq_true rfl, Nat.le_of_ble_eq_true rfl⟩ (Nat.le_of_ble_eq_true rfl) dX12_takes_17 rfl) rfl (fun r4 => ?_)
      exact T_zreturn (pc := 20) r4.1 rfl dX12_takes_20 rfl rfl
set_option maxRecDepth 100000 in
set_option maxHeartbeats 4000000 in
theorem fX12_term_J31_T (d : Nat) (rec : St → Option (Int32 × St)) (hrec : ∀ (σ : St), Ct yX12_atom (kX12_atom d) [.ref 10] σ cSi (rec σ)) (σ : St) (v1 : Int32) {kb : St → Int32 → Option (Int32 × St)} (hkb : ∀ (σ' : St) (w1 : Int32), T (kX12_term d) cSi σ' 5 [(0, .ref 10), (1, .int w1)] [] (kb σ' w1)) : T (kX12_term d) cSi σ 31 [(0, .ref 10), (1, .int v1)] [] (fX12_term_J31 rec kb σ v1) := by
  unfold fX12_term_J31
  refine T_aload_n (pc := 31) 0 dX12_term_31 rfl rfl ?_
  refine T_callSi (pc := 32) (rest := []) (Rn_V (pc := 32) (as := []) (rest := []) (ctX12_look σ) rfl rfl mv_X12_look hw1704 rfl ⟨by simp only [kX12_look, kX12_term]; omega, by simp only [kX12_look, kX12_term]; omega⟩ (Nat.le_of_ble_eq_true rfl) dX12_term_32 rfl) rfl (fun r3 => ?_)
  refine T_bipush (pc := 35) (v := 42) dX12_term_35 (by decide) ?_
  refine T_icmp_ne (pc := 37) 44 dX12_term_37 (by decide) (fun _ => ?_) (fun _ => ?_)
  · refine T_iconst (pc := 44) (v := 0) dX12_term_44 (by decide) ?_
    refine T_istore_n (pc := 45) (lv' := [(0, .ref 10), (1, .int v1), (2, .int (0 : Int32))]) dX12_term_45 rfl (Nat.le_of_ble_eq_true rfl) rfl ?_
    refine T_aload_n (pc := 46) 0 dX12_term_46 rfl rfl ?_
    refine T_dup_a (pc := 47) dX12_term_47 ?_
    refine T_getI (pc := 48) fd_10_13 hw1516 dX12_term_48 ?_
    refine T_iconst (pc := 51) (v := 1) dX12_term_51 (by decide) ?_
    refine T_iadd (pc := 52) dX12_term_52 ?_
    refine T_putI (pc := 53) fd_10_13 hw1516 dX12_term_53 ?_
    refine T_letS (fun s4 => ?_)
    refine T_aload_n (pc := 56) 0 dX12_term_56 rfl rfl ?_
    refine T_callSi (pc := 57) (rest := []) (Rn_V (pc := 57) (as := []) (rest := []) (hrec s4) rfl rfl mv_X12_atom hw1814 rfl ⟨by simp only [kX12_atom, kX12_term]; omega, by simp only [kX12_atom, kX12_term]; omega⟩ (Nat.le_of_ble_eq_true rfl) dX12_term_57 rfl) rfl (fun r5 => ?_)
    refine T_i2l (pc := 60) dX12_term_60 ?_
    refine T_letL (fun x6 => ?_)
    refine T_lstore_n (pc := 61) (lv' := [(0, .ref 10), (1, .int v1), (2, .int (0 : Int32)), (3, .long x6)]) dX12_term_61 rfl (Nat.le_of_ble_eq_true rfl) rfl ?_
    refine T_iload_n (pc := 62) 2 dX12_term_62 rfl rfl ?_
    refine T_if_eq (pc := 63) 73 dX12_term_63 (by decide) (fun _ => ?_) (fun _ => ?_)
    · refine T_lload_n (pc := 73) 3 dX12_term_73 rfl rfl ?_
      refine T_lconst (pc := 74) (v := 0) dX12_term_74 (by decide) ?_
      refine T_lcmp (pc := 75) dX12_term_75 ?_
      refine T_if_ne (pc := 76) 83 dX12_term_76 (by decide) (fun _ => ?_) (fun _ => ?_)
      · refine T_iload_n (pc := 83) 1 dX12_term_83 rfl rfl ?_
        refine T_i2l (pc := 84) dX12_term_84 ?_
        refine T_lload_n (pc := 85) 3 dX12_term_85 rfl rfl ?_
        refine T_ldiv (pc := 86) dX12_term_86 ?_
        refine T_callPi (pc := 87) (rest := []) (Rn_S (pc := 87) (as := [.long ((Int32.toInt64 v1) / x6)]) (rest := []) (ctX12_within r5.2 ((Int32.toInt64 v1) / x6)) ms_X12_within hw1826 rfl ⟨by simp only [kX12_within, kX12_term]; omega, by simp only [kX12_within, kX12_term]; omega⟩ (Nat.le_of_ble_eq_true rfl) dX12_term_87 rfl) rfl (fun x7 => ?_)
        refine T_istore_n (pc := 90) (lv' := [(0, .ref 10), (1, .int x7), (2, .int (0 : Int32)), (3, .long x6)]) dX12_term_90 rfl (Nat.le_of_ble_eq_true rfl) rfl ?_
        refine T_goto (pc := 91) 5 dX12_term_91 (by decide) ?_
        refine T_pick (lv' := [(0, .ref 10), (1, .int x7)]) [0, 1] rfl ?_
        exact hkb r5.2 x7
      · refine T_lconst (pc := 79) (v := 0) dX12_term_79 (by decide) ?_
        refine T_goto (pc := 80) 87 dX12_term_80 (by decide) ?_
        refine T_callPi (pc := 87) (rest := []) (Rn_S (pc := 87) (as := [.long (0 : Int64)]) (rest := []) (ctX12_within r5.2 (0 : Int64)) ms_X12_within hw1826 rfl ⟨by simp only [kX12_within, kX12_term]; omega, by simp only [kX12_within, kX12_term]; omega⟩ (Nat.le_of_ble_eq_true rfl) dX12_term_87 rfl) rfl (fun x8 => ?_)
        refine T_istore_n (pc := 90) (lv' := [(0, .ref 10), (1, .int x8), (2, .int (0 : Int32)), (3, .long x6)]) dX12_term_90 rfl (Nat.le_of_ble_eq_true rfl) rfl ?_
        refine T_goto (pc := 91) 5 dX12_term_91 (by decide) ?_
        refine T_pick (lv' := [(0, .ref 10), (1, .int x8)]) [0, 1] rfl ?_
        exact hkb r5.2 x8
    · refine T_iload_n (pc := 66) 1 dX12_term_66 rfl rfl ?_
      refine T_i2l (pc := 67) dX12_term_67 ?_
      refine T_lload_n (pc := 68) 3 dX12_term_68 rfl rfl ?_
      refine T_lmul (pc := 69) dX12_term_69 ?_
      refine T_goto (pc := 70) 87 dX12_term_70 (by decide) ?_
      refine T_callPi (pc := 87) (rest := []) (Rn_S (pc := 87) (as := [.long ((Int32.toInt64 v1) * x6)]) (rest := []) (ctX12_within r5.2 ((Int32.toInt64 v1) * x6)) ms_X12_within hw1826 rfl ⟨by simp only [kX12_within, kX12_term]; omega, by simp only [kX12_within, kX12_term]; omega⟩ (Nat.le_of_ble_eq_true rfl) dX12_term_87 rfl) rfl (fun x9 => ?_)
      refine T_istore_n (pc := 90) (lv' := [(0, .ref 10), (1, .int x9), (2, .int (0 : Int32)), (3, .long x6)]) dX12_term_90 rfl (Nat.le_of_ble_eq_true rfl) rfl ?_
      refine T_goto (pc := 91) 5 dX12_term_91 (by decide) ?_
      refine T_pick (lv' := [(0, .ref 10), (1, .int x9)]) [0, 1] rfl ?_
      exact hkb r5.2 x9
  · refine T_iconst (pc := 40) (v := 1) dX12_term_40 (by decide) ?_
    refine T_goto (pc := 41) 45 dX12_term_41 (by decide) ?_
    refine T_istore_n (pc := 45) (lv' := [(0, .ref 10), (1, .int v1), (2, .int (1 : Int32))]) dX12_term_45 rfl (Nat.le_of_ble_eq_true rfl) rfl ?_
    refine T_aload_n (pc := 46) 0 dX12_term_46 rfl rfl ?_
    refine T_dup_a (pc := 47) dX12_term_47 ?_
    refine T_getI (pc := 48) fd_10_13 hw1516 dX12_term_48 ?_
    refine T_iconst (pc := 51) (v := 1) dX12_term_51 (by decide) ?_
    refine T_iadd (pc := 52) dX12_term_52 ?_
    refine T_putI (pc := 53) fd_10_13 hw1516 dX12_term_53 ?_
    refine T_letS (fun s10 => ?_)
    refine T_aload_n (pc := 56) 0 dX12_term_56 rfl rfl ?_
    refine T_callSi (pc := 57) (rest := []) (Rn_V (pc := 57) (as := []) (rest := []) (hrec s10) rfl rfl mv_X12_atom hw1814 rfl ⟨by simp only [kX12_atom, kX12_term]; omega, by simp only [kX12_atom, kX12_term]; omega⟩ (Nat.le_of_ble_eq_true rfl) dX12_term_57 rfl) rfl (fun r11 => ?_)
    refine T_i2l (pc := 60) dX12_term_60 ?_
    refine T_letL (fun x12 => ?_)
    refine T_lstore_n (pc := 61) (lv' := [(0, .ref 10), (1, .int v1), (2, .int (1 : Int32)), (3, .long x12)]) dX12_term_61 rfl (Nat.le_of_ble_eq_true rfl) rfl ?_
    refine T_iload_n (pc := 62) 2 dX12_term_62 rfl rfl ?_
    refine T_if_eq (pc := 63) 73 dX12_term_63 (by decide) (fun _ => ?_) (fun _ => ?_)
    · refine T_lload_n (pc := 73) 3 dX12_term_73 rfl rfl ?_
      refine T_lconst (pc := 74) (v := 0) dX12_term_74 (by decide) ?_
      refine T_lcmp (pc := 75) dX12_term_75 ?_
      refine T_if_ne (pc := 76) 83 dX12_term_76 (by decide) (fun _ => ?_) (fun _ => ?_)
      · refine T_iload_n (pc := 83) 1 dX12_term_83 rfl rfl ?_
        refine T_i2l (pc := 84) dX12_term_84 ?_
        refine T_lload_n (pc := 85) 3 dX12_term_85 rfl rfl ?_
        refine T_ldiv (pc := 86) dX12_term_86 ?_
        refine T_callPi (pc := 87) (rest := []) (Rn_S (pc := 87) (as := [.long ((Int32.toInt64 v1) / x12)]) (rest := []) (ctX12_within r11.2 ((Int32.toInt64 v1) / x12)) ms_X12_within hw1826 rfl ⟨by simp only [kX12_within, kX12_term]; omega, by simp only [kX12_within, kX12_term]; omega⟩ (Nat.le_of_ble_eq_true rfl) dX12_term_87 rfl) rfl (fun x13 => ?_)
        refine T_istore_n (pc := 90) (lv' := [(0, .ref 10), (1, .int x13), (2, .int (1 : Int32)), (3, .long x12)]) dX12_term_90 rfl (Nat.le_of_ble_eq_true rfl) rfl ?_
        refine T_goto (pc := 91) 5 dX12_term_91 (by decide) ?_
        refine T_pick (lv' := [(0, .ref 10), (1, .int x13)]) [0, 1] rfl ?_
        exact hkb r11.2 x13
      · refine T_lconst (pc := 79) (v := 0) dX12_term_79 (by decide) ?_
        refine T_goto (pc := 80) 87 dX12_term_80 (by decide) ?_
        refine T_callPi (pc := 87) (rest := []) (Rn_S (pc := 87) (as := [.long (0 : Int64)]) (rest := []) (ctX12_within r11.2 (0 : Int64)) ms_X12_within hw1826 rfl ⟨by simp only [kX12_within, kX12_term]; omega, by simp only [kX12_within, kX12_term]; omega⟩ (Nat.le_of_ble_eq_true rfl) dX12_term_87 rfl) rfl (fun x14 => ?_)
        refine T_istore_n (pc := 90) (lv' := [(0, .ref 10), (1, .int x14), (2, .int (1 : Int32)), (3, .long x12)]) dX12_term_90 rfl (Nat.le_of_ble_eq_true rfl) rfl ?_
        refine T_goto (pc := 91) 5 dX12_term_91 (by decide) ?_
        refine T_pick (lv' := [(0, .ref 10), (1, .int x14)]) [0, 1] rfl ?_
        exact hkb r11.2 x14
    · refine T_iload_n (pc := 66) 1 dX12_term_66 rfl rfl ?_
      refine T_i2l (pc := 67) dX12_term_67 ?_
      refine T_lload_n (pc := 68) 3 dX12_term_68 rfl rfl ?_
      refine T_lmul (pc := 69) dX12_term_69 ?_
      refine T_goto (pc := 70) 87 dX12_term_70 (by decide) ?_
      refine T_callPi (pc := 87) (rest := []) (Rn_S (pc := 87) (as := [.long ((Int32.toInt64 v1) * x12)]) (rest := []) (ctX12_within r11.2 ((Int32.toInt64 v1) * x12)) ms_X12_within hw1826 rfl ⟨by simp only [kX12_within, kX12_term]; omega, by simp only [kX12_within, kX12_term]; omega⟩ (Nat.le_of_ble_eq_true rfl) dX12_term_87 rfl) rfl (fun x15 => ?_)
      refine T_istore_n (pc := 90) (lv' := [(0, .ref 10), (1, .int x15), (2, .int (1 : Int32)), (3, .long x12)]) dX12_term_90 rfl (Nat.le_of_ble_eq_true rfl) rfl ?_
      refine T_goto (pc := 91) 5 dX12_term_91 (by decide) ?_
      refine T_pick (lv' := [(0, .ref 10), (1, .int x15)]) [0, 1] rfl ?_
      exact hkb r11.2 x15
set_option maxRecDepth 100000 in
set_option maxHeartbeats 4000000 in
theorem fX12_term_L5_T (d : Nat) (rec : St → Option (Int32 × St)) (hrec : ∀ (σ : St), Ct yX12_atom (kX12_atom d) [.ref 10] σ cSi (rec σ)) (σ : St) {kb : St → Int32 → Option (Int32 × St)} (hkb : ∀ (σ' : St) (w1 : Int32), T (kX12_term d) cSi σ' 5 [(0, .ref 10), (1, .int w1)] [] (kb σ' w1)) (v1 : Int32) : T (kX12_term d) cSi σ 5 [(0, .ref 10), (1, .int v1)] [] (fX12_term_L5 rec kb σ v1) := by
  unfold fX12_term_L5
  refine T_aload_n (pc := 5) 0 dX12_term_5 rfl rfl ?_
  refine T_getI (pc := 6) fd_10_14 hw1517 dX12_term_6 ?_
  refine T_iconst (pc := 9) (v := -1) dX12_term_9 (by decide) ?_
  refine T_icmp_ne (pc := 10) 94 dX12_term_10 (by decide) (fun _ => ?_) (fun _ => ?_)
  · refine T_iload_n (pc := 94) 1 dX12_term_94 rfl rfl ?_
    exact T_ireturn (pc := 95) rfl dX12_term_95 rfl
  · refine T_aload_n (pc := 13) 0 dX12_term_13 rfl rfl ?_
    refine T_callSi (pc := 14) (rest := []) (Rn_V (pc := 14) (as := []) (rest := []) (ctX12_look σ) rfl rfl mv_X12_look hw1704 rfl ⟨by simp only [kX12_look, kX12_term]; omega, by simp only [kX12_look, kX12_term]; omega⟩ (Nat.le_of_ble_eq_true rfl) dX12_term_14 rfl) rfl (fun r2 => ?_)
    refine T_bipush (pc := 17) (v := 42) dX12_term_17 (by decide) ?_
    refine T_icmp_eq (pc := 19) 31 dX12_term_19 (by decide) (fun _ => ?_) (fun _ => ?_)
    · exact fX12_term_J31_T d rec hrec (hkb := hkb) r2.2 v1
    · refine T_aload_n (pc := 22) 0 dX12_term_22 rfl rfl ?_
      refine T_callSi (pc := 23) (rest := []) (Rn_V (pc := 23) (as := []) (rest := []) (ctX12_look r2.2) rfl rfl mv_X12_look hw1704 rfl ⟨by simp only [kX12_look, kX12_term]; omega, by simp only [kX12_look, kX12_term]; omega⟩ (Nat.le_of_ble_eq_true rfl) dX12_term_23 rfl) rfl (fun r16 => ?_)
      refine T_bipush (pc := 26) (v := 47) dX12_term_26 (by decide) ?_
      refine T_icmp_ne (pc := 28) 94 dX12_term_28 (by decide) (fun _ => ?_) (fun _ => ?_)
      · refine T_iload_n (pc := 94) 1 dX12_term_94 rfl rfl ?_
        exact T_ireturn (pc := 95) rfl dX12_term_95 rfl
      · exact fX12_term_J31_T d rec hrec (hkb := hkb) r16.2 v1
set_option maxRecDepth 100000 in
set_option maxHeartbeats 4000000 in
theorem fX12_term_P5_T (d : Nat) (rec : St → Option (Int32 × St)) (hrec : ∀ (σ : St), Ct yX12_atom (kX12_atom d) [.ref 10] σ cSi (rec σ)) (σ : St) (v1 : Int32) : T (kX12_term d) cSi σ 5 [(0, .ref 10), (1, .int v1)] [] (fX12_term_P5 rec σ v1) :=
  it_T (S := (fun t : St × Int32 => t.1)) (lv := fun t : St × Int32 => [(0, .ref 10), (1, .int t.2)]) (st := fun _ => []) (fun kb hkb t => fX12_term_L5_T d rec hrec (hkb := fun σ v1 => hkb (σ, v1)) t.1 t.2) FU (σ, v1)
set_option maxRecDepth 100000 in
set_option maxHeartbeats 4000000 in
theorem ctX12_term_B (d : Nat) (rec : St → Option (Int32 × St)) (hrec : ∀ (σ : St), Ct yX12_atom (kX12_atom d) [.ref 10] σ cSi (rec σ)) (σ : St) : Ct yX12_term (kX12_term d) [.ref 10] σ cSi (fX12_term_B rec σ) := by
  refine Ct.of (by decide +kernel) rfl rfl (Nat.le_of_ble_eq_true rfl) ?_
  unfold fX12_term_B
  show T _ _ _ 0 [(0, .ref 10)] [] _
  refine T_aload_n (pc := 0) 0 dX12_term_0 rfl rfl ?_
  refine T_callSi (pc := 1) (rest := []) (Rn_V (pc := 1) (as := []) (rest := []) (hrec σ) rfl rfl mv_X12_atom hw1814 rfl ⟨by simp only [kX12_atom, kX12_term]; omega, by simp only [kX12_atom, kX12_term]; omega⟩ (Nat.le_of_ble_eq_true rfl) dX12_term_1 rfl) rfl (fun r1 => ?_)
  refine T_istore_n (pc := 4) (lv' := [(0, .ref 10), (1, .int r1.1)]) dX12_term_4 rfl (Nat.le_of_ble_eq_true rfl) rfl ?_
  exact fX12_term_P5_T d rec hrec r1.2 r1.1
set_option maxRecDepth 100000 in
set_option maxHeartbeats 4000000 in
theorem fX12_sum_J31_T (d : Nat) (rec : St → Option (Int32 × St)) (hrec : ∀ (σ : St), Ct yX12_atom (kX12_atom d) [.ref 10] σ cSi (rec σ)) (σ : St) (v1 : Int32) {kb : St → Int32 → Option (Int32 × St)} (hkb : ∀ (σ' : St) (w1 : Int32), T (kX12_sum d) cSi σ' 5 [(0, .ref 10), (1, .int w1)] [] (kb σ' w1)) : T (kX12_sum d) cSi σ 31 [(0, .ref 10), (1, .int v1)] [] (fX12_sum_J31 rec kb σ v1) := by
  unfold fX12_sum_J31
  refine T_aload_n (pc := 31) 0 dX12_sum_31 rfl rfl ?_
  refine T_callSi (pc := 32) (rest := []) (Rn_V (pc := 32) (as := []) (rest := []) (ctX12_look σ) rfl rfl mv_X12_look hw1704 rfl ⟨by simp only [kX12_look, kX12_sum]; omega, by simp only [kX12_look, kX12_sum]; omega⟩ (Nat.le_of_ble_eq_true rfl) dX12_sum_32 rfl) rfl (fun r3 => ?_)
  refine T_bipush (pc := 35) (v := 43) dX12_sum_35 (by decide) ?_
  refine T_icmp_ne (pc := 37) 44 dX12_sum_37 (by decide) (fun _ => ?_) (fun _ => ?_)
  · refine T_iconst (pc := 44) (v := 0) dX12_sum_44 (by decide) ?_
    refine T_istore_n (pc := 45) (lv' := [(0, .ref 10), (1, .int v1), (2, .int (0 : Int32))]) dX12_sum_45 rfl (Nat.le_of_ble_eq_true rfl) rfl ?_
    refine T_aload_n (pc := 46) 0 dX12_sum_46 rfl rfl ?_
    refine T_dup_a (pc := 47) dX12_sum_47 ?_
    refine T_getI (pc := 48) fd_10_13 hw1516 dX12_sum_48 ?_
    refine T_iconst (pc := 51) (v := 1) dX12_sum_51 (by decide) ?_
    refine T_iadd (pc := 52) dX12_sum_52 ?_
    refine T_putI (pc := 53) fd_10_13 hw1516 dX12_sum_53 ?_
    refine T_letS (fun s4 => ?_)
    refine T_aload_n (pc := 56) 0 dX12_sum_56 rfl rfl ?_
    refine T_callSi (pc := 57) (rest := []) (Rn_V (pc := 57) (as := []) (rest := []) (ctX12_term_B d rec hrec s4) rfl rfl mv_X12_term hw1810 rfl ⟨by simp only [kX12_term, kX12_sum]; omega, by simp only [kX12_term, kX12_sum]; omega⟩ (Nat.le_of_ble_eq_true rfl) dX12_sum_57 rfl) rfl (fun r5 => ?_)
    refine T_i2l (pc := 60) dX12_sum_60 ?_
    refine T_letL (fun x6 => ?_)
    refine T_lstore_n (pc := 61) (lv' := [(0, .ref 10), (1, .int v1), (2, .int (0 : Int32)), (3, .long x6)]) dX12_sum_61 rfl (Nat.le_of_ble_eq_true rfl) rfl ?_
    refine T_iload_n (pc := 62) 2 dX12_sum_62 rfl rfl ?_
    refine T_if_eq (pc := 63) 73 dX12_sum_63 (by decide) (fun _ => ?_) (fun _ => ?_)
    · refine T_iload_n (pc := 73) 1 dX12_sum_73 rfl rfl ?_
      refine T_i2l (pc := 74) dX12_sum_74 ?_
      refine T_lload_n (pc := 75) 3 dX12_sum_75 rfl rfl ?_
      refine T_lsub (pc := 76) dX12_sum_76 ?_
      refine T_callPi (pc := 77) (rest := []) (Rn_S (pc := 77) (as := [.long ((Int32.toInt64 v1) - x6)]) (rest := []) (ctX12_within r5.2 ((Int32.toInt64 v1) - x6)) ms_X12_within hw1826 rfl ⟨by simp only [kX12_within, kX12_sum]; omega, by simp only [kX12_within, kX12_sum]; omega⟩ (Nat.le_of_ble_eq_true rfl) dX12_sum_77 rfl) rfl (fun x7 => ?_)
      refine T_istore_n (pc := 80) (lv' := [(0, .ref 10), (1, .int x7), (2, .int (0 : Int32)), (3, .long x6)]) dX12_sum_80 rfl (Nat.le_of_ble_eq_true rfl) rfl ?_
      refine T_goto (pc := 81) 5 dX12_sum_81 (by decide) ?_
      refine T_pick (lv' := [(0, .ref 10), (1, .int x7)]) [0, 1] rfl ?_
      exact hkb r5.2 x7
    · refine T_iload_n (pc := 66) 1 dX12_sum_66 rfl rfl ?_
      refine T_i2l (pc := 67) dX12_sum_67 ?_
      refine T_lload_n (pc := 68) 3 dX12_sum_68 rfl rfl ?_
      refine T_ladd (pc := 69) dX12_sum_69 ?_
      refine T_goto (pc := 70) 77 dX12_sum_70 (by decide) ?_
      refine T_callPi (pc := 77) (rest := []) (Rn_S (pc := 77) (as := [.long ((Int32.toInt64 v1) + x6)]) (rest := []) (ctX12_within r5.2 ((Int32.toInt64 v1) + x6)) ms_X12_within hw1826 rfl ⟨by simp only [kX12_within, kX12_sum]; omega, by simp only [kX12_within, kX12_sum]; omega⟩ (Nat.le_of_ble_eq_true rfl) dX12_sum_77 rfl) rfl (fun x8 => ?_)
      refine T_istore_n (pc := 80) (lv' := [(0, .ref 10), (1, .int x8), (2, .int (0 : Int32)), (3, .long x6)]) dX12_sum_80 rfl (Nat.le_of_ble_eq_true rfl) rfl ?_
      refine T_goto (pc := 81) 5 dX12_sum_81 (by decide) ?_
      refine T_pick (lv' := [(0, .ref 10), (1, .int x8)]) [0, 1] rfl ?_
      exact hkb r5.2 x8
  · refine T_iconst (pc := 40) (v := 1) dX12_sum_40 (by decide) ?_
    refine T_goto (pc := 41) 45 dX12_sum_41 (by decide) ?_
    refine T_istore_n (pc := 45) (lv' := [(0, .ref 10), (1, .int v1), (2, .int (1 : Int32))]) dX12_sum_45 rfl (Nat.le_of_ble_eq_true rfl) rfl ?_
    refine T_aload_n (pc := 46) 0 dX12_sum_46 rfl rfl ?_
    refine T_dup_a (pc := 47) dX12_sum_47 ?_
    refine T_getI (pc := 48) fd_10_13 hw1516 dX12_sum_48 ?_
    refine T_iconst (pc := 51) (v := 1) dX12_sum_51 (by decide) ?_
    refine T_iadd (pc := 52) dX12_sum_52 ?_
    refine T_putI (pc := 53) fd_10_13 hw1516 dX12_sum_53 ?_
    refine T_letS (fun s9 => ?_)
    refine T_aload_n (pc := 56) 0 dX12_sum_56 rfl rfl ?_
    refine T_callSi (pc := 57) (rest := []) (Rn_V (pc := 57) (as := []) (rest := []) (ctX12_term_B d rec hrec s9) rfl rfl mv_X12_term hw1810 rfl ⟨by simp only [kX12_term, kX12_sum]; omega, by simp only [kX12_term, kX12_sum]; omega⟩ (Nat.le_of_ble_eq_true rfl) dX12_sum_57 rfl) rfl (fun r10 => ?_)
    refine T_i2l (pc := 60) dX12_sum_60 ?_
    refine T_letL (fun x11 => ?_)
    refine T_lstore_n (pc := 61) (lv' := [(0, .ref 10), (1, .int v1), (2, .int (1 : Int32)), (3, .long x11)]) dX12_sum_61 rfl (Nat.le_of_ble_eq_true rfl) rfl ?_
    refine T_iload_n (pc := 62) 2 dX12_sum_62 rfl rfl ?_
    refine T_if_eq (pc := 63) 73 dX12_sum_63 (by decide) (fun _ => ?_) (fun _ => ?_)
    · refine T_iload_n (pc := 73) 1 dX12_sum_73 rfl rfl ?_
      refine T_i2l (pc := 74) dX12_sum_74 ?_
      refine T_lload_n (pc := 75) 3 dX12_sum_75 rfl rfl ?_
      refine T_lsub (pc := 76) dX12_sum_76 ?_
      refine T_callPi (pc := 77) (rest := []) (Rn_S (pc := 77) (as := [.long ((Int32.toInt64 v1) - x11)]) (rest := []) (ctX12_within r10.2 ((Int32.toInt64 v1) - x11)) ms_X12_within hw1826 rfl ⟨by simp only [kX12_within, kX12_sum]; omega, by simp only [kX12_within, kX12_sum]; omega⟩ (Nat.le_of_ble_eq_true rfl) dX12_sum_77 rfl) rfl (fun x12 => ?_)
      refine T_istore_n (pc := 80) (lv' := [(0, .ref 10), (1, .int x12), (2, .int (1 : Int32)), (3, .long x11)]) dX12_sum_80 rfl (Nat.le_of_ble_eq_true rfl) rfl ?_
      refine T_goto (pc := 81) 5 dX12_sum_81 (by decide) ?_
      refine T_pick (lv' := [(0, .ref 10), (1, .int x12)]) [0, 1] rfl ?_
      exact hkb r10.2 x12
    · refine T_iload_n (pc := 66) 1 dX12_sum_66 rfl rfl ?_
      refine T_i2l (pc := 67) dX12_sum_67 ?_
      refine T_lload_n (pc := 68) 3 dX12_sum_68 rfl rfl ?_
      refine T_ladd (pc := 69) dX12_sum_69 ?_
      refine T_goto (pc := 70) 77 dX12_sum_70 (by decide) ?_
      refine T_callPi (pc := 77) (rest := []) (Rn_S (pc := 77) (as := [.long ((Int32.toInt64 v1) + x11)]) (rest := []) (ctX12_within r10.2 ((Int32.toInt64 v1) + x11)) ms_X12_within hw1826 rfl ⟨by simp only [kX12_within, kX12_sum]; omega, by simp only [kX12_within, kX12_sum]; omega⟩ (Nat.le_of_ble_eq_true rfl) dX12_sum_77 rfl) rfl (fun x13 => ?_)
      refine T_istore_n (pc := 80) (lv' := [(0, .ref 10), (1, .int x13), (2, .int (1 : Int32)), (3, .long x11)]) dX12_sum_80 rfl (Nat.le_of_ble_eq_true rfl) rfl ?_
      refine T_goto (pc := 81) 5 dX12_sum_81 (by decide) ?_
      refine T_pick (lv' := [(0, .ref 10), (1, .int x13)]) [0, 1] rfl ?_
      exact hkb r10.2 x13
set_option maxRecDepth 100000 in
set_option maxHeartbeats 4000000 in
theorem fX12_sum_L5_T (d : Nat) (rec : St → Option (Int32 × St)) (hrec : ∀ (σ : St), Ct yX12_atom (kX12_atom d) [.ref 10] σ cSi (rec σ)) (σ : St) {kb : St → Int32 → Option (Int32 × St)} (hkb : ∀ (σ' : St) (w1 : Int32), T (kX12_sum d) cSi σ' 5 [(0, .ref 10), (1, .int w1)] [] (kb σ' w1)) (v1 : Int32) : T (kX12_sum d) cSi σ 5 [(0, .ref 10), (1, .int v1)] [] (fX12_sum_L5 rec kb σ v1) := by
  unfold fX12_sum_L5
  refine T_aload_n (pc := 5) 0 dX12_sum_5 rfl rfl ?_
  refine T_getI (pc := 6) fd_10_14 hw1517 dX12_sum_6 ?_
  refine T_iconst (pc := 9) (v := -1) dX12_sum_9 (by decide) ?_
  refine T_icmp_ne (pc := 10) 84 dX12_sum_10 (by decide) (fun _ => ?_) (fun _ => ?_)
  · refine T_iload_n (pc := 84) 1 dX12_sum_84 rfl rfl ?_
    exact T_ireturn (pc := 85) rfl dX12_sum_85 rfl
  · refine T_aload_n (pc := 13) 0 dX12_sum_13 rfl rfl ?_
    refine T_callSi (pc := 14) (rest := []) (Rn_V (pc := 14) (as := []) (rest := []) (ctX12_look σ) rfl rfl mv_X12_look hw1704 rfl ⟨by simp only [kX12_look, kX12_sum]; omega, by simp only [kX12_look, kX12_sum]; omega⟩ (Nat.le_of_ble_eq_true rfl) dX12_sum_14 rfl) rfl (fun r2 => ?_)
    refine T_bipush (pc := 17) (v := 43) dX12_sum_17 (by decide) ?_
    refine T_icmp_eq (pc := 19) 31 dX12_sum_19 (by decide) (fun _ => ?_) (fun _ => ?_)
    · exact fX12_sum_J31_T d rec hrec (hkb := hkb) r2.2 v1
    · refine T_aload_n (pc := 22) 0 dX12_sum_22 rfl rfl ?_
      refine T_callSi (pc := 23) (rest := []) (Rn_V (pc := 23) (as := []) (rest := []) (ctX12_look r2.2) rfl rfl mv_X12_look hw1704 rfl ⟨by simp only [kX12_look, kX12_sum]; omega, by simp only [kX12_look, kX12_sum]; omega⟩ (Nat.le_of_ble_eq_true rfl) dX12_sum_23 rfl) rfl (fun r14 => ?_)
      refine T_bipush (pc := 26) (v := 45) dX12_sum_26 (by decide) ?_
      refine T_icmp_ne (pc := 28) 84 dX12_sum_28 (by decide) (fun _ => ?_) (fun _ => ?_)
      · refine T_iload_n (pc := 84) 1 dX12_sum_84 rfl rfl ?_
        exact T_ireturn (pc := 85) rfl dX12_sum_85 rfl
      · exact fX12_sum_J31_T d rec hrec (hkb := hkb) r14.2 v1
set_option maxRecDepth 100000 in
set_option maxHeartbeats 4000000 in
theorem fX12_sum_P5_T (d : Nat) (rec : St → Option (Int32 × St)) (hrec : ∀ (σ : St), Ct yX12_atom (kX12_atom d) [.ref 10] σ cSi (rec σ)) (σ : St) (v1 : Int32) : T (kX12_sum d) cSi σ 5 [(0, .ref 10), (1, .int v1)] [] (fX12_sum_P5 rec σ v1) :=
  it_T (S := (fun t : St × Int32 => t.1)) (lv := fun t : St × Int32 => [(0, .ref 10), (1, .int t.2)]) (st := fun _ => []) (fun kb hkb t => fX12_sum_L5_T d rec hrec (hkb := fun σ v1 => hkb (σ, v1)) t.1 t.2) FU (σ, v1)
set_option maxRecDepth 100000 in
set_option maxHeartbeats 4000000 in
theorem ctX12_sum_B (d : Nat) (rec : St → Option (Int32 × St)) (hrec : ∀ (σ : St), Ct yX12_atom (kX12_atom d) [.ref 10] σ cSi (rec σ)) (σ : St) : Ct yX12_sum (kX12_sum d) [.ref 10] σ cSi (fX12_sum_B rec σ) := by
  refine Ct.of (by decide +kernel) rfl rfl (Nat.le_of_ble_eq_true rfl) ?_
  unfold fX12_sum_B
  show T _ _ _ 0 [(0, .ref 10)] [] _
  refine T_aload_n (pc := 0) 0 dX12_sum_0 rfl rfl ?_
  refine T_callSi (pc := 1) (rest := []) (Rn_V (pc := 1) (as := []) (rest := []) (ctX12_term_B d rec hrec σ) rfl rfl mv_X12_term hw1810 rfl ⟨by simp only [kX12_term, kX12_sum]; omega, by simp only [kX12_term, kX12_sum]; omega⟩ (Nat.le_of_ble_eq_true rfl) dX12_sum_1 rfl) rfl (fun r1 => ?_)
  refine T_istore_n (pc := 4) (lv' := [(0, .ref 10), (1, .int r1.1)]) dX12_sum_4 rfl (Nat.le_of_ble_eq_true rfl) rfl ?_
  exact fX12_sum_P5_T d rec hrec r1.2 r1.1
set_option maxRecDepth 100000 in
set_option maxHeartbeats 4000000 in
theorem fX12_atom_L90_T (d : Nat) (rec : St → Option (Int32 × St)) (hrec : ∀ (σ : St), Ct yX12_atom (kX12_atom d) [.ref 10] σ cSi (rec σ)) (σ : St) {k1 : St → Option (Int32 × St)} {kb : St → Int32 → Int32 → Option (Int32 × St)} (hk1 : ∀ (σ' : St), T (kX12_atom (d + 1)) cSi σ' 110 [(0, .ref 10)] [] (k1 σ')) (hkb : ∀ (σ' : St) (w2 : Int32) (w3 : Int32), T (kX12_atom (d + 1)) cSi σ' 90 [(0, .ref 10), (2, .int w2), (3, .int w3)] [] (kb σ' w2 w3)) (v2 : Int32) (v3 : Int32) : T (kX12_atom (d + 1)) cSi σ 90 [(0, .ref 10), (2, .int v2), (3, .int v3)] [] (fX12_atom_L90 rec k1 kb σ v2 v3) := by
  unfold fX12_atom_L90
  refine T_aload_n (pc := 90) 0 dX12_atom_90 rfl rfl ?_
  refine T_callPz (pc := 91) (rest := []) (Rn_V (pc := 91) (as := []) (rest := []) (ctX12_isDigit σ) rfl rfl mv_X12_isDigit hw1822 rfl ⟨by simp only [kX12_isDigit, kX12_atom]; omega, by simp only [kX12_isDigit, kX12_atom]; omega⟩ (Nat.le_of_ble_eq_true rfl) dX12_atom_91 rfl) rfl (fun x4 => ?_)
  refine T_if_eq (pc := 94) 156 dX12_atom_94 (by decide) (fun _ => ?_) (fun _ => ?_)
  · refine T_iload_n (pc := 156) 1 dX12_atom_156 rfl rfl ?_
    exact T_ireturn (pc := 157) rfl dX12_atom_157 rfl
  · refine T_aload_n (pc := 97) 0 dX12_atom_97 rfl rfl ?_
    refine T_getI (pc := 98) fd_10_14 hw1517 dX12_atom_98 ?_
    refine T_iconst (pc := 101) (v := -1) dX12_atom_101 (by decide) ?_
    refine T_icmp_ne (pc := 102) 156 dX12_atom_102 (by decide) (fun _ => ?_) (fun _ => ?_)
    · refine T_iload_n (pc := 156) 1 dX12_atom_156 rfl rfl ?_
      exact T_ireturn (pc := 157) rfl dX12_atom_157 rfl
    · refine T_iload_n (pc := 105) 2 dX12_atom_105 rfl rfl ?_
      refine T_iconst (pc := 106) (v := 4) dX12_atom_106 (by decide) ?_
      refine T_icmp_ne (pc := 107) 117 dX12_atom_107 (by decide) (fun _ => ?_) (fun _ => ?_)
      · refine T_bipush (pc := 117) (v := 10) dX12_atom_117 (by decide) ?_
        refine T_iload_n (pc := 119) 1 dX12_atom_119 rfl rfl ?_
        refine T_imul (pc := 120) dX12_atom_120 ?_
        refine T_aload_n (pc := 121) 0 dX12_atom_121 rfl rfl ?_
        refine T_getR (pc := 122) fd_10_6 hw1509 dX12_atom_122 ?_
        refine T_aload_n (pc := 125) 0 dX12_atom_125 rfl rfl ?_
        refine T_getI (pc := 126) fd_10_11 hw1514 dX12_atom_126 ?_
        refine T_aload_n (pc := 129) 0 dX12_atom_129 rfl rfl ?_
        refine T_getI (pc := 130) fd_10_13 hw1516 dX12_atom_130 ?_
        refine T_iadd (pc := 133) dX12_atom_133 ?_
        refine T_baldX (pc := 134) dX12_atom_134 (fun x5 => ?_)
        refine T_iadd (pc := 135) dX12_atom_135 ?_
        refine T_bipush (pc := 136) (v := 48) dX12_atom_136 (by decide) ?_
        refine T_isub (pc := 138) dX12_atom_138 ?_
        refine T_letI (fun x6 => ?_)
        refine T_istore_n (pc := 139) (lv' := [(0, .ref 10), (2, .int x6), (3, .int v3)]) dX12_atom_139 rfl (Nat.le_of_ble_eq_true rfl) rfl ?_
        refine T_aload_n (pc := 140) 0 dX12_atom_140 rfl rfl ?_
        refine T_dup_a (pc := 141) dX12_atom_141 ?_
        refine T_getI (pc := 142) fd_10_13 hw1516 dX12_atom_142 ?_
        refine T_iconst (pc := 145) (v := 1) dX12_atom_145 (by decide) ?_
        refine T_iadd (pc := 146) dX12_atom_146 ?_
        refine T_putI (pc := 147) fd_10_13 hw1516 dX12_atom_147 ?_
        refine T_letS (fun s7 => ?_)
        refine T_iinc (pc := 150) (y := 1) (lv' := [(0, .ref 10), (2, .int x6), (3, .int (v3 + (1 : Int32)))]) 2 dX12_atom_150 (by decide) rfl (Nat.le_of_ble_eq_true rfl) rfl ?_
        refine T_goto (pc := 153) 90 dX12_atom_153 (by decide) ?_
        exact hkb s7 x6 (v3 + (1 : Int32))
      · refine T_pick (lv' := [(0, .ref 10)]) [0] rfl ?_
        exact hk1 σ
set_option maxRecDepth 100000 in
set_option maxHeartbeats 4000000 in
theorem fX12_atom_P90_T (d : Nat) (rec : St → Option (Int32 × St)) (hrec : ∀ (σ : St), Ct yX12_atom (kX12_atom d) [.ref 10] σ cSi (rec σ)) (σ : St) {k1 : St → Option (Int32 × St)} (hk1 : ∀ (σ' : St), T (kX12_atom (d + 1)) cSi σ' 110 [(0, .ref 10)] [] (k1 σ')) (v2 : Int32) (v3 : Int32) : T (kX12_atom (d + 1)) cSi σ 90 [(0, .ref 10), (2, .int v2), (3, .int v3)] [] (fX12_atom_P90 rec k1 σ v2 v3) :=
  it_T (S := (fun t : St × Int32 × Int32 => t.1)) (lv := fun t : St × Int32 × Int32 => [(0, .ref 10), (2, .int t.2.1), (3, .int t.2.2)]) (st := fun _ => []) (fun kb hkb t => fX12_atom_L90_T d rec hrec (hk1 := hk1) (hkb := fun σ v2 v3 => hkb (σ, v2, v3)) t.1 t.2.1 t.2.2) FU (σ, v2, v3)
set_option maxRecDepth 100000 in
set_option maxHeartbeats 4000000 in
theorem fX12_atom_J86_T (d : Nat) (rec : St → Option (Int32 × St)) (hrec : ∀ (σ : St), Ct yX12_atom (kX12_atom d) [.ref 10] σ cSi (rec σ)) (σ : St) : T (kX12_atom (d + 1)) cSi σ 86 [(0, .ref 10)] [] (fX12_atom_J86 rec σ) := by
  unfold fX12_atom_J86
  refine T_iconst (pc := 86) (v := 0) dX12_atom_86 (by decide) ?_
  refine T_istore_n (pc := 87) (lv' := [(0, .ref 10), (2, .int (0 : Int32))]) dX12_atom_87 rfl (Nat.le_of_ble_eq_true rfl) rfl ?_
  refine T_iconst (pc := 88) (v := 0) dX12_atom_88 (by decide) ?_
  refine T_istore_n (pc := 89) (lv' := [(0, .ref 10), (2, .int (0 : Int32)), (3, .int (0 : Int32))]) dX12_atom_89 rfl (Nat.le_of_ble_eq_true rfl) rfl ?_
  refine fX12_atom_P90_T d rec hrec (hk1 := fun s8 => ?_) σ (0 : Int32) (0 : Int32)
  · refine T_aload_n (pc := 110) 0 dX12_atom_110 rfl rfl ?_
    refine T_callSz (pc := 111) (rest := []) (Rn_V (pc := 111) (as := []) (rest := []) (ctX12_fails s8) rfl rfl mv_X12_fails hw1708 rfl ⟨by simp only [kX12_fails, kX12_atom]; omega, by simp only [kX12_fails, kX12_atom]; omega⟩ (Nat.le_of_ble_eq_true rfl) dX12_atom_111 rfl) rfl (fun r9 => ?_)
    refine T_pop_i (pc := 114) dX12_atom_114 ?_
    refine T_iconst (pc := 115) (v := 0) dX12_atom_115 (by decide) ?_
    exact T_ireturn (pc := 116) rfl dX12_atom_116 rfl
set_option maxRecDepth 100000 in
set_option maxHeartbeats 4000000 in
theorem ctX12_atom_B (d : Nat) (rec : St → Option (Int32 × St)) (hrec : ∀ (σ : St), Ct yX12_atom (kX12_atom d) [.ref 10] σ cSi (rec σ)) (σ : St) : Ct yX12_atom (kX12_atom (d + 1)) [.ref 10] σ cSi (fX12_atom_B rec σ) := by
  refine Ct.of (by decide +kernel) rfl rfl (Nat.le_of_ble_eq_true rfl) ?_
  unfold fX12_atom_B
  show T _ _ _ 0 [(0, .ref 10)] [] _
  refine T_aload_n (pc := 0) 0 dX12_atom_0 rfl rfl ?_
  refine T_callSi (pc := 1) (rest := []) (Rn_V (pc := 1) (as := []) (rest := []) (ctX12_look σ) rfl rfl mv_X12_look hw1704 rfl ⟨by simp only [kX12_look, kX12_atom]; omega, by simp only [kX12_look, kX12_atom]; omega⟩ (Nat.le_of_ble_eq_true rfl) dX12_atom_1 rfl) rfl (fun r1 => ?_)
  refine T_istore_n (pc := 4) (lv' := [(0, .ref 10), (1, .int r1.1)]) dX12_atom_4 rfl (Nat.le_of_ble_eq_true rfl) rfl ?_
  refine T_ldcS (pc := 5) 201 (fun _ _ _ _ h => h.2.1.2.1) dX12_atom_5 ?_
  refine T_iload_n (pc := 7) 1 dX12_atom_7 rfl rfl ?_
  refine T_callPz (pc := 8) (rest := []) (Rn_S (pc := 8) (as := [.ref 201, .int r1.1]) (rest := []) (ctX12_isAmong_201 r1.2 r1.1) ms_X12_isAmong hw1743 rfl ⟨by simp only [kX12_isAmong_201, kX12_atom]; omega, by simp only [kX12_isAmong_201, kX12_atom]; omega⟩ (Nat.le_of_ble_eq_true rfl) dX12_atom_8 rfl) rfl (fun x2 => ?_)
  refine T_if_eq (pc := 11) 31 dX12_atom_11 (by decide) (fun _ => ?_) (fun _ => ?_)
  · refine T_iload_n (pc := 31) 1 dX12_atom_31 rfl rfl ?_
    refine T_bipush (pc := 32) (v := 91) dX12_atom_32 (by decide) ?_
    refine T_icmp_ne (pc := 34) 74 dX12_atom_34 (by decide) (fun _ => ?_) (fun _ => ?_)
    · refine T_aload_n (pc := 74) 0 dX12_atom_74 rfl rfl ?_
      refine T_callPz (pc := 75) (rest := []) (Rn_V (pc := 75) (as := []) (rest := []) (ctX12_isDigit r1.2) rfl rfl mv_X12_isDigit hw1822 rfl ⟨by simp only [kX12_isDigit, kX12_atom]; omega, by simp only [kX12_isDigit, kX12_atom]; omega⟩ (Nat.le_of_ble_eq_true rfl) dX12_atom_75 rfl) rfl (fun x3 => ?_)
      refine T_if_ne (pc := 78) 86 dX12_atom_78 (by decide) (fun _ => ?_) (fun _ => ?_)
      · refine T_pick (lv' := [(0, .ref 10)]) [0] rfl ?_
        exact fX12_atom_J86_T d rec hrec r1.2
      · refine T_aload_n (pc := 81) 0 dX12_atom_81 rfl rfl ?_
        refine T_callSz (pc := 82) (rest := []) (Rn_V (pc := 82) (as := []) (rest := []) (ctX12_fails r1.2) rfl rfl mv_X12_fails hw1708 rfl ⟨by simp only [kX12_fails, kX12_atom]; omega, by simp only [kX12_fails, kX12_atom]; omega⟩ (Nat.le_of_ble_eq_true rfl) dX12_atom_82 rfl) rfl (fun r10 => ?_)
        refine T_pop_i (pc := 85) dX12_atom_85 ?_
        refine T_pick (lv' := [(0, .ref 10)]) [0] rfl ?_
        exact fX12_atom_J86_T d rec hrec r10.2
    · refine T_aload_n (pc := 37) 0 dX12_atom_37 rfl rfl ?_
      refine T_callSz (pc := 38) (rest := []) (Rn_V (pc := 38) (as := []) (rest := []) (ctX12_goesIn r1.2) rfl rfl mv_X12_goesIn hw1818 rfl ⟨by simp only [kX12_goesIn, kX12_atom]; omega, by simp only [kX12_goesIn, kX12_atom]; omega⟩ (Nat.le_of_ble_eq_true rfl) dX12_atom_38 rfl) rfl (fun r11 => ?_)
      refine T_if_ne (pc := 41) 46 dX12_atom_41 (by decide) (fun _ => ?_) (fun _ => ?_)
      · refine T_aload_n (pc := 46) 0 dX12_atom_46 rfl rfl ?_
        refine T_callSi (pc := 47) (rest := []) (Rn_V (pc := 47) (as := []) (rest := []) (ctX12_sum_B d rec hrec r11.2) rfl rfl mv_X12_sum hw1806 rfl ⟨by simp only [kX12_sum, kX12_atom]; omega, by simp only [kX12_sum, kX12_atom]; omega⟩ (Nat.le_of_ble_eq_true rfl) dX12_atom_47 rfl) rfl (fun r12 => ?_)
        refine T_istore_n (pc := 50) (lv' := [(0, .ref 10), (1, .int r1.1), (2, .int r12.1)]) dX12_atom_50 rfl (Nat.le_of_ble_eq_true rfl) rfl ?_
        refine T_aload_n (pc := 51) 0 dX12_atom_51 rfl rfl ?_
        refine T_bipush (pc := 52) (v := 93) dX12_atom_52 (by decide) ?_
        refine T_callSz (pc := 54) (rest := []) (Rn_V (pc := 54) (as := [.int (93 : Int32)]) (rest := []) (ctX12_takes r12.2 (93 : Int32)) rfl rfl mv_X12_takes hw1720 rfl ⟨by simp only [kX12_takes, kX12_atom]; omega, by simp only [kX12_takes, kX12_atom]; omega⟩ (Nat.le_of_ble_eq_true rfl) dX12_atom_54 rfl) rfl (fun r13 => ?_)
        refine T_if_ne (pc := 57) 62 dX12_atom_57 (by decide) (fun _ => ?_) (fun _ => ?_)
        · refine T_aload_n (pc := 62) 0 dX12_atom_62 rfl rfl ?_
          refine T_dup_a (pc := 63) dX12_atom_63 ?_
          refine T_getI (pc := 64) fd_10_15 hw1518 dX12_atom_64 ?_
          refine T_iconst (pc := 67) (v := 1) dX12_atom_67 (by decide) ?_
          refine T_isub (pc := 68) dX12_atom_68 ?_
          refine T_putI (pc := 69) fd_10_15 hw1518 dX12_atom_69 ?_
          refine T_letS (fun s14 => ?_)
          refine T_iload_n (pc := 72) 2 dX12_atom_72 rfl rfl ?_
          exact T_ireturn (pc := 73) rfl dX12_atom_73 rfl
        · refine T_iconst (pc := 60) (v := 0) dX12_atom_60 (by decide) ?_
          exact T_ireturn (pc := 61) rfl dX12_atom_61 rfl
      · refine T_iconst (pc := 44) (v := 0) dX12_atom_44 (by decide) ?_
        exact T_ireturn (pc := 45) rfl dX12_atom_45 rfl
  · refine T_aload_n (pc := 14) 0 dX12_atom_14 rfl rfl ?_
    refine T_dup_a (pc := 15) dX12_atom_15 ?_
    refine T_getI (pc := 16) fd_10_13 hw1516 dX12_atom_16 ?_
    refine T_iconst (pc := 19) (v := 1) dX12_atom_19 (by decide) ?_
    refine T_iadd (pc := 20) dX12_atom_20 ?_
    refine T_putI (pc := 21) fd_10_13 hw1516 dX12_atom_21 ?_
    refine T_letS (fun s15 => ?_)
    refine T_aload_n (pc := 24) 0 dX12_atom_24 rfl rfl ?_
    refine T_getA (pc := 25) fd_10_5 hw1508 dX12_atom_25 ?_
    refine T_iload_n (pc := 28) 1 dX12_atom_28 rfl rfl ?_
    refine T_iald (pc := 29) rfl dX12_atom_29 (fun x16 => ?_)
    exact T_ireturn (pc := 30) rfl dX12_atom_30 rfl
theorem ctX12_atom : ∀ (d : Nat) (σ : St), Ct yX12_atom (kX12_atom d) [.ref 10] σ cSi (fX12_atom d σ)
  | 0, _ => fun _ h => by cases h
  | d + 1, σ => ctX12_atom_B d (fX12_atom d) (ctX12_atom d) σ
theorem ctX12_term (d : Nat) (σ : St) : Ct yX12_term (kX12_term d) [.ref 10] σ cSi (fX12_term d σ) := ctX12_term_B d (fX12_atom d) (ctX12_atom d) σ
theorem ctX12_sum (d : Nat) (σ : St) : Ct yX12_sum (kX12_sum d) [.ref 10] σ cSi (fX12_sum d σ) := ctX12_sum_B d (fX12_atom d) (ctX12_atom d) σ
set_option maxRecDepth 100000 in
set_option maxHeartbeats 4000000 in
theorem fX12_back_L37_T (σ : St) {kb : St → Int32 → Option (Int32 × St)} (hkb : ∀ (σ' : St) (w1 : Int32), T kX12_back cSi σ' 37 [(0, .ref 10), (1, .int w1)] [] (kb σ' w1)) (v1 : Int32) : T kX12_back cSi σ 37 [(0, .ref 10), (1, .int v1)] [] (fX12_back_L37 kb σ v1) := by
  unfold fX12_back_L37
  refine T_iload_n (pc := 37) 1 dX12_back_37 rfl rfl ?_
  refine T_aload_n (pc := 38) 0 dX12_back_38 rfl rfl ?_
  refine T_getI (pc := 39) fd_10_48 hw1551 dX12_back_39 ?_
  refine T_icmp_ge (pc := 42) 72 dX12_back_42 (by decide) (fun _ => ?_) (fun _ => ?_)
  · refine T_aload_n (pc := 72) 0 dX12_back_72 rfl rfl ?_
    refine T_getI (pc := 73) fd_10_8 hw1511 dX12_back_73 ?_
    refine T_aload_n (pc := 76) 0 dX12_back_76 rfl rfl ?_
    refine T_getI (pc := 77) fd_10_48 hw1551 dX12_back_77 ?_
    refine T_iadd (pc := 80) dX12_back_80 ?_
    exact T_ireturn (pc := 81) rfl dX12_back_81 rfl
  · refine T_aload_n (pc := 45) 0 dX12_back_45 rfl rfl ?_
    refine T_getA (pc := 46) fd_10_44 hw1547 dX12_back_46 ?_
    refine T_iload_n (pc := 49) 1 dX12_back_49 rfl rfl ?_
    refine T_iald (pc := 50) rfl dX12_back_50 (fun x6 => ?_)
    refine T_bipush (pc := 51) (v := 16) dX12_back_51 (by decide) ?_
    refine T_idiv (pc := 53) dX12_back_53 ?_
    refine T_aload_n (pc := 54) 0 dX12_back_54 rfl rfl ?_
    refine T_getI (pc := 55) fd_10_8 hw1511 dX12_back_55 ?_
    refine T_icmp_lt (pc := 58) 66 dX12_back_58 (by decide) (fun _ => ?_) (fun _ => ?_)
    · refine T_iinc (pc := 66) (y := 1) (lv' := [(0, .ref 10), (1, .int (v1 + (1 : Int32)))]) 1 dX12_back_66 (by decide) rfl (Nat.le_of_ble_eq_true rfl) rfl ?_
      refine T_goto (pc := 69) 37 dX12_back_69 (by decide) ?_
      exact hkb σ (v1 + (1 : Int32))
    · refine T_aload_n (pc := 61) 0 dX12_back_61 rfl rfl ?_
      refine T_iload_n (pc := 62) 1 dX12_back_62 rfl rfl ?_
      refine T_putI (pc := 63) fd_10_48 hw1551 dX12_back_63 ?_
      refine T_letS (fun s7 => ?_)
      refine T_iinc (pc := 66) (y := 1) (lv' := [(0, .ref 10), (1, .int (v1 + (1 : Int32)))]) 1 dX12_back_66 (by decide) rfl (Nat.le_of_ble_eq_true rfl) rfl ?_
      refine T_goto (pc := 69) 37 dX12_back_69 (by decide) ?_
      exact hkb s7 (v1 + (1 : Int32))
set_option maxRecDepth 100000 in
set_option maxHeartbeats 4000000 in
theorem fX12_back_P37_T (σ : St) (v1 : Int32) : T kX12_back cSi σ 37 [(0, .ref 10), (1, .int v1)] [] (fX12_back_P37 σ v1) :=
  it_T (S := (fun t : St × Int32 => t.1)) (lv := fun t : St × Int32 => [(0, .ref 10), (1, .int t.2)]) (st := fun _ => []) (fun kb hkb t => fX12_back_L37_T (hkb := fun σ v1 => hkb (σ, v1)) t.1 t.2) FU (σ, v1)
set_option maxRecDepth 100000 in
set_option maxHeartbeats 4000000 in
theorem ctX12_back (σ : St) : Ct yX12_back kX12_back [.ref 10] σ cSi (fX12_back σ) := by
  refine Ct.of (by decide +kernel) rfl rfl (Nat.le_of_ble_eq_true rfl) ?_
  unfold fX12_back
  show T _ _ _ 0 [(0, .ref 10)] [] _
  refine T_aload_n (pc := 0) 0 dX12_back_0 rfl rfl ?_
  refine T_iconst (pc := 1) (v := 0) dX12_back_1 (by decide) ?_
  refine T_putI (pc := 2) fd_10_0 hw1503 dX12_back_2 ?_
  refine T_letS (fun s1 => ?_)
  refine T_aload_n (pc := 5) 0 dX12_back_5 rfl rfl ?_
  refine T_aload_n (pc := 6) 0 dX12_back_6 rfl rfl ?_
  refine T_getI (pc := 7) fd_10_8 hw1511 dX12_back_7 ?_
  refine T_aload_n (pc := 10) 0 dX12_back_10 rfl rfl ?_
  refine T_getI (pc := 11) fd_10_52 hw1555 dX12_back_11 ?_
  refine T_callPi (pc := 14) (rest := [.ref 10]) (Rn_S (pc := 14) (as := [.int (zI s1 32), .int (zI s1 51)]) (rest := [.ref 10]) (ctJ9_min_7cf53 s1 (zI s1 32) (zI s1 51)) ms_J9_min_7cf53 hw1898 rfl ⟨Nat.le_of_ble_eq_true rfl, Nat.le_of_ble_eq_true rfl⟩ (Nat.le_of_ble_eq_true rfl) dX12_back_14 rfl) rfl (fun x2 => ?_)
  refine T_putI (pc := 17) fd_10_8 hw1511 dX12_back_17 ?_
  refine T_letS (fun s3 => ?_)
  refine T_aload_n (pc := 20) 0 dX12_back_20 rfl rfl ?_
  refine T_aload_n (pc := 21) 0 dX12_back_21 rfl rfl ?_
  refine T_getI (pc := 22) fd_10_48 hw1551 dX12_back_22 ?_
  refine T_aload_n (pc := 25) 0 dX12_back_25 rfl rfl ?_
  refine T_getI (pc := 26) fd_10_53 hw1556 dX12_back_26 ?_
  refine T_callPi (pc := 29) (rest := [.ref 10]) (Rn_S (pc := 29) (as := [.int (zI s3 48), .int (zI s3 52)]) (rest := [.ref 10]) (ctJ9_min_7cf53 s3 (zI s3 48) (zI s3 52)) ms_J9_min_7cf53 hw1898 rfl ⟨Nat.le_of_ble_eq_true rfl, Nat.le_of_ble_eq_true rfl⟩ (Nat.le_of_ble_eq_true rfl) dX12_back_29 rfl) rfl (fun x4 => ?_)
  refine T_putI (pc := 32) fd_10_48 hw1551 dX12_back_32 ?_
  refine T_letS (fun s5 => ?_)
  refine T_iconst (pc := 35) (v := 0) dX12_back_35 (by decide) ?_
  refine T_istore_n (pc := 36) (lv' := [(0, .ref 10), (1, .int (0 : Int32))]) dX12_back_36 rfl (Nat.le_of_ble_eq_true rfl) rfl ?_
  exact fX12_back_P37_T s5 (0 : Int32)
set_option maxRecDepth 100000 in
set_option maxHeartbeats 4000000 in
theorem ctX12_isPlot (σ : St) (p0 : Int32) : Ct yX12_isPlot kX12_isPlot [.ref 10, .int p0] σ (cPz σ) (fX12_isPlot σ p0) := by
  refine Ct.of (by decide +kernel) rfl rfl (Nat.le_of_ble_eq_true rfl) ?_
  unfold fX12_isPlot
  show T _ _ _ 0 [(0, .ref 10), (1, .int p0)] [] _
  refine T_iload_n (pc := 0) 1 dX12_isPlot_0 rfl rfl ?_
  refine T_if_lt (pc := 1) 16 dX12_isPlot_1 (by decide) (fun _ => ?_) (fun _ => ?_)
  · refine T_iconst (pc := 16) (v := 0) dX12_isPlot_16 (by decide) ?_
    exact T_zreturn (pc := 17) false rfl dX12_isPlot_17 rfl rfl
  · refine T_iload_n (pc := 4) 1 dX12_isPlot_4 rfl rfl ?_
    refine T_aload_n (pc := 5) 0 dX12_isPlot_5 rfl rfl ?_
    refine T_getI (pc := 6) fd_10_9 hw1512 dX12_isPlot_6 ?_
    refine T_icmp_ge (pc := 9) 16 dX12_isPlot_9 (by decide) (fun _ => ?_) (fun _ => ?_)
    · refine T_iconst (pc := 16) (v := 0) dX12_isPlot_16 (by decide) ?_
      exact T_zreturn (pc := 17) false rfl dX12_isPlot_17 rfl rfl
    · refine T_iconst (pc := 12) (v := 1) dX12_isPlot_12 (by decide) ?_
      refine T_goto (pc := 13) 17 dX12_isPlot_13 (by decide) ?_
      exact T_zreturn (pc := 17) true rfl dX12_isPlot_17 rfl rfl
set_option maxRecDepth 100000 in
set_option maxHeartbeats 4000000 in
theorem ctX12_isIn (σ : St) (p0 : Int32) (p1 : Int32) (p2 : Int32) : Ct yX12_isIn kX12_isIn [.int p0, .int p1, .int p2] σ (cPz σ) (fX12_isIn p0 p1 p2) := by
  refine Ct.of (by decide +kernel) rfl rfl (Nat.le_of_ble_eq_true rfl) ?_
  unfold fX12_isIn
  show T _ _ _ 0 [(0, .int p0), (1, .int p1), (2, .int p2)] [] _
  refine T_iload_n (pc := 0) 0 dX12_isIn_0 rfl rfl ?_
  refine T_iload_n (pc := 1) 1 dX12_isIn_1 rfl rfl ?_
  refine T_icmp_lt (pc := 2) 14 dX12_isIn_2 (by decide) (fun _ => ?_) (fun _ => ?_)
  · refine T_iconst (pc := 14) (v := 0) dX12_isIn_14 (by decide) ?_
    exact T_zreturn (pc := 15) false rfl dX12_isIn_15 rfl rfl
  · refine T_iload_n (pc := 5) 0 dX12_isIn_5 rfl rfl ?_
    refine T_iload_n (pc := 6) 2 dX12_isIn_6 rfl rfl ?_
    refine T_icmp_gt (pc := 7) 14 dX12_isIn_7 (by decide) (fun _ => ?_) (fun _ => ?_)
    · refine T_iconst (pc := 14) (v := 0) dX12_isIn_14 (by decide) ?_
      exact T_zreturn (pc := 15) false rfl dX12_isIn_15 rfl rfl
    · refine T_iconst (pc := 10) (v := 1) dX12_isIn_10 (by decide) ?_
      refine T_goto (pc := 11) 15 dX12_isIn_11 (by decide) ?_
      exact T_zreturn (pc := 15) true rfl dX12_isIn_15 rfl rfl
set_option maxRecDepth 100000 in
set_option maxHeartbeats 4000000 in
theorem fX12_partsOf_L4_T (v1 : Int32) (σ : St) {kb : Int32 → Int32 → Option Int32} (hkb : ∀ (w2 : Int32) (w3 : Int32), T kX12_partsOf (cPi σ) σ 4 [(0, .ref 10), (1, .int v1), (2, .int w2), (3, .int w3)] [] (kb w2 w3)) (v2 : Int32) (v3 : Int32) : T kX12_partsOf (cPi σ) σ 4 [(0, .ref 10), (1, .int v1), (2, .int v2), (3, .int v3)] [] (fX12_partsOf_L4 v1 kb σ v2 v3) := by
  unfold fX12_partsOf_L4
  refine T_iload_n (pc := 4) 3 dX12_partsOf_4 rfl rfl ?_
  refine T_aload_n (pc := 5) 0 dX12_partsOf_5 rfl rfl ?_
  refine T_getA (pc := 6) fd_10_28 hw1531 dX12_partsOf_6 ?_
  refine T_iload_n (pc := 9) 1 dX12_partsOf_9 rfl rfl ?_
  refine T_iald (pc := 10) rfl dX12_partsOf_10 (fun x1 => ?_)
  refine T_icmp_ge (pc := 11) 34 dX12_partsOf_11 (by decide) (fun _ => ?_) (fun _ => ?_)
  · refine T_iload_n (pc := 34) 2 dX12_partsOf_34 rfl rfl ?_
    exact T_ireturn (pc := 35) rfl dX12_partsOf_35 rfl
  · refine T_iload_n (pc := 14) 2 dX12_partsOf_14 rfl rfl ?_
    refine T_aload_n (pc := 15) 0 dX12_partsOf_15 rfl rfl ?_
    refine T_getA (pc := 16) fd_10_29 hw1532 dX12_partsOf_16 ?_
    refine T_bipush (pc := 19) (v := 20) dX12_partsOf_19 (by decide) ?_
    refine T_iload_n (pc := 21) 1 dX12_partsOf_21 rfl rfl ?_
    refine T_imul (pc := 22) dX12_partsOf_22 ?_
    refine T_iload_n (pc := 23) 3 dX12_partsOf_23 rfl rfl ?_
    refine T_iadd (pc := 24) dX12_partsOf_24 ?_
    refine T_iald (pc := 25) rfl dX12_partsOf_25 (fun x2 => ?_)
    refine T_ior (pc := 26) dX12_partsOf_26 ?_
    refine T_letI (fun x3 => ?_)
    refine T_istore_n (pc := 27) (lv' := [(0, .ref 10), (1, .int v1), (2, .int x3), (3, .int v3)]) dX12_partsOf_27 rfl (Nat.le_of_ble_eq_true rfl) rfl ?_
    refine T_iinc (pc := 28) (y := 1) (lv' := [(0, .ref 10), (1, .int v1), (2, .int x3), (3, .int (v3 + (1 : Int32)))]) 3 dX12_partsOf_28 (by decide) rfl (Nat.le_of_ble_eq_true rfl) rfl ?_
    refine T_goto (pc := 31) 4 dX12_partsOf_31 (by decide) ?_
    exact hkb x3 (v3 + (1 : Int32))
set_option maxRecDepth 100000 in
set_option maxHeartbeats 4000000 in
theorem fX12_partsOf_P4_T (v1 : Int32) (σ : St) (v2 : Int32) (v3 : Int32) : T kX12_partsOf (cPi σ) σ 4 [(0, .ref 10), (1, .int v1), (2, .int v2), (3, .int v3)] [] (fX12_partsOf_P4 v1 σ v2 v3) :=
  it_T (S := (fun _ : Int32 × Int32 => σ)) (lv := fun t : Int32 × Int32 => [(0, .ref 10), (1, .int v1), (2, .int t.1), (3, .int t.2)]) (st := fun _ => []) (fun kb hkb t => fX12_partsOf_L4_T v1 (hkb := fun v2 v3 => hkb (v2, v3)) σ t.1 t.2) FU (v2, v3)
set_option maxRecDepth 100000 in
set_option maxHeartbeats 4000000 in
theorem ctX12_partsOf (σ : St) (p0 : Int32) : Ct yX12_partsOf kX12_partsOf [.ref 10, .int p0] σ (cPi σ) (fX12_partsOf σ p0) := by
  refine Ct.of (by decide +kernel) rfl rfl (Nat.le_of_ble_eq_true rfl) ?_
  unfold fX12_partsOf
  show T _ _ _ 0 [(0, .ref 10), (1, .int p0)] [] _
  refine T_iconst (pc := 0) (v := 0) dX12_partsOf_0 (by decide) ?_
  refine T_istore_n (pc := 1) (lv' := [(0, .ref 10), (1, .int p0), (2, .int (0 : Int32))]) dX12_partsOf_1 rfl (Nat.le_of_ble_eq_true rfl) rfl ?_
  refine T_iconst (pc := 2) (v := 0) dX12_partsOf_2 (by decide) ?_
  refine T_istore_n (pc := 3) (lv' := [(0, .ref 10), (1, .int p0), (2, .int (0 : Int32)), (3, .int (0 : Int32))]) dX12_partsOf_3 rfl (Nat.le_of_ble_eq_true rfl) rfl ?_
  exact fX12_partsOf_P4_T p0 σ (0 : Int32) (0 : Int32)
set_option maxRecDepth 100000 in
set_option maxHeartbeats 4000000 in
theorem ctX12_has (σ : St) (p0 : Int32) (p1 : Int32) : Ct yX12_has kX12_has [.int p0, .int p1] σ (cPz σ) (fX12_has p0 p1) := by
  refine Ct.of (by decide +kernel) rfl rfl (Nat.le_of_ble_eq_true rfl) ?_
  unfold fX12_has
  show T _ _ _ 0 [(0, .int p0), (1, .int p1)] [] _
  refine T_iload_n (pc := 0) 0 dX12_has_0 rfl rfl ?_
  refine T_iload_n (pc := 1) 1 dX12_has_1 rfl rfl ?_
  refine T_ishr (pc := 2) dX12_has_2 ?_
  refine T_iconst (pc := 3) (v := 1) dX12_has_3 (by decide) ?_
  refine T_iand (pc := 4) dX12_has_4 ?_
  refine T_iconst (pc := 5) (v := 1) dX12_has_5 (by decide) ?_
  refine T_icmp_ne (pc := 6) 13 dX12_has_6 (by decide) (fun _ => ?_) (fun _ => ?_)
  · refine T_iconst (pc := 13) (v := 0) dX12_has_13 (by decide) ?_
    exact T_zreturn (pc := 14) false rfl dX12_has_14 rfl rfl
  · refine T_iconst (pc := 9) (v := 1) dX12_has_9 (by decide) ?_
    refine T_goto (pc := 10) 14 dX12_has_10 (by decide) ?_
    exact T_zreturn (pc := 14) true rfl dX12_has_14 rfl rfl
set_option maxRecDepth 100000 in
set_option maxHeartbeats 4000000 in
theorem ctX12_isPart (σ : St) (p0 : Int32) (p1 : Int32) : Ct yX12_isPart kX12_isPart [.ref 10, .int p0, .int p1] σ (cPz σ) (fX12_isPart σ p0 p1) := by
  refine Ct.of (by decide +kernel) rfl rfl (Nat.le_of_ble_eq_true rfl) ?_
  unfold fX12_isPart
  show T _ _ _ 0 [(0, .ref 10), (1, .int p0), (2, .int p1)] [] _
  refine T_aload_n (pc := 0) 0 dX12_isPart_0 rfl rfl ?_
  refine T_iload_n (pc := 1) 1 dX12_isPart_1 rfl rfl ?_
  refine T_callPz (pc := 2) (rest := []) (Rn_V (pc := 2) (as := [.int p0]) (rest := []) (ctX12_isPlot σ p0) rfl rfl mv_X12_isPlot hw2056 rfl ⟨Nat.le_of_ble_eq_true rfl, Nat.le_of_ble_eq_true rfl⟩ (Nat.le_of_ble_eq_true rfl) dX12_isPart_2 rfl) rfl (fun x1 => ?_)
  refine T_if_eq (pc := 5) 34 dX12_isPart_5 (by decide) (fun _ => ?_) (fun _ => ?_)
  · refine T_iconst (pc := 34) (v := 0) dX12_isPart_34 (by decide) ?_
    exact T_zreturn (pc := 35) false rfl dX12_isPart_35 rfl rfl
  · refine T_iload_n (pc := 8) 2 dX12_isPart_8 rfl rfl ?_
    refine T_iconst (pc := 9) (v := 0) dX12_isPart_9 (by decide) ?_
    refine T_bipush (pc := 10) (v := 9) dX12_isPart_10 (by decide) ?_
    refine T_callPz (pc := 12) (rest := []) (Rn_S (pc := 12) (as := [.int p1, .int (0 : Int32), .int (9 : Int32)]) (rest := []) (ctX12_isIn σ p1 (0 : Int32) (9 : Int32)) ms_X12_isIn hw1689 rfl ⟨Nat.le_of_ble_eq_true rfl, Nat.le_of_ble_eq_true rfl⟩ (Nat.le_of_ble_eq_true rfl) dX12_isPart_12 rfl) rfl (fun x2 => ?_)
    refine T_if_eq (pc := 15) 34 dX12_isPart_15 (by decide) (fun _ => ?_) (fun _ => ?_)
    · refine T_iconst (pc := 34) (v := 0) dX12_isPart_34 (by decide) ?_
      exact T_zreturn (pc := 35) false rfl dX12_isPart_35 rfl rfl
    · refine T_aload_n (pc := 18) 0 dX12_isPart_18 rfl rfl ?_
      refine T_iload_n (pc := 19) 1 dX12_isPart_19 rfl rfl ?_
      refine T_callPi (pc := 20) (rest := []) (Rn_V (pc := 20) (as := [.int p0]) (rest := []) (ctX12_partsOf σ p0) rfl rfl mv_X12_partsOf hw2060 rfl ⟨Nat.le_of_ble_eq_true rfl, Nat.le_of_ble_eq_true rfl⟩ (Nat.le_of_ble_eq_true rfl) dX12_isPart_20 rfl) rfl (fun x3 => ?_)
      refine T_iload_n (pc := 23) 2 dX12_isPart_23 rfl rfl ?_
      refine T_callPz (pc := 24) (rest := []) (Rn_S (pc := 24) (as := [.int x3, .int p1]) (rest := []) (ctX12_has σ x3 p1) ms_X12_has hw1732 rfl ⟨Nat.le_of_ble_eq_true rfl, Nat.le_of_ble_eq_true rfl⟩ (Nat.le_of_ble_eq_true rfl) dX12_isPart_24 rfl) rfl (fun x4 => ?_)
      refine T_if_eq (pc := 27) 34 dX12_isPart_27 (by decide) (fun _ => ?_) (fun _ => ?_)
      · refine T_iconst (pc := 34) (v := 0) dX12_isPart_34 (by decide) ?_
        exact T_zreturn (pc := 35) false rfl dX12_isPart_35 rfl rfl
      · refine T_iconst (pc := 30) (v := 1) dX12_isPart_30 (by decide) ?_
        refine T_goto (pc := 31) 35 dX12_isPart_31 (by decide) ?_
        exact T_zreturn (pc := 35) true rfl dX12_isPart_35 rfl rfl
set_option maxRecDepth 100000 in
set_option maxHeartbeats 4000000 in
theorem ctJ9_abs_0f7a4 (σ : St) (p0 : Int32) : Ct yJ9_abs_0f7a4 kJ9_abs_0f7a4 [.int p0] σ (cPi σ) (fJ9_abs_0f7a4 p0) := by
  refine Ct.ofJ (by decide +kernel) rfl rfl (Nat.le_of_ble_eq_true rfl) ?_
  unfold fJ9_abs_0f7a4
  show T _ _ _ 0 [(0, .int p0)] [] _
  refine T_iload_n (pc := 0) 0 dJ9_abs_0f7a4_0 rfl rfl ?_
  refine T_if_ge (pc := 1) 9 dJ9_abs_0f7a4_1 (by decide) (fun _ => ?_) (fun _ => ?_)
  · refine T_iload_n (pc := 9) 0 dJ9_abs_0f7a4_9 rfl rfl ?_
    exact T_ireturn (pc := 10) rfl dJ9_abs_0f7a4_10 rfl
  · refine T_iload_n (pc := 4) 0 dJ9_abs_0f7a4_4 rfl rfl ?_
    refine T_ineg (pc := 5) dJ9_abs_0f7a4_5 ?_
    refine T_goto (pc := 6) 10 dJ9_abs_0f7a4_6 (by decide) ?_
    exact T_ireturn (pc := 10) rfl dJ9_abs_0f7a4_10 rfl
set_option maxRecDepth 100000 in
set_option maxHeartbeats 4000000 in
theorem fX12_barsIt_L38_T (v1 : Int32) (v2 : Int32) (v3 : Int32) (v4 : Int32) (v5 : Int32) (σ : St) {k1 : Unit → Option Bool} {kb : Int32 → Option Bool} (hk1 : ∀ (_u : Unit), T kX12_barsIt (cPz σ) σ 108 [(0, .ref 10), (1, .int v1), (2, .int v2), (3, .int v3), (4, .int v4), (5, .int v5)] [] (k1 ())) (hkb : ∀ (w6 : Int32), T kX12_barsIt (cPz σ) σ 38 [(0, .ref 10), (1, .int v1), (2, .int v2), (3, .int v3), (4, .int v4), (5, .int v5), (6, .int w6)] [] (kb w6)) (v6 : Int32) : T kX12_barsIt (cPz σ) σ 38 [(0, .ref 10), (1, .int v1), (2, .int v2), (3, .int v3), (4, .int v4), (5, .int v5), (6, .int v6)] [] (fX12_barsIt_L38 v1 v2 v3 v4 v5 k1 kb σ v6) := by
  unfold fX12_barsIt_L38
  refine T_iload (pc := 38) 6 dX12_barsIt_38 rfl ?_
  refine T_aload_n (pc := 40) 0 dX12_barsIt_40 rfl rfl ?_
  refine T_getA (pc := 41) fd_10_28 hw1531 dX12_barsIt_41 ?_
  refine T_iload_n (pc := 44) 1 dX12_barsIt_44 rfl rfl ?_
  refine T_iald (pc := 45) rfl dX12_barsIt_45 (fun x4 => ?_)
  refine T_icmp_ge (pc := 46) 108 dX12_barsIt_46 (by decide) (fun _ => ?_) (fun _ => ?_)
  · refine T_pick (lv' := [(0, .ref 10), (1, .int v1), (2, .int v2), (3, .int v3), (4, .int v4), (5, .int v5)]) [0, 1, 2, 3, 4, 5] rfl ?_
    exact hk1 ()
  · refine T_iload (pc := 49) 5 dX12_barsIt_49 rfl ?_
    refine T_iload (pc := 51) 6 dX12_barsIt_51 rfl ?_
    refine T_isub (pc := 53) dX12_barsIt_53 ?_
    refine T_callPi (pc := 54) (rest := []) (Rn_S (pc := 54) (as := [.int (v5 - v6)]) (rest := []) (ctJ9_abs_0f7a4 σ (v5 - v6)) ms_J9_abs_0f7a4 hw2076 rfl ⟨Nat.le_of_ble_eq_true rfl, Nat.le_of_ble_eq_true rfl⟩ (Nat.le_of_ble_eq_true rfl) dX12_barsIt_54 rfl) rfl (fun x5 => ?_)
    refine T_iload (pc := 57) 4 dX12_barsIt_57 rfl ?_
    refine T_icmp_gt (pc := 59) 102 dX12_barsIt_59 (by decide) (fun _ => ?_) (fun _ => ?_)
    · refine T_iinc (pc := 102) (y := 1) (lv' := [(0, .ref 10), (1, .int v1), (2, .int v2), (3, .int v3), (4, .int v4), (5, .int v5), (6, .int (v6 + (1 : Int32)))]) 6 dX12_barsIt_102 (by decide) rfl (Nat.le_of_ble_eq_true rfl) rfl ?_
      refine T_goto (pc := 105) 38 dX12_barsIt_105 (by decide) ?_
      exact hkb (v6 + (1 : Int32))
    · refine T_aload_n (pc := 62) 0 dX12_barsIt_62 rfl rfl ?_
      refine T_getA (pc := 63) fd_10_29 hw1532 dX12_barsIt_63 ?_
      refine T_bipush (pc := 66) (v := 20) dX12_barsIt_66 (by decide) ?_
      refine T_iload_n (pc := 68) 1 dX12_barsIt_68 rfl rfl ?_
      refine T_imul (pc := 69) dX12_barsIt_69 ?_
      refine T_iload (pc := 70) 5 dX12_barsIt_70 rfl ?_
      refine T_iadd (pc := 72) dX12_barsIt_72 ?_
      refine T_iald (pc := 73) rfl dX12_barsIt_73 (fun x6 => ?_)
      refine T_iload_n (pc := 74) 2 dX12_barsIt_74 rfl rfl ?_
      refine T_callPz (pc := 75) (rest := []) (Rn_S (pc := 75) (as := [.int x6, .int v2]) (rest := []) (ctX12_has σ x6 v2) ms_X12_has hw1732 rfl ⟨Nat.le_of_ble_eq_true rfl, Nat.le_of_ble_eq_true rfl⟩ (Nat.le_of_ble_eq_true rfl) dX12_barsIt_75 rfl) rfl (fun x7 => ?_)
      refine T_if_eq (pc := 78) 102 dX12_barsIt_78 (by decide) (fun _ => ?_) (fun _ => ?_)
      · refine T_iinc (pc := 102) (y := 1) (lv' := [(0, .ref 10), (1, .int v1), (2, .int v2), (3, .int v3), (4, .int v4), (5, .int v5), (6, .int (v6 + (1 : Int32)))]) 6 dX12_barsIt_102 (by decide) rfl (Nat.le_of_ble_eq_true rfl) rfl ?_
        refine T_goto (pc := 105) 38 dX12_barsIt_105 (by decide) ?_
        exact hkb (v6 + (1 : Int32))
      · refine T_aload_n (pc := 81) 0 dX12_barsIt_81 rfl rfl ?_
        refine T_getA (pc := 82) fd_10_29 hw1532 dX12_barsIt_82 ?_
        refine T_bipush (pc := 85) (v := 20) dX12_barsIt_85 (by decide) ?_
        refine T_iload_n (pc := 87) 1 dX12_barsIt_87 rfl rfl ?_
        refine T_imul (pc := 88) dX12_barsIt_88 ?_
        refine T_iload (pc := 89) 6 dX12_barsIt_89 rfl ?_
        refine T_iadd (pc := 91) dX12_barsIt_91 ?_
        refine T_iald (pc := 92) rfl dX12_barsIt_92 (fun x8 => ?_)
        refine T_iload_n (pc := 93) 3 dX12_barsIt_93 rfl rfl ?_
        refine T_callPz (pc := 94) (rest := []) (Rn_S (pc := 94) (as := [.int x8, .int v3]) (rest := []) (ctX12_has σ x8 v3) ms_X12_has hw1732 rfl ⟨Nat.le_of_ble_eq_true rfl, Nat.le_of_ble_eq_true rfl⟩ (Nat.le_of_ble_eq_true rfl) dX12_barsIt_94 rfl) rfl (fun x9 => ?_)
        refine T_if_eq (pc := 97) 102 dX12_barsIt_97 (by decide) (fun _ => ?_) (fun _ => ?_)
        · refine T_iinc (pc := 102) (y := 1) (lv' := [(0, .ref 10), (1, .int v1), (2, .int v2), (3, .int v3), (4, .int v4), (5, .int v5), (6, .int (v6 + (1 : Int32)))]) 6 dX12_barsIt_102 (by decide) rfl (Nat.le_of_ble_eq_true rfl) rfl ?_
          refine T_goto (pc := 105) 38 dX12_barsIt_105 (by decide) ?_
          exact hkb (v6 + (1 : Int32))
        · refine T_iconst (pc := 100) (v := 1) dX12_barsIt_100 (by decide) ?_
          exact T_zreturn (pc := 101) true rfl dX12_barsIt_101 rfl rfl
set_option maxRecDepth 100000 in
set_option maxHeartbeats 4000000 in
theorem fX12_barsIt_P38_T (v1 : Int32) (v2 : Int32) (v3 : Int32) (v4 : Int32) (v5 : Int32) (σ : St) {k1 : Unit → Option Bool} (hk1 : ∀ (_u : Unit), T kX12_barsIt (cPz σ) σ 108 [(0, .ref 10), (1, .int v1), (2, .int v2), (3, .int v3), (4, .int v4), (5, .int v5)] [] (k1 ())) (v6 : Int32) : T kX12_barsIt (cPz σ) σ 38 [(0, .ref 10), (1, .int v1), (2, .int v2), (3, .int v3), (4, .int v4), (5, .int v5), (6, .int v6)] [] (fX12_barsIt_P38 v1 v2 v3 v4 v5 k1 σ v6) :=
  it_T (S := (fun _ : Int32 => σ)) (lv := fun t : Int32 => [(0, .ref 10), (1, .int v1), (2, .int v2), (3, .int v3), (4, .int v4), (5, .int v5), (6, .int t)]) (st := fun _ => []) (fun kb hkb t => fX12_barsIt_L38_T v1 v2 v3 v4 v5 (hk1 := hk1) (hkb := fun v6 => hkb v6) σ t) FU v6
set_option maxRecDepth 100000 in
set_option maxHeartbeats 4000000 in
theorem fX12_barsIt_L24_T (v1 : Int32) (v2 : Int32) (v3 : Int32) (v4 : Int32) (σ : St) {kb : Int32 → Option Bool} (hkb : ∀ (w5 : Int32), T kX12_barsIt (cPz σ) σ 24 [(0, .ref 10), (1, .int v1), (2, .int v2), (3, .int v3), (4, .int v4), (5, .int w5)] [] (kb w5)) (v5 : Int32) : T kX12_barsIt (cPz σ) σ 24 [(0, .ref 10), (1, .int v1), (2, .int v2), (3, .int v3), (4, .int v4), (5, .int v5)] [] (fX12_barsIt_L24 v1 v2 v3 v4 kb σ v5) := by
  unfold fX12_barsIt_L24
  refine T_iload (pc := 24) 5 dX12_barsIt_24 rfl ?_
  refine T_aload_n (pc := 26) 0 dX12_barsIt_26 rfl rfl ?_
  refine T_getA (pc := 27) fd_10_28 hw1531 dX12_barsIt_27 ?_
  refine T_iload_n (pc := 30) 1 dX12_barsIt_30 rfl rfl ?_
  refine T_iald (pc := 31) rfl dX12_barsIt_31 (fun x3 => ?_)
  refine T_icmp_ge (pc := 32) 114 dX12_barsIt_32 (by decide) (fun _ => ?_) (fun _ => ?_)
  · refine T_iconst (pc := 114) (v := 0) dX12_barsIt_114 (by decide) ?_
    exact T_zreturn (pc := 115) false rfl dX12_barsIt_115 rfl rfl
  · refine T_iconst (pc := 35) (v := 0) dX12_barsIt_35 (by decide) ?_
    refine T_istore (pc := 36) (lv' := [(0, .ref 10), (1, .int v1), (2, .int v2), (3, .int v3), (4, .int v4), (5, .int v5), (6, .int (0 : Int32))]) dX12_barsIt_36 (Nat.le_of_ble_eq_true rfl) rfl ?_
    refine fX12_barsIt_P38_T v1 v2 v3 v4 v5 (hk1 := fun _u => ?_) σ (0 : Int32)
    · refine T_iinc (pc := 108) (y := 1) (lv' := [(0, .ref 10), (1, .int v1), (2, .int v2), (3, .int v3), (4, .int v4), (5, .int (v5 + (1 : Int32)))]) 5 dX12_barsIt_108 (by decide) rfl (Nat.le_of_ble_eq_true rfl) rfl ?_
      refine T_goto (pc := 111) 24 dX12_barsIt_111 (by decide) ?_
      exact hkb (v5 + (1 : Int32))
set_option maxRecDepth 100000 in
set_option maxHeartbeats 4000000 in
theorem fX12_barsIt_P24_T (v1 : Int32) (v2 : Int32) (v3 : Int32) (v4 : Int32) (σ : St) (v5 : Int32) : T kX12_barsIt (cPz σ) σ 24 [(0, .ref 10), (1, .int v1), (2, .int v2), (3, .int v3), (4, .int v4), (5, .int v5)] [] (fX12_barsIt_P24 v1 v2 v3 v4 σ v5) :=
  it_T (S := (fun _ : Int32 => σ)) (lv := fun t : Int32 => [(0, .ref 10), (1, .int v1), (2, .int v2), (3, .int v3), (4, .int v4), (5, .int t)]) (st := fun _ => []) (fun kb hkb t => fX12_barsIt_L24_T v1 v2 v3 v4 (hkb := fun v5 => hkb v5) σ t) FU v5
set_option maxRecDepth 100000 in
set_option maxHeartbeats 4000000 in
theorem ctX12_barsIt (σ : St) (p0 : Int32) (p1 : Int32) (p2 : Int32) (p3 : Int32) : Ct yX12_barsIt kX12_barsIt [.ref 10, .int p0, .int p1, .int p2, .int p3] σ (cPz σ) (fX12_barsIt σ p0 p1 p2 p3) := by
  refine Ct.of (by decide +kernel) rfl rfl (Nat.le_of_ble_eq_true rfl) ?_
  unfold fX12_barsIt
  show T _ _ _ 0 [(0, .ref 10), (1, .int p0), (2, .int p1), (3, .int p2), (4, .int p3)] [] _
  refine T_aload_n (pc := 0) 0 dX12_barsIt_0 rfl rfl ?_
  refine T_getI (pc := 1) fd_10_50 hw1553 dX12_barsIt_1 ?_
  refine T_iload_n (pc := 4) 2 dX12_barsIt_4 rfl rfl ?_
  refine T_callPz (pc := 5) (rest := []) (Rn_S (pc := 5) (as := [.int (zI σ 50), .int p1]) (rest := []) (ctX12_has σ (zI σ 50) p1) ms_X12_has hw1732 rfl ⟨Nat.le_of_ble_eq_true rfl, Nat.le_of_ble_eq_true rfl⟩ (Nat.le_of_ble_eq_true rfl) dX12_barsIt_5 rfl) rfl (fun x1 => ?_)
  refine T_aload_n (pc := 8) 0 dX12_barsIt_8 rfl rfl ?_
  refine T_getI (pc := 9) fd_10_50 hw1553 dX12_barsIt_9 ?_
  refine T_iload_n (pc := 12) 3 dX12_barsIt_12 rfl rfl ?_
  refine T_callPz (pc := 13) (rest := [.int (bi x1)]) (Rn_S (pc := 13) (as := [.int (zI σ 50), .int p2]) (rest := [.int (bi x1)]) (ctX12_has σ (zI σ 50) p2) ms_X12_has hw1732 rfl ⟨Nat.le_of_ble_eq_true rfl, Nat.le_of_ble_eq_true rfl⟩ (Nat.le_of_ble_eq_true rfl) dX12_barsIt_13 rfl) rfl (fun x2 => ?_)
  refine T_icmp_eq (pc := 16) 21 dX12_barsIt_16 (by decide) (fun _ => ?_) (fun _ => ?_)
  · refine T_iconst (pc := 21) (v := 0) dX12_barsIt_21 (by decide) ?_
    refine T_istore (pc := 22) (lv' := [(0, .ref 10), (1, .int p0), (2, .int p1), (3, .int p2), (4, .int p3), (5, .int (0 : Int32))]) dX12_barsIt_22 (Nat.le_of_ble_eq_true rfl) rfl ?_
    exact fX12_barsIt_P24_T p0 p1 p2 p3 σ (0 : Int32)
  · refine T_iconst (pc := 19) (v := 0) dX12_barsIt_19 (by decide) ?_
    exact T_zreturn (pc := 20) false rfl dX12_barsIt_20 rfl rfl
set_option maxRecDepth 100000 in
set_option maxHeartbeats 4000000 in
theorem ctX12_bars (σ : St) (p0 : Int32) (p1 : Int32) (p2 : Int32) (p3 : Int32) : Ct yX12_bars kX12_bars [.ref 10, .int p0, .int p1, .int p2, .int p3] σ cSi (fX12_bars σ p0 p1 p2 p3) := by
  refine Ct.of (by decide +kernel) rfl rfl (Nat.le_of_ble_eq_true rfl) ?_
  unfold fX12_bars
  show T _ _ _ 0 [(0, .ref 10), (1, .int p0), (2, .int p1), (3, .int p2), (4, .int p3)] [] _
  refine T_aload_n (pc := 0) 0 dX12_bars_0 rfl rfl ?_
  refine T_iconst (pc := 1) (v := 0) dX12_bars_1 (by decide) ?_
  refine T_putI (pc := 2) fd_10_0 hw1503 dX12_bars_2 ?_
  refine T_letS (fun s1 => ?_)
  refine T_aload_n (pc := 5) 0 dX12_bars_5 rfl rfl ?_
  refine T_iload_n (pc := 6) 1 dX12_bars_6 rfl rfl ?_
  refine T_iload_n (pc := 7) 2 dX12_bars_7 rfl rfl ?_
  refine T_callPz (pc := 8) (rest := []) (Rn_V (pc := 8) (as := [.int p0, .int p1]) (rest := []) (ctX12_isPart s1 p0 p1) rfl rfl mv_X12_isPart hw2068 rfl ⟨Nat.le_of_ble_eq_true rfl, Nat.le_of_ble_eq_true rfl⟩ (Nat.le_of_ble_eq_true rfl) dX12_bars_8 rfl) rfl (fun x2 => ?_)
  refine T_if_eq (pc := 11) 38 dX12_bars_11 (by decide) (fun _ => ?_) (fun _ => ?_)
  · refine T_iconst (pc := 38) (v := -1) dX12_bars_38 (by decide) ?_
    refine T_goto (pc := 39) 59 dX12_bars_39 (by decide) ?_
    exact T_ireturn (pc := 59) rfl dX12_bars_59 rfl
  · refine T_aload_n (pc := 14) 0 dX12_bars_14 rfl rfl ?_
    refine T_iload_n (pc := 15) 1 dX12_bars_15 rfl rfl ?_
    refine T_iload_n (pc := 16) 3 dX12_bars_16 rfl rfl ?_
    refine T_callPz (pc := 17) (rest := []) (Rn_V (pc := 17) (as := [.int p0, .int p2]) (rest := []) (ctX12_isPart s1 p0 p2) rfl rfl mv_X12_isPart hw2068 rfl ⟨Nat.le_of_ble_eq_true rfl, Nat.le_of_ble_eq_true rfl⟩ (Nat.le_of_ble_eq_true rfl) dX12_bars_17 rfl) rfl (fun x3 => ?_)
    refine T_if_eq (pc := 20) 38 dX12_bars_20 (by decide) (fun _ => ?_) (fun _ => ?_)
    · refine T_iconst (pc := 38) (v := -1) dX12_bars_38 (by decide) ?_
      refine T_goto (pc := 39) 59 dX12_bars_39 (by decide) ?_
      exact T_ireturn (pc := 59) rfl dX12_bars_59 rfl
    · refine T_iload_n (pc := 23) 2 dX12_bars_23 rfl rfl ?_
      refine T_iload_n (pc := 24) 3 dX12_bars_24 rfl rfl ?_
      refine T_icmp_eq (pc := 25) 38 dX12_bars_25 (by decide) (fun _ => ?_) (fun _ => ?_)
      · refine T_iconst (pc := 38) (v := -1) dX12_bars_38 (by decide) ?_
        refine T_goto (pc := 39) 59 dX12_bars_39 (by decide) ?_
        exact T_ireturn (pc := 59) rfl dX12_bars_59 rfl
      · refine T_iload (pc := 28) 4 dX12_bars_28 rfl ?_
        refine T_iconst (pc := 30) (v := 0) dX12_bars_30 (by decide) ?_
        refine T_iconst (pc := 31) (v := 3) dX12_bars_31 (by decide) ?_
        refine T_callPz (pc := 32) (rest := []) (Rn_S (pc := 32) (as := [.int p3, .int (0 : Int32), .int (3 : Int32)]) (rest := []) (ctX12_isIn s1 p3 (0 : Int32) (3 : Int32)) ms_X12_isIn hw1689 rfl ⟨Nat.le_of_ble_eq_true rfl, Nat.le_of_ble_eq_true rfl⟩ (Nat.le_of_ble_eq_true rfl) dX12_bars_32 rfl) rfl (fun x4 => ?_)
        refine T_if_ne (pc := 35) 42 dX12_bars_35 (by decide) (fun _ => ?_) (fun _ => ?_)
        · refine T_aload_n (pc := 42) 0 dX12_bars_42 rfl rfl ?_
          refine T_iload_n (pc := 43) 1 dX12_bars_43 rfl rfl ?_
          refine T_iload_n (pc := 44) 2 dX12_bars_44 rfl rfl ?_
          refine T_iload_n (pc := 45) 3 dX12_bars_45 rfl rfl ?_
          refine T_iload (pc := 46) 4 dX12_bars_46 rfl ?_
          refine T_callPz (pc := 48) (rest := []) (Rn_V (pc := 48) (as := [.int p0, .int p1, .int p2, .int p3]) (rest := []) (ctX12_barsIt s1 p0 p1 p2 p3) rfl rfl mv_X12_barsIt hw2072 rfl ⟨Nat.le_of_ble_eq_true rfl, Nat.le_of_ble_eq_true rfl⟩ (Nat.le_of_ble_eq_true rfl) dX12_bars_48 rfl) rfl (fun x5 => ?_)
          refine T_if_eq (pc := 51) 58 dX12_bars_51 (by decide) (fun _ => ?_) (fun _ => ?_)
          · refine T_iconst (pc := 58) (v := 0) dX12_bars_58 (by decide) ?_
            exact T_ireturn (pc := 59) rfl dX12_bars_59 rfl
          · refine T_iconst (pc := 54) (v := 1) dX12_bars_54 (by decide) ?_
            refine T_goto (pc := 55) 59 dX12_bars_55 (by decide) ?_
            exact T_ireturn (pc := 59) rfl dX12_bars_59 rfl
        · refine T_iconst (pc := 38) (v := -1) dX12_bars_38 (by decide) ?_
          refine T_goto (pc := 39) 59 dX12_bars_39 (by decide) ?_
          exact T_ireturn (pc := 59) rfl dX12_bars_59 rfl
